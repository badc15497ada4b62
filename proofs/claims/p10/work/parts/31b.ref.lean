set_option maxHeartbeats 4000000 in
set_option maxRecDepth 100000 in
theorem c_X12_measureOne (l : Launch) (D : gD) (H0 : gB) (h0 : Nat) (R : RS) (kc ns : Nat) (i0 i1 i2 i3 : Int32) (hI : RI R) (g00 : 0 ≤ i0.toInt) (g10 : i0.toInt < 30) (g01 : 0 ≤ i1.toInt) (g11 : i1.toInt < 30) (p02 : 0 ≤ i2.toInt) (p12 : i2.toInt < (rA R 10 i0.toNatClampNeg).toInt) (p03 : 0 ≤ i3.toInt) (p13 : i3.toInt < (rA R 10 i1.toNatClampNeg).toInt)  : Met l yX12_measureOne (wsU yX12_measureOne cX12_measureOne 13 (some .int)) ({ frames := 2, cells := 0, slots := 0, locals := 45 } : Room) (mP D H0 (rM h0 R) kc ns [.ref h0, .int i0, .int i1, .int i2, .int i3]) (mQ D H0 gI (fun r S1 k1 n1 => kc = k1 ∧ ns = n1 ∧ ∃ R1, S1 = rM h0 R1 ∧ fr [24] R R1 ∧ True)) 0 0 (mF H0) := by
  refine r_met (own := RX12) (by decide +kernel) rfl (Nat.le_of_ble_eq_true rfl) ?_
  intro p e s m args below meth c C hr hlk hnm H ls hl hM
  obtain ⟨hx, hb, hml, hown, hts, -, -⟩ := id C
  have hl : lv_has ls 13 [(0, .ref h0), (1, .int i0), (2, .int i1), (3, .int i2), (4, .int i3)] := hl
  have hF : fr [24] R R := fr.rf
  have hI0 := hI
  have t_m1 : (-1 : Int32).toInt = -1 := by decide
  have t_0 : (0 : Int32).toInt = 0 := by decide
  have t_1 : (1 : Int32).toInt = 1 := by decide
  have t_3 : (3 : Int32).toInt = 3 := by decide
  have t_60 : (60 : Int32).toInt = 60 := by decide
  have t_61 : (61 : Int32).toInt = 61 := by decide
  have fm0 := RI.many hI i0.toNatClampNeg
  have fm1 := RI.many hI i1.toNatClampNeg
  refine lv_iload_n hx hb dX12_measureOne_0 rfl (lv_at hl 3 rfl) ?_
  refine lv_aload_n hx hb dX12_measureOne_1 rfl (lv_at hl 0 rfl) ?_
  refine rr_getA (k := 12) (j := 4) C hM f_X12_27 rfl rfl dX12_measureOne_2 ?_
  refine lv_iload_n hx hb dX12_measureOne_5 rfl (lv_at hl 1 rfl) ?_
  refine lv_iload_n hx hb dX12_measureOne_6 rfl (lv_at hl 3 rfl) ?_
  refine r_S (As := [.int i0, .int i2]) (rest := [.ref (h0 + 1 + 4), .int i2]) C hM (c_X12_spot l D H0 (rM h0 R) kc ns i0 i2 (by omega) (by omega) (by omega) (by omega)) i_X12_spot m_X12_151 rfl hl.1 rfl (Nat.le_of_ble_eq_true rfl) ⟨by decide, by decide⟩ ⟨by decide, by decide⟩ dX12_measureOne_7 (fun xv4 Sv1 kv2 nv3 H locs pv5 hM => ?_)
  obtain ⟨rfl, rfl, rfl, hxv4⟩ := pv5
  refine W.eq (g2 := F0 m 10 ls [.int xv4, .ref (h0 + 1 + 4), .int i2]) rfl ?_
  refine rr_ldI (j := 4) (k := 12) (n := 1860) (v := rA R 12 xv4.toNatClampNeg) C hM rfl rfl rfl (inI (by omega) (by show _ < (1860 : Int); omega)) (congrFun (hF.gA 12 (by decide)) xv4.toNatClampNeg) dX12_measureOne_10 ?_
  refine lv_topi (fun xv6 exv6 => ?_)
  try (have fxv6 := PG.at12 hI0 (g := i0) (p := i2) (x := xv4) (by omega) (by omega) (by omega) (by omega) (by omega); rw [← exv6] at fxv6)
  refine lv_iadd hx hb dX12_measureOne_11 ?_
  refine lv_topi (fun xv7 exv7 => ?_)
  try (have txv7 := addI (a := i2) (b := xv6) (by omega) (by omega); rw [← exv7] at txv7)
  refine lv_istore (lv' := [(5, .int xv7), (0, .ref h0), (1, .int i0), (2, .int i1), (3, .int i2), (4, .int i3)]) hx hb dX12_measureOne_12 hl (by decide) rfl (fun ls hl => ?_)
  refine lv_iload hx hb dX12_measureOne_14 (lv_at hl 5 rfl) ?_
  refine lv_aload_n hx hb dX12_measureOne_16 rfl (lv_at hl 1 rfl) ?_
  refine rr_getA (k := 12) (j := 4) C hM f_X12_27 rfl rfl dX12_measureOne_17 ?_
  refine lv_iload_n hx hb dX12_measureOne_20 rfl (lv_at hl 3 rfl) ?_
  refine lv_iload hx hb dX12_measureOne_21 (lv_at hl 5 rfl) ?_
  refine r_S (As := [.int i1, .int i3]) (rest := [.ref (h0 + 1 + 4), .int i3]) C hM (c_X12_spot l D H0 (rM h0 R) kc ns i1 i3 (by omega) (by omega) (by omega) (by omega)) i_X12_spot m_X12_151 rfl hl.1 rfl (Nat.le_of_ble_eq_true rfl) ⟨by decide, by decide⟩ ⟨by decide, by decide⟩ dX12_measureOne_23 (fun xv11 Sv8 kv9 nv10 H locs pv12 hM => ?_)
  obtain ⟨rfl, rfl, rfl, hxv11⟩ := pv12
  refine W.eq (g2 := F0 m 26 ls [.int xv11, .ref (h0 + 1 + 4), .int i3]) rfl ?_
  refine rr_ldI (j := 4) (k := 12) (n := 1860) (v := rA R 12 xv11.toNatClampNeg) C hM rfl rfl rfl (inI (by omega) (by show _ < (1860 : Int); omega)) (congrFun (hF.gA 12 (by decide)) xv11.toNatClampNeg) dX12_measureOne_26 ?_
  refine lv_topi (fun xv13 exv13 => ?_)
  try (have fxv13 := PG.at12 hI0 (g := i1) (p := i3) (x := xv11) (by omega) (by omega) (by omega) (by omega) (by omega); rw [← exv13] at fxv13)
  refine lv_iadd hx hb dX12_measureOne_27 ?_
  refine lv_topi (fun xv14 exv14 => ?_)
  try (have txv14 := addI (a := i3) (b := xv13) (by omega) (by omega); rw [← exv14] at txv14)
  refine lv_istore (lv' := [(6, .int xv14), (5, .int xv7), (0, .ref h0), (1, .int i0), (2, .int i1), (3, .int i2), (4, .int i3)]) hx hb dX12_measureOne_28 hl (by decide) rfl (fun ls hl => ?_)
  refine lv_iload hx hb dX12_measureOne_30 (lv_at hl 1 rfl) ?_
  refine lv_istore (lv' := [(7, .int xv7), (6, .int xv14), (5, .int xv7), (0, .ref h0), (1, .int i0), (2, .int i1), (3, .int i2), (4, .int i3)]) hx hb dX12_measureOne_32 hl (by decide) rfl (fun ls hl => ?_)
  have loop34 : ∀ (fu : Nat) (iz : Int32) (Ra : RS) (H : Heap) (locs : List Loc) (ls : Array Slot), (fr [24] R Ra) → (i2.toInt - 1 ≤ iz.toInt ∧ iz.toInt ≤ xv7.toInt) → (iz.toInt + 1).toNat < fu → lv_has ls 13 [(0, .ref h0), (1, .int i0), (2, .int i1), (3, .int i2), (4, .int i3), (5, .int xv7), (6, .int xv14), (7, .int iz)] → mH D H0 (rM h0 Ra) kc ns H locs → W p l e ({ frames := 2, cells := 0, slots := 0, locals := 45 } : Room) s m args below meth c H locs 0 0 (MQ below (mQ D H0 gI (fun r S1 k1 n1 => kc = k1 ∧ ns = n1 ∧ ∃ R1, S1 = rM h0 R1 ∧ fr [24] R R1 ∧ True)) args s 0 0 (mF H0)) (F0 m 34 ls []) := by
    intro fu
    induction fu with
    | zero => intro iz Ra H locs ls h34_0 h34_1 hfu; exact absurd hfu (by omega)
    | succ fu ih34 =>
      intro iz Ra H locs ls h34_0 h34_1 hfu hl hM
      have hF := h34_0
      refine lv_iload hx hb dX12_measureOne_34 (lv_at hl 7 rfl) ?_
      refine lv_iload_n hx hb dX12_measureOne_36 rfl (lv_at hl 3 rfl) ?_
      refine lv_icmp_lt (tgt := 279) hx hb dX12_measureOne_37 (by decide) (fun cv15 => ?_) (fun cv15 => ?_)
      · have tcv15 := ltT cv15
        refine lv_aload_n hx hb dX12_measureOne_279 rfl (lv_at hl 0 rfl) ?_
        refine rr_getA (k := 24) (j := 15) C hM f_X12_62 rfl rfl dX12_measureOne_280 ?_
        refine lv_bipush (v := 61) hx hb dX12_measureOne_283 (by decide) ?_
        refine lv_iload_n hx hb dX12_measureOne_285 rfl (lv_at hl 3 rfl) ?_
        refine lv_imul hx hb dX12_measureOne_286 ?_
        refine lv_topi (fun xv16 exv16 => ?_)
        try (have txv16 := mulD (a := i2) (k := 61) (n := 61) (by decide) (by omega) (by omega); rw [← exv16] at txv16)
        refine lv_iload hx hb dX12_measureOne_287 (lv_at hl 4 rfl) ?_
        refine lv_iadd hx hb dX12_measureOne_289 ?_
        refine lv_topi (fun xv17 exv17 => ?_)
        try (have txv17 := addI (a := xv16) (b := i3) (by omega) (by omega); rw [← exv17] at txv17)
        refine rr_ldI (j := 15) (k := 24) (n := 3721) (v := rA Ra 24 xv17.toNatClampNeg) C hM rfl rfl rfl (inI (by omega) (by show _ < (3721 : Int); omega)) rfl dX12_measureOne_290 ?_
        refine lv_topi (fun xv18 exv18 => ?_)
        exact r_retI C hr hlk hM (⟨rfl, rfl, _, rfl, hF, trivial⟩) dX12_measureOne_291
      · have tcv15 := ltF cv15
        refine lv_iload hx hb dX12_measureOne_40 (lv_at hl 6 rfl) ?_
        refine lv_istore (lv' := [(8, .int xv14), (0, .ref h0), (1, .int i0), (2, .int i1), (3, .int i2), (4, .int i3), (5, .int xv7), (6, .int xv14), (7, .int iz)]) hx hb dX12_measureOne_42 hl (by decide) rfl (fun ls hl => ?_)
        have loop44 : ∀ (fu : Nat) (jz : Int32) (Rb : RS) (H : Heap) (locs : List Loc) (ls : Array Slot), (fr [24] R Rb) → (i3.toInt - 1 ≤ jz.toInt ∧ jz.toInt ≤ xv14.toInt) → (jz.toInt + 1).toNat < fu → lv_has ls 13 [(0, .ref h0), (1, .int i0), (2, .int i1), (3, .int i2), (4, .int i3), (5, .int xv7), (6, .int xv14), (7, .int iz), (8, .int jz)] → mH D H0 (rM h0 Rb) kc ns H locs → W p l e ({ frames := 2, cells := 0, slots := 0, locals := 45 } : Room) s m args below meth c H locs 0 0 (MQ below (mQ D H0 gI (fun r S1 k1 n1 => kc = k1 ∧ ns = n1 ∧ ∃ R1, S1 = rM h0 R1 ∧ fr [24] R R1 ∧ True)) args s 0 0 (mF H0)) (F0 m 44 ls []) := by
          intro fu
          induction fu with
          | zero => intro jz Rb H locs ls h44_0 h44_1 hfu; exact absurd hfu (by omega)
          | succ fu ih44 =>
            intro jz Rb H locs ls h44_0 h44_1 hfu hl hM
            have hF := h44_0
            refine lv_iload hx hb dX12_measureOne_44 (lv_at hl 8 rfl) ?_
            refine lv_iload hx hb dX12_measureOne_46 (lv_at hl 4 rfl) ?_
            refine lv_icmp_lt (tgt := 273) hx hb dX12_measureOne_48 (by decide) (fun cv19 => ?_) (fun cv19 => ?_)
            · have tcv19 := ltT cv19
              obtain ⟨xv20, exv20⟩ : ∃ y : Int32, y = iz + (-1) := ⟨_, rfl⟩
              try (have txv20 := addI (a := iz) (b := (-1)) (by omega) (by omega); rw [← exv20] at txv20)
              refine lv_iinc (v := xv20) (lv' := [(7, .int xv20), (0, .ref h0), (1, .int i0), (2, .int i1), (3, .int i2), (4, .int i3), (5, .int xv7), (6, .int xv14), (8, .int jz)]) hx hb dX12_measureOne_273 hl (k := 7) rfl (by rw [exv20]; rfl) (by decide) rfl (fun ls hl => ?_)
              refine lv_goto (tgt := 34) hx hb dX12_measureOne_276 (by decide) ?_
              exact ih34 xv20 Rb _ _ _ (hF) (by omega) (by omega) (lv_sub hl [1, 2, 3, 4, 5, 6, 7, 0] rfl) hM
            · have tcv19 := ltF cv19
              refine lv_iconst (v := 3) hx hb dX12_measureOne_51 (by decide) ?_
              refine lv_iload hx hb dX12_measureOne_52 (lv_at hl 5 rfl) ?_
              refine lv_iload hx hb dX12_measureOne_54 (lv_at hl 7 rfl) ?_
              refine lv_isub hx hb dX12_measureOne_56 ?_
              refine lv_topi (fun xv21 exv21 => ?_)
              try (have txv21 := subI (a := xv7) (b := iz) (by omega) (by omega); rw [← exv21] at txv21)
              refine lv_iload hx hb dX12_measureOne_57 (lv_at hl 6 rfl) ?_
              refine lv_iadd hx hb dX12_measureOne_59 ?_
              refine lv_topi (fun xv22 exv22 => ?_)
              try (have txv22 := addI (a := xv21) (b := xv14) (by omega) (by omega); rw [← exv22] at txv22)
              refine lv_iload hx hb dX12_measureOne_60 (lv_at hl 8 rfl) ?_
              refine lv_isub hx hb dX12_measureOne_62 ?_
              refine lv_topi (fun xv23 exv23 => ?_)
              try (have txv23 := subI (a := xv22) (b := jz) (by omega) (by omega); rw [← exv23] at txv23)
              refine lv_imul hx hb dX12_measureOne_63 ?_
              refine lv_topi (fun xv24 exv24 => ?_)
              try (have txv24 := mulD (a := xv23) (k := 3) (n := 3) (by decide) (by omega) (by omega); rw [← exv24] at txv24)
              refine lv_istore (lv' := [(9, .int xv24), (0, .ref h0), (1, .int i0), (2, .int i1), (3, .int i2), (4, .int i3), (5, .int xv7), (6, .int xv14), (7, .int iz), (8, .int jz)]) hx hb dX12_measureOne_64 hl (by decide) rfl (fun ls hl => ?_)
              have join252 : ∀ (vz : Int32) (H : Heap) (locs : List Loc) (ls : Array Slot), lv_has ls 13 [(0, .ref h0), (1, .int i0), (2, .int i1), (3, .int i2), (4, .int i3), (5, .int xv7), (6, .int xv14), (7, .int iz), (8, .int jz), (9, .int vz)] → mH D H0 (rM h0 Rb) kc ns H locs → W p l e ({ frames := 2, cells := 0, slots := 0, locals := 45 } : Room) s m args below meth c H locs 0 0 (MQ below (mQ D H0 gI (fun r S1 k1 n1 => kc = k1 ∧ ns = n1 ∧ ∃ R1, S1 = rM h0 R1 ∧ fr [24] R R1 ∧ True)) args s 0 0 (mF H0)) (F0 m 252 ls []) := by
                intro vz H locs ls  hl hM
                refine lv_aload_n hx hb dX12_measureOne_252 rfl (lv_at hl 0 rfl) ?_
                refine rr_getA (k := 24) (j := 15) C hM f_X12_62 rfl rfl dX12_measureOne_253 ?_
                refine lv_bipush (v := 61) hx hb dX12_measureOne_256 (by decide) ?_
                refine lv_iload hx hb dX12_measureOne_258 (lv_at hl 7 rfl) ?_
                refine lv_imul hx hb dX12_measureOne_260 ?_
                refine lv_topi (fun xv25 exv25 => ?_)
                try (have txv25 := mulD (a := iz) (k := 61) (n := 61) (by decide) (by omega) (by omega); rw [← exv25] at txv25)
                refine lv_iload hx hb dX12_measureOne_261 (lv_at hl 8 rfl) ?_
                refine lv_iadd hx hb dX12_measureOne_263 ?_
                refine lv_topi (fun xv26 exv26 => ?_)
                try (have txv26 := addI (a := xv25) (b := jz) (by omega) (by omega); rw [← exv26] at txv26)
                refine lv_iload hx hb dX12_measureOne_264 (lv_at hl 9 rfl) ?_
                refine rr_stI (j := 15) (k := 24) (n := 3721) (i := xv26) (x := vz) C hM rfl rfl rfl (inI (by omega) (by show _ < (3721 : Int); omega)) dX12_measureOne_266 (fun H locs hM => ?_)
                have hM : mH D H0 (rM h0 (uA Rb 24 xv26.toNatClampNeg vz)) kc ns H locs := hM
                have hF : fr [24] R (uA Rb 24 xv26.toNatClampNeg vz) := hF.A (by decide)
                obtain ⟨xv27, exv27⟩ : ∃ y : Int32, y = jz + (-1) := ⟨_, rfl⟩
                try (have txv27 := addI (a := jz) (b := (-1)) (by omega) (by omega); rw [← exv27] at txv27)
                refine lv_iinc (v := xv27) (lv' := [(8, .int xv27), (0, .ref h0), (1, .int i0), (2, .int i1), (3, .int i2), (4, .int i3), (5, .int xv7), (6, .int xv14), (7, .int iz), (9, .int vz)]) hx hb dX12_measureOne_267 hl (k := 8) rfl (by rw [exv27]; rfl) (by decide) rfl (fun ls hl => ?_)
                refine lv_goto (tgt := 44) hx hb dX12_measureOne_270 (by decide) ?_
                exact ih44 xv27 (uA Rb 24 xv26.toNatClampNeg vz) _ _ _ (hF) (by omega) (by omega) (lv_sub hl [1, 2, 3, 4, 5, 6, 7, 8, 0] rfl) hM
              refine lv_iload hx hb dX12_measureOne_66 (lv_at hl 8 rfl) ?_
              refine lv_iload hx hb dX12_measureOne_68 (lv_at hl 6 rfl) ?_
              refine lv_icmp_ge (tgt := 252) hx hb dX12_measureOne_70 (by decide) (fun cv28 => ?_) (fun cv28 => ?_)
              · have tcv28 := leT cv28
                exact join252 xv24 _ _ _  (lv_sub hl [1, 2, 3, 4, 5, 6, 7, 8, 9, 0] rfl) hM
              · have tcv28 := leF cv28
                refine lv_iload hx hb dX12_measureOne_73 (lv_at hl 9 rfl) ?_
                refine lv_iload hx hb dX12_measureOne_75 (lv_at hl 7 rfl) ?_
                refine lv_icmp_ge (tgt := 252) hx hb dX12_measureOne_77 (by decide) (fun cv29 => ?_) (fun cv29 => ?_)
                · have tcv29 := leT cv29
                  exact join252 xv24 _ _ _  (lv_sub hl [1, 2, 3, 4, 5, 6, 7, 8, 9, 0] rfl) hM
                · have tcv29 := leF cv29
                  refine lv_aload_n hx hb dX12_measureOne_80 rfl (lv_at hl 1 rfl) ?_
                  refine rr_getA (k := 24) (j := 15) C hM f_X12_62 rfl rfl dX12_measureOne_81 ?_
                  refine lv_bipush (v := 61) hx hb dX12_measureOne_84 (by decide) ?_
                  refine lv_iload hx hb dX12_measureOne_86 (lv_at hl 8 rfl) ?_
                  refine lv_iconst (v := 1) hx hb dX12_measureOne_88 (by decide) ?_
                  refine lv_iadd hx hb dX12_measureOne_89 ?_
                  refine lv_topi (fun xv30 exv30 => ?_)
                  try (have txv30 := addI (a := iz) (b := 1) (by omega) (by omega); rw [← exv30] at txv30)
                  refine lv_imul hx hb dX12_measureOne_90 ?_
                  refine lv_topi (fun xv31 exv31 => ?_)
                  try (have txv31 := mulD (a := xv30) (k := 61) (n := 61) (by decide) (by omega) (by omega); rw [← exv31] at txv31)
                  refine lv_iload hx hb dX12_measureOne_91 (lv_at hl 9 rfl) ?_
                  refine lv_iadd hx hb dX12_measureOne_93 ?_
                  refine lv_topi (fun xv32 exv32 => ?_)
                  try (have txv32 := addI (a := xv31) (b := jz) (by omega) (by omega); rw [← exv32] at txv32)
                  refine rr_ldI (j := 15) (k := 24) (n := 3721) (v := rA Rb 24 xv32.toNatClampNeg) C hM rfl rfl rfl (inI (by omega) (by show _ < (3721 : Int); omega)) rfl dX12_measureOne_94 ?_
                  refine lv_topi (fun xv33 exv33 => ?_)
                  refine lv_iconst (v := 3) hx hb dX12_measureOne_95 (by decide) ?_
                  refine lv_iadd hx hb dX12_measureOne_96 ?_
                  refine lv_topi (fun xv34 exv34 => ?_)
                  try (have txv34 := addI (a := xv33) (b := 3) (by omega) (by omega); rw [← exv34] at txv34)
                  refine lv_istore (lv' := [(10, .int xv34), (9, .int xv24), (0, .ref h0), (1, .int i0), (2, .int i1), (3, .int i2), (4, .int i3), (5, .int xv7), (6, .int xv14), (7, .int iz), (8, .int jz)]) hx hb dX12_measureOne_97 hl (by decide) rfl (fun ls hl => ?_)
                  refine lv_aload_n hx hb dX12_measureOne_99 rfl (lv_at hl 2 rfl) ?_
                  refine rr_getA (k := 24) (j := 15) C hM f_X12_62 rfl rfl dX12_measureOne_100 ?_
                  refine lv_bipush (v := 61) hx hb dX12_measureOne_103 (by decide) ?_
                  refine lv_iload hx hb dX12_measureOne_105 (lv_at hl 9 rfl) ?_
                  refine lv_imul hx hb dX12_measureOne_107 ?_
                  refine lv_topi (fun xv35 exv35 => ?_)
                  try (have txv35 := mulD (a := iz) (k := 61) (n := 61) (by decide) (by omega) (by omega); rw [← exv35] at txv35)
                  refine lv_iload hx hb dX12_measureOne_108 (lv_at hl 10 rfl) ?_
                  refine lv_iadd hx hb dX12_measureOne_110 ?_
                  refine lv_topi (fun xv36 exv36 => ?_)
                  try (have txv36 := addI (a := xv35) (b := jz) (by omega) (by omega); rw [← exv36] at txv36)
                  refine lv_iconst (v := 1) hx hb dX12_measureOne_111 (by decide) ?_
                  refine lv_iadd hx hb dX12_measureOne_112 ?_
                  refine lv_topi (fun xv37 exv37 => ?_)
                  try (have txv37 := addI (a := xv36) (b := 1) (by omega) (by omega); rw [← exv37] at txv37)
                  refine rr_ldI (j := 15) (k := 24) (n := 3721) (v := rA Rb 24 xv37.toNatClampNeg) C hM rfl rfl rfl (inI (by omega) (by show _ < (3721 : Int); omega)) rfl dX12_measureOne_113 ?_
                  refine lv_topi (fun xv38 exv38 => ?_)
                  refine lv_iconst (v := 3) hx hb dX12_measureOne_114 (by decide) ?_
                  refine lv_iadd hx hb dX12_measureOne_115 ?_
                  refine lv_topi (fun xv39 exv39 => ?_)
                  try (have txv39 := addI (a := xv38) (b := 3) (by omega) (by omega); rw [← exv39] at txv39)
                  refine lv_istore (lv' := [(11, .int xv39), (10, .int xv34), (9, .int xv24), (0, .ref h0), (1, .int i0), (2, .int i1), (3, .int i2), (4, .int i3), (5, .int xv7), (6, .int xv14), (7, .int iz), (8, .int jz)]) hx hb dX12_measureOne_116 hl (by decide) rfl (fun ls hl => ?_)
                  have join218 : ∀ (bz : Int32) (H : Heap) (locs : List Loc) (ls : Array Slot), lv_has ls 13 [(0, .ref h0), (1, .int i0), (2, .int i1), (3, .int i2), (4, .int i3), (5, .int xv7), (6, .int xv14), (7, .int iz), (8, .int jz), (9, .int xv24), (10, .int xv34), (11, .int xv39)] → mH D H0 (rM h0 Rb) kc ns H locs → W p l e ({ frames := 2, cells := 0, slots := 0, locals := 45 } : Room) s m args below meth c H locs 0 0 (MQ below (mQ D H0 gI (fun r S1 k1 n1 => kc = k1 ∧ ns = n1 ∧ ∃ R1, S1 = rM h0 R1 ∧ fr [24] R R1 ∧ True)) args s 0 0 (mF H0)) (F0 m 218 ls [.int bz]) := by
                    intro bz H locs ls  hl hM
                    refine lv_istore (lv' := [(12, .int bz), (0, .ref h0), (1, .int i0), (2, .int i1), (3, .int i2), (4, .int i3), (5, .int xv7), (6, .int xv14), (7, .int iz), (8, .int jz), (9, .int xv24), (10, .int xv34), (11, .int xv39)]) hx hb dX12_measureOne_218 hl (by decide) rfl (fun ls hl => ?_)
                    refine lv_iload hx hb dX12_measureOne_220 (lv_at hl 11 rfl) ?_
                    refine lv_iload hx hb dX12_measureOne_222 (lv_at hl 12 rfl) ?_
                    refine lv_icmp_ge (tgt := 232) hx hb dX12_measureOne_224 (by decide) (fun cv40 => ?_) (fun cv40 => ?_)
                    · have tcv40 := leT cv40
                      refine lv_iload hx hb dX12_measureOne_232 (lv_at hl 12 rfl) ?_
                      refine lv_istore (lv' := [(9, .int xv39), (12, .int bz), (0, .ref h0), (1, .int i0), (2, .int i1), (3, .int i2), (4, .int i3), (5, .int xv7), (6, .int xv14), (7, .int iz), (8, .int jz), (10, .int xv34), (11, .int xv39)]) hx hb dX12_measureOne_234 hl (by decide) rfl (fun ls hl => ?_)
                      refine lv_iload hx hb dX12_measureOne_236 (lv_at hl 1 rfl) ?_
                      refine lv_iload hx hb dX12_measureOne_238 (lv_at hl 0 rfl) ?_
                      refine lv_icmp_ge (tgt := 248) hx hb dX12_measureOne_240 (by decide) (fun cv41 => ?_) (fun cv41 => ?_)
                      · have tcv41 := leT cv41
                        refine lv_iload hx hb dX12_measureOne_248 (lv_at hl 0 rfl) ?_
                        refine lv_istore (lv' := [(9, .int xv39), (12, .int bz), (0, .ref h0), (1, .int i0), (2, .int i1), (3, .int i2), (4, .int i3), (5, .int xv7), (6, .int xv14), (7, .int iz), (8, .int jz), (10, .int xv34), (11, .int xv39)]) hx hb dX12_measureOne_250 hl (by decide) rfl (fun ls hl => ?_)
                        exact join252 xv39 _ _ _  (lv_sub hl [2, 3, 4, 5, 6, 7, 8, 9, 10, 0] rfl) hM
                      · have tcv41 := leF cv41
                        refine lv_iload hx hb dX12_measureOne_243 (lv_at hl 1 rfl) ?_
                        refine lv_goto (tgt := 250) hx hb dX12_measureOne_245 (by decide) ?_
                        refine lv_istore (lv' := [(9, .int bz), (12, .int bz), (0, .ref h0), (1, .int i0), (2, .int i1), (3, .int i2), (4, .int i3), (5, .int xv7), (6, .int xv14), (7, .int iz), (8, .int jz), (10, .int xv34), (11, .int xv39)]) hx hb dX12_measureOne_250 hl (by decide) rfl (fun ls hl => ?_)
                        exact join252 bz _ _ _  (lv_sub hl [2, 3, 4, 5, 6, 7, 8, 9, 10, 0] rfl) hM
                    · have tcv40 := leF cv40
                      refine lv_iload hx hb dX12_measureOne_227 (lv_at hl 11 rfl) ?_
                      refine lv_goto (tgt := 234) hx hb dX12_measureOne_229 (by decide) ?_
                      refine lv_istore (lv' := [(9, .int xv34), (12, .int bz), (0, .ref h0), (1, .int i0), (2, .int i1), (3, .int i2), (4, .int i3), (5, .int xv7), (6, .int xv14), (7, .int iz), (8, .int jz), (10, .int xv34), (11, .int xv39)]) hx hb dX12_measureOne_234 hl (by decide) rfl (fun ls hl => ?_)
                      refine lv_iload hx hb dX12_measureOne_236 (lv_at hl 1 rfl) ?_
                      refine lv_iload hx hb dX12_measureOne_238 (lv_at hl 0 rfl) ?_
                      refine lv_icmp_ge (tgt := 248) hx hb dX12_measureOne_240 (by decide) (fun cv42 => ?_) (fun cv42 => ?_)
                      · have tcv42 := leT cv42
                        refine lv_iload hx hb dX12_measureOne_248 (lv_at hl 0 rfl) ?_
                        refine lv_istore (lv' := [(9, .int xv34), (12, .int bz), (0, .ref h0), (1, .int i0), (2, .int i1), (3, .int i2), (4, .int i3), (5, .int xv7), (6, .int xv14), (7, .int iz), (8, .int jz), (10, .int xv34), (11, .int xv39)]) hx hb dX12_measureOne_250 hl (by decide) rfl (fun ls hl => ?_)
                        exact join252 xv34 _ _ _  (lv_sub hl [2, 3, 4, 5, 6, 7, 8, 9, 10, 0] rfl) hM
                      · have tcv42 := leF cv42
                        refine lv_iload hx hb dX12_measureOne_243 (lv_at hl 1 rfl) ?_
                        refine lv_goto (tgt := 250) hx hb dX12_measureOne_245 (by decide) ?_
                        refine lv_istore (lv' := [(9, .int bz), (12, .int bz), (0, .ref h0), (1, .int i0), (2, .int i1), (3, .int i2), (4, .int i3), (5, .int xv7), (6, .int xv14), (7, .int iz), (8, .int jz), (10, .int xv34), (11, .int xv39)]) hx hb dX12_measureOne_250 hl (by decide) rfl (fun ls hl => ?_)
                        exact join252 bz _ _ _  (lv_sub hl [2, 3, 4, 5, 6, 7, 8, 9, 10, 0] rfl) hM
                  refine lv_iload hx hb dX12_measureOne_118 (lv_at hl 10 rfl) ?_
                  refine lv_iload_n hx hb dX12_measureOne_120 rfl (lv_at hl 6 rfl) ?_
                  refine lv_icmp_ne (tgt := 167) hx hb dX12_measureOne_121 (by decide) (fun cv43 => ?_) (fun cv43 => ?_)
                  · have tcv43 := eqF cv43
                    refine lv_aload_n hx hb dX12_measureOne_167 rfl (lv_at hl 3 rfl) ?_
                    refine rr_getA (k := 23) (j := 14) C hM f_X12_59 rfl rfl dX12_measureOne_168 ?_
                    refine lv_bipush (v := 60) hx hb dX12_measureOne_171 (by decide) ?_
                    refine lv_iload hx hb dX12_measureOne_173 (lv_at hl 10 rfl) ?_
                    refine lv_imul hx hb dX12_measureOne_175 ?_
                    refine lv_topi (fun xv44 exv44 => ?_)
                    try (have txv44 := mulD (a := iz) (k := 60) (n := 60) (by decide) (by omega) (by omega); rw [← exv44] at txv44)
                    refine lv_iload hx hb dX12_measureOne_176 (lv_at hl 11 rfl) ?_
                    refine lv_iadd hx hb dX12_measureOne_178 ?_
                    refine lv_topi (fun xv45 exv45 => ?_)
                    try (have txv45 := addI (a := xv44) (b := jz) (by omega) (by omega); rw [← exv45] at txv45)
                    refine rr_ldI (j := 14) (k := 23) (n := 3600) (v := rA R 23 xv45.toNatClampNeg) C hM rfl rfl rfl (inI (by omega) (by show _ < (3600 : Int); omega)) (congrFun (hF.gA 23 (by decide)) xv45.toNatClampNeg) dX12_measureOne_179 ?_
                    refine lv_topi (fun xv46 exv46 => ?_)
                    refine lv_aload_n hx hb dX12_measureOne_180 rfl (lv_at hl 3 rfl) ?_
                    refine rr_getA (k := 24) (j := 15) C hM f_X12_62 rfl rfl dX12_measureOne_181 ?_
                    refine lv_bipush (v := 61) hx hb dX12_measureOne_184 (by decide) ?_
                    refine lv_iload hx hb dX12_measureOne_186 (lv_at hl 10 rfl) ?_
                    refine lv_aload_n hx hb dX12_measureOne_188 rfl (lv_at hl 3 rfl) ?_
                    refine rr_getA (k := 12) (j := 4) C hM f_X12_27 rfl rfl dX12_measureOne_189 ?_
                    refine lv_iload_n hx hb dX12_measureOne_192 rfl (lv_at hl 4 rfl) ?_
                    refine lv_iload hx hb dX12_measureOne_193 (lv_at hl 10 rfl) ?_
                    refine r_S (As := [.int i0, .int iz]) (rest := [.ref (h0 + 1 + 4), .int iz, .int 61, .ref (h0 + 1 + 15), .int xv46]) C hM (c_X12_spot l D H0 (rM h0 Rb) kc ns i0 iz (by omega) (by omega) (by omega) (by omega)) i_X12_spot m_X12_151 rfl hl.1 rfl (Nat.le_of_ble_eq_true rfl) ⟨by decide, by decide⟩ ⟨by decide, by decide⟩ dX12_measureOne_195 (fun xv50 Sv47 kv48 nv49 H locs pv51 hM => ?_)
                    obtain ⟨rfl, rfl, rfl, hxv50⟩ := pv51
                    refine W.eq (g2 := F0 m 198 ls [.int xv50, .ref (h0 + 1 + 4), .int iz, .int 61, .ref (h0 + 1 + 15), .int xv46]) rfl ?_
                    refine rr_ldI (j := 4) (k := 12) (n := 1860) (v := rA R 12 xv50.toNatClampNeg) C hM rfl rfl rfl (inI (by omega) (by show _ < (1860 : Int); omega)) (congrFun (hF.gA 12 (by decide)) xv50.toNatClampNeg) dX12_measureOne_198 ?_
                    refine lv_topi (fun xv52 exv52 => ?_)
                    try (have fxv52 := PG.at12 hI0 (g := i0) (p := iz) (x := xv50) (by omega) (by omega) (by omega) (by omega) (by omega); rw [← exv52] at fxv52)
                    refine lv_iadd hx hb dX12_measureOne_199 ?_
                    refine lv_topi (fun xv53 exv53 => ?_)
                    try (have txv53 := addI (a := iz) (b := xv52) (by omega) (by omega); rw [← exv53] at txv53)
                    refine lv_imul hx hb dX12_measureOne_200 ?_
                    refine lv_topi (fun xv54 exv54 => ?_)
                    try (have txv54 := mulD (a := xv53) (k := 61) (n := 61) (by decide) (by omega) (by omega); rw [← exv54] at txv54)
                    refine lv_iload hx hb dX12_measureOne_201 (lv_at hl 11 rfl) ?_
                    refine lv_iadd hx hb dX12_measureOne_203 ?_
                    refine lv_topi (fun xv55 exv55 => ?_)
                    try (have txv55 := addI (a := xv54) (b := jz) (by omega) (by omega); rw [← exv55] at txv55)
                    refine lv_aload_n hx hb dX12_measureOne_204 rfl (lv_at hl 3 rfl) ?_
                    refine rr_getA (k := 12) (j := 4) C hM f_X12_27 rfl rfl dX12_measureOne_205 ?_
                    refine lv_iload_n hx hb dX12_measureOne_208 rfl (lv_at hl 5 rfl) ?_
                    refine lv_iload hx hb dX12_measureOne_209 (lv_at hl 11 rfl) ?_
                    refine r_S (As := [.int i1, .int jz]) (rest := [.ref (h0 + 1 + 4), .int xv55, .ref (h0 + 1 + 15), .int xv46]) C hM (c_X12_spot l D H0 (rM h0 Rb) kc ns i1 jz (by omega) (by omega) (by omega) (by omega)) i_X12_spot m_X12_151 rfl hl.1 rfl (Nat.le_of_ble_eq_true rfl) ⟨by decide, by decide⟩ ⟨by decide, by decide⟩ dX12_measureOne_211 (fun xv59 Sv56 kv57 nv58 H locs pv60 hM => ?_)
                    obtain ⟨rfl, rfl, rfl, hxv59⟩ := pv60
                    refine W.eq (g2 := F0 m 214 ls [.int xv59, .ref (h0 + 1 + 4), .int xv55, .ref (h0 + 1 + 15), .int xv46]) rfl ?_
                    refine rr_ldI (j := 4) (k := 12) (n := 1860) (v := rA R 12 xv59.toNatClampNeg) C hM rfl rfl rfl (inI (by omega) (by show _ < (1860 : Int); omega)) (congrFun (hF.gA 12 (by decide)) xv59.toNatClampNeg) dX12_measureOne_214 ?_
                    refine lv_topi (fun xv61 exv61 => ?_)
                    try (have fxv61 := PG.at12 hI0 (g := i1) (p := jz) (x := xv59) (by omega) (by omega) (by omega) (by omega) (by omega); rw [← exv61] at fxv61)
                    refine lv_iadd hx hb dX12_measureOne_215 ?_
                    refine lv_topi (fun xv62 exv62 => ?_)
                    try (have txv62 := addI (a := xv55) (b := xv61) (by omega) (by omega); rw [← exv62] at txv62)
                    refine rr_ldI (j := 15) (k := 24) (n := 3721) (v := rA Rb 24 xv62.toNatClampNeg) C hM rfl rfl rfl (inI (by omega) (by show _ < (3721 : Int); omega)) rfl dX12_measureOne_216 ?_
                    refine lv_topi (fun xv63 exv63 => ?_)
                    refine lv_iadd hx hb dX12_measureOne_217 ?_
                    refine lv_topi (fun xv64 exv64 => ?_)
                    try (have txv64 := addI (a := xv46) (b := xv63) (by omega) (by omega); rw [← exv64] at txv64)
                    exact join218 xv64 _ _ _  (lv_sub hl [3, 4, 5, 6, 7, 8, 9, 10, 11, 2, 1, 0] rfl) hM
                  · have tcv43 := eqT cv43
                    refine lv_iload hx hb dX12_measureOne_124 (lv_at hl 11 rfl) ?_
                    refine lv_iload hx hb dX12_measureOne_126 (lv_at hl 7 rfl) ?_
                    refine lv_icmp_ne (tgt := 167) hx hb dX12_measureOne_128 (by decide) (fun cv65 => ?_) (fun cv65 => ?_)
                    · have tcv65 := eqF cv65
                      refine lv_aload_n hx hb dX12_measureOne_167 rfl (lv_at hl 3 rfl) ?_
                      refine rr_getA (k := 23) (j := 14) C hM f_X12_59 rfl rfl dX12_measureOne_168 ?_
                      refine lv_bipush (v := 60) hx hb dX12_measureOne_171 (by decide) ?_
                      refine lv_iload hx hb dX12_measureOne_173 (lv_at hl 10 rfl) ?_
                      refine lv_imul hx hb dX12_measureOne_175 ?_
                      refine lv_topi (fun xv66 exv66 => ?_)
                      try (have txv66 := mulD (a := iz) (k := 60) (n := 60) (by decide) (by omega) (by omega); rw [← exv66] at txv66)
                      refine lv_iload hx hb dX12_measureOne_176 (lv_at hl 11 rfl) ?_
                      refine lv_iadd hx hb dX12_measureOne_178 ?_
                      refine lv_topi (fun xv67 exv67 => ?_)
                      try (have txv67 := addI (a := xv66) (b := jz) (by omega) (by omega); rw [← exv67] at txv67)
                      refine rr_ldI (j := 14) (k := 23) (n := 3600) (v := rA R 23 xv67.toNatClampNeg) C hM rfl rfl rfl (inI (by omega) (by show _ < (3600 : Int); omega)) (congrFun (hF.gA 23 (by decide)) xv67.toNatClampNeg) dX12_measureOne_179 ?_
                      refine lv_topi (fun xv68 exv68 => ?_)
                      refine lv_aload_n hx hb dX12_measureOne_180 rfl (lv_at hl 3 rfl) ?_
                      refine rr_getA (k := 24) (j := 15) C hM f_X12_62 rfl rfl dX12_measureOne_181 ?_
                      refine lv_bipush (v := 61) hx hb dX12_measureOne_184 (by decide) ?_
                      refine lv_iload hx hb dX12_measureOne_186 (lv_at hl 10 rfl) ?_
                      refine lv_aload_n hx hb dX12_measureOne_188 rfl (lv_at hl 3 rfl) ?_
                      refine rr_getA (k := 12) (j := 4) C hM f_X12_27 rfl rfl dX12_measureOne_189 ?_
                      refine lv_iload_n hx hb dX12_measureOne_192 rfl (lv_at hl 4 rfl) ?_
                      refine lv_iload hx hb dX12_measureOne_193 (lv_at hl 10 rfl) ?_
                      refine r_S (As := [.int i0, .int iz]) (rest := [.ref (h0 + 1 + 4), .int iz, .int 61, .ref (h0 + 1 + 15), .int xv68]) C hM (c_X12_spot l D H0 (rM h0 Rb) kc ns i0 iz (by omega) (by omega) (by omega) (by omega)) i_X12_spot m_X12_151 rfl hl.1 rfl (Nat.le_of_ble_eq_true rfl) ⟨by decide, by decide⟩ ⟨by decide, by decide⟩ dX12_measureOne_195 (fun xv72 Sv69 kv70 nv71 H locs pv73 hM => ?_)
                      obtain ⟨rfl, rfl, rfl, hxv72⟩ := pv73
                      refine W.eq (g2 := F0 m 198 ls [.int xv72, .ref (h0 + 1 + 4), .int iz, .int 61, .ref (h0 + 1 + 15), .int xv68]) rfl ?_
                      refine rr_ldI (j := 4) (k := 12) (n := 1860) (v := rA R 12 xv72.toNatClampNeg) C hM rfl rfl rfl (inI (by omega) (by show _ < (1860 : Int); omega)) (congrFun (hF.gA 12 (by decide)) xv72.toNatClampNeg) dX12_measureOne_198 ?_
                      refine lv_topi (fun xv74 exv74 => ?_)
                      try (have fxv74 := PG.at12 hI0 (g := i0) (p := iz) (x := xv72) (by omega) (by omega) (by omega) (by omega) (by omega); rw [← exv74] at fxv74)
                      refine lv_iadd hx hb dX12_measureOne_199 ?_
                      refine lv_topi (fun xv75 exv75 => ?_)
                      try (have txv75 := addI (a := iz) (b := xv74) (by omega) (by omega); rw [← exv75] at txv75)
                      refine lv_imul hx hb dX12_measureOne_200 ?_
                      refine lv_topi (fun xv76 exv76 => ?_)
                      try (have txv76 := mulD (a := xv75) (k := 61) (n := 61) (by decide) (by omega) (by omega); rw [← exv76] at txv76)
                      refine lv_iload hx hb dX12_measureOne_201 (lv_at hl 11 rfl) ?_
                      refine lv_iadd hx hb dX12_measureOne_203 ?_
                      refine lv_topi (fun xv77 exv77 => ?_)
                      try (have txv77 := addI (a := xv76) (b := jz) (by omega) (by omega); rw [← exv77] at txv77)
                      refine lv_aload_n hx hb dX12_measureOne_204 rfl (lv_at hl 3 rfl) ?_
                      refine rr_getA (k := 12) (j := 4) C hM f_X12_27 rfl rfl dX12_measureOne_205 ?_
                      refine lv_iload_n hx hb dX12_measureOne_208 rfl (lv_at hl 5 rfl) ?_
                      refine lv_iload hx hb dX12_measureOne_209 (lv_at hl 11 rfl) ?_
                      refine r_S (As := [.int i1, .int jz]) (rest := [.ref (h0 + 1 + 4), .int xv77, .ref (h0 + 1 + 15), .int xv68]) C hM (c_X12_spot l D H0 (rM h0 Rb) kc ns i1 jz (by omega) (by omega) (by omega) (by omega)) i_X12_spot m_X12_151 rfl hl.1 rfl (Nat.le_of_ble_eq_true rfl) ⟨by decide, by decide⟩ ⟨by decide, by decide⟩ dX12_measureOne_211 (fun xv81 Sv78 kv79 nv80 H locs pv82 hM => ?_)
                      obtain ⟨rfl, rfl, rfl, hxv81⟩ := pv82
                      refine W.eq (g2 := F0 m 214 ls [.int xv81, .ref (h0 + 1 + 4), .int xv77, .ref (h0 + 1 + 15), .int xv68]) rfl ?_
                      refine rr_ldI (j := 4) (k := 12) (n := 1860) (v := rA R 12 xv81.toNatClampNeg) C hM rfl rfl rfl (inI (by omega) (by show _ < (1860 : Int); omega)) (congrFun (hF.gA 12 (by decide)) xv81.toNatClampNeg) dX12_measureOne_214 ?_
                      refine lv_topi (fun xv83 exv83 => ?_)
                      try (have fxv83 := PG.at12 hI0 (g := i1) (p := jz) (x := xv81) (by omega) (by omega) (by omega) (by omega) (by omega); rw [← exv83] at fxv83)
                      refine lv_iadd hx hb dX12_measureOne_215 ?_
                      refine lv_topi (fun xv84 exv84 => ?_)
                      try (have txv84 := addI (a := xv77) (b := xv83) (by omega) (by omega); rw [← exv84] at txv84)
                      refine rr_ldI (j := 15) (k := 24) (n := 3721) (v := rA Rb 24 xv84.toNatClampNeg) C hM rfl rfl rfl (inI (by omega) (by show _ < (3721 : Int); omega)) rfl dX12_measureOne_216 ?_
                      refine lv_topi (fun xv85 exv85 => ?_)
                      refine lv_iadd hx hb dX12_measureOne_217 ?_
                      refine lv_topi (fun xv86 exv86 => ?_)
                      try (have txv86 := addI (a := xv68) (b := xv85) (by omega) (by omega); rw [← exv86] at txv86)
                      exact join218 xv86 _ _ _  (lv_sub hl [3, 4, 5, 6, 7, 8, 9, 10, 11, 2, 1, 0] rfl) hM
                    · have tcv65 := eqT cv65
                      refine lv_aload_n hx hb dX12_measureOne_131 rfl (lv_at hl 3 rfl) ?_
                      refine lv_iload_n hx hb dX12_measureOne_132 rfl (lv_at hl 4 rfl) ?_
                      refine lv_iload_n hx hb dX12_measureOne_133 rfl (lv_at hl 6 rfl) ?_
                      refine r_S (As := [.int i0, .int i2]) (rest := [.ref h0]) C hM (c_X12_spot l D H0 (rM h0 Rb) kc ns i0 i2 (by omega) (by omega) (by omega) (by omega)) i_X12_spot m_X12_151 rfl hl.1 rfl (Nat.le_of_ble_eq_true rfl) ⟨by decide, by decide⟩ ⟨by decide, by decide⟩ dX12_measureOne_134 (fun xv90 Sv87 kv88 nv89 H locs pv91 hM => ?_)
                      obtain ⟨rfl, rfl, rfl, hxv90⟩ := pv91
                      refine W.eq (g2 := F0 m 137 ls [.int xv90, .ref h0]) rfl ?_
                      refine lv_iload_n hx hb dX12_measureOne_137 rfl (lv_at hl 5 rfl) ?_
                      refine lv_iload hx hb dX12_measureOne_138 (lv_at hl 7 rfl) ?_
                      refine r_S (As := [.int i1, .int i3]) (rest := [.int xv90, .ref h0]) C hM (c_X12_spot l D H0 (rM h0 Rb) kc ns i1 i3 (by omega) (by omega) (by omega) (by omega)) i_X12_spot m_X12_151 rfl hl.1 rfl (Nat.le_of_ble_eq_true rfl) ⟨by decide, by decide⟩ ⟨by decide, by decide⟩ dX12_measureOne_140 (fun xv95 Sv92 kv93 nv94 H locs pv96 hM => ?_)
                      obtain ⟨rfl, rfl, rfl, hxv95⟩ := pv96
                      refine W.eq (g2 := F0 m 143 ls [.int xv95, .int xv90, .ref h0]) rfl ?_
                      refine r_V (As := [.int xv90, .int xv95]) (rest := []) (ci := 12) C hM (c_X12_change l D H0 h0 Rb kc ns xv90 xv95 (hI0.fr hF (by decide)) (by omega) (by omega) (by omega) (by omega)) i_X12_change m_X12_211 rK0 rfl rfl rfl hl.1 rfl (Nat.le_of_ble_eq_true rfl) ⟨by decide, by decide⟩ ⟨by decide, by decide⟩ dX12_measureOne_143 (fun xv100 Sv97 kv98 nv99 H locs pv101 hM => ?_)
                      obtain ⟨rfl, rfl, rfl, hxv100⟩ := pv101
                      refine W.eq (g2 := F0 m 146 ls [.int xv100]) rfl ?_
                      refine lv_aload_n hx hb dX12_measureOne_146 rfl (lv_at hl 3 rfl) ?_
                      refine rr_getA (k := 24) (j := 15) C hM f_X12_62 rfl rfl dX12_measureOne_147 ?_
                      refine lv_bipush (v := 61) hx hb dX12_measureOne_150 (by decide) ?_
                      refine lv_iload hx hb dX12_measureOne_152 (lv_at hl 10 rfl) ?_
                      refine lv_iconst (v := 1) hx hb dX12_measureOne_154 (by decide) ?_
                      refine lv_iadd hx hb dX12_measureOne_155 ?_
                      refine lv_topi (fun xv102 exv102 => ?_)
                      try (have txv102 := addI (a := iz) (b := 1) (by omega) (by omega); rw [← exv102] at txv102)
                      refine lv_imul hx hb dX12_measureOne_156 ?_
                      refine lv_topi (fun xv103 exv103 => ?_)
                      try (have txv103 := mulD (a := xv102) (k := 61) (n := 61) (by decide) (by omega) (by omega); rw [← exv103] at txv103)
                      refine lv_iload hx hb dX12_measureOne_157 (lv_at hl 11 rfl) ?_
                      refine lv_iadd hx hb dX12_measureOne_159 ?_
                      refine lv_topi (fun xv104 exv104 => ?_)
                      try (have txv104 := addI (a := xv103) (b := jz) (by omega) (by omega); rw [← exv104] at txv104)
                      refine lv_iconst (v := 1) hx hb dX12_measureOne_160 (by decide) ?_
                      refine lv_iadd hx hb dX12_measureOne_161 ?_
                      refine lv_topi (fun xv105 exv105 => ?_)
                      try (have txv105 := addI (a := xv104) (b := 1) (by omega) (by omega); rw [← exv105] at txv105)
                      refine rr_ldI (j := 15) (k := 24) (n := 3721) (v := rA Rb 24 xv105.toNatClampNeg) C hM rfl rfl rfl (inI (by omega) (by show _ < (3721 : Int); omega)) rfl dX12_measureOne_162 ?_
                      refine lv_topi (fun xv106 exv106 => ?_)
                      refine lv_iadd hx hb dX12_measureOne_163 ?_
                      refine lv_topi (fun xv107 exv107 => ?_)
                      try (have txv107 := addI (a := xv100) (b := xv106) (by omega) (by omega); rw [← exv107] at txv107)
                      refine lv_goto (tgt := 218) hx hb dX12_measureOne_164 (by decide) ?_
                      exact join218 xv107 _ _ _  (lv_sub hl [3, 4, 5, 6, 7, 8, 9, 10, 11, 2, 1, 0] rfl) hM
        exact loop44 (((xv14.toInt + 1).toNat) + 1) xv14 Ra _ _ _ (hF) (by omega) (by omega) (lv_sub hl [1, 2, 3, 4, 5, 6, 7, 8, 0] rfl) hM
  exact loop34 (((xv7.toInt + 1).toNat) + 1) xv7 R _ _ _ (hF) (by omega) (by omega) (lv_sub hl [3, 4, 5, 6, 7, 2, 1, 0] rfl) hM
set_option maxHeartbeats 4000000 in
set_option maxRecDepth 100000 in
theorem c_X12_measureAll (l : Launch) (D : gD) (H0 : gB) (h0 : Nat) (R : RS) (kc ns : Nat) (i0 i1 : Int32) (hI : RI R) (g00 : 0 ≤ i0.toInt) (g10 : i0.toInt < 30) (g01 : 0 ≤ i1.toInt) (g11 : i1.toInt < 30)  : Met l yX12_measureAll (wsU yX12_measureAll cX12_measureAll 5 none) ({ frames := 3, cells := 0, slots := 0, locals := 77 } : Room) (mP D H0 (rM h0 R) kc ns [.ref h0, .int i0, .int i1]) (mQ D H0 gV (fun r S1 k1 n1 => kc = k1 ∧ ns = n1 ∧ ∃ R1, S1 = rM h0 R1 ∧ fr [23, 24] R R1 ∧ True)) 0 0 (mF H0) := by
  refine r_met (own := RX12) (by decide +kernel) rfl (Nat.le_of_ble_eq_true rfl) ?_
  intro p e s m args below meth c C hr hlk hnm H ls hl hM
  obtain ⟨hx, hb, hml, hown, hts, -, -⟩ := id C
  have hl : lv_has ls 5 [(0, .ref h0), (1, .int i0), (2, .int i1)] := hl
  have hF : fr [23, 24] R R := fr.rf
  have hI0 := hI
  have t_m1 : (-1 : Int32).toInt = -1 := by decide
  have t_0 : (0 : Int32).toInt = 0 := by decide
  have t_1 : (1 : Int32).toInt = 1 := by decide
  have t_60 : (60 : Int32).toInt = 60 := by decide
  have fm0 := RI.many hI i0.toNatClampNeg
  have fm1 := RI.many hI i1.toNatClampNeg
  refine lv_aload_n hx hb dX12_measureAll_0 rfl (lv_at hl 0 rfl) ?_
  refine rr_getA (k := 10) (j := 2) C hM f_X12_20 rfl rfl dX12_measureAll_1 ?_
  refine lv_iload_n hx hb dX12_measureAll_4 rfl (lv_at hl 1 rfl) ?_
  refine rr_ldI (j := 2) (k := 10) (n := 31) (v := rA R 10 i0.toNatClampNeg) C hM rfl rfl rfl (inI (by omega) (by show _ < (31 : Int); omega)) (congrFun (hF.gA 10 (by decide)) i0.toNatClampNeg) dX12_measureAll_5 ?_
  refine lv_topi (fun xv1 exv1 => ?_)
  have mxv1 : xv1.toInt = (rA R 10 i0.toNatClampNeg).toInt := by rw [exv1]
  have fxv1 := RI.many hI0 i0.toNatClampNeg; rw [← exv1] at fxv1
  refine lv_iconst (v := 1) hx hb dX12_measureAll_6 (by decide) ?_
  refine lv_isub hx hb dX12_measureAll_7 ?_
  refine lv_topi (fun xv2 exv2 => ?_)
  try (have txv2 := subI (a := xv1) (b := 1) (by omega) (by omega); rw [← exv2] at txv2)
  refine lv_istore_n (lv' := [(3, .int xv2), (0, .ref h0), (1, .int i0), (2, .int i1)]) hx hb dX12_measureAll_8 rfl hl (by decide) rfl (fun ls hl => ?_)
  have loop9 : ∀ (fu : Nat) (iz : Int32) (Ra : RS) (H : Heap) (locs : List Loc) (ls : Array Slot), (fr [23, 24] R Ra) → (-1 ≤ iz.toInt ∧ iz.toInt < (rA R 10 i0.toNatClampNeg).toInt) → (iz.toInt + 1).toNat < fu → lv_has ls 5 [(0, .ref h0), (1, .int i0), (2, .int i1), (3, .int iz)] → mH D H0 (rM h0 Ra) kc ns H locs → W p l e ({ frames := 3, cells := 0, slots := 0, locals := 77 } : Room) s m args below meth c H locs 0 0 (MQ below (mQ D H0 gV (fun r S1 k1 n1 => kc = k1 ∧ ns = n1 ∧ ∃ R1, S1 = rM h0 R1 ∧ fr [23, 24] R R1 ∧ True)) args s 0 0 (mF H0)) (F0 m 9 ls []) := by
    intro fu
    induction fu with
    | zero => intro iz Ra H locs ls h9_0 h9_1 hfu; exact absurd hfu (by omega)
    | succ fu ih9 =>
      intro iz Ra H locs ls h9_0 h9_1 hfu hl hM
      have hF := h9_0
      refine lv_iload_n hx hb dX12_measureAll_9 rfl (lv_at hl 3 rfl) ?_
      refine lv_if_lt (tgt := 61) hx hb dX12_measureAll_10 (by decide) (fun cv3 => ?_) (fun cv3 => ?_)
      · have tcv3 := ltT cv3
        exact r_retV C hr hlk hM (⟨rfl, rfl, _, rfl, hF, trivial⟩) dX12_measureAll_61
      · have tcv3 := ltF cv3
        refine lv_aload_n hx hb dX12_measureAll_13 rfl (lv_at hl 0 rfl) ?_
        refine rr_getA (k := 10) (j := 2) C hM f_X12_20 rfl rfl dX12_measureAll_14 ?_
        refine lv_iload_n hx hb dX12_measureAll_17 rfl (lv_at hl 2 rfl) ?_
        refine rr_ldI (j := 2) (k := 10) (n := 31) (v := rA R 10 i1.toNatClampNeg) C hM rfl rfl rfl (inI (by omega) (by show _ < (31 : Int); omega)) (congrFun (hF.gA 10 (by decide)) i1.toNatClampNeg) dX12_measureAll_18 ?_
        refine lv_topi (fun xv4 exv4 => ?_)
        have mxv4 : xv4.toInt = (rA R 10 i1.toNatClampNeg).toInt := by rw [exv4]
        have fxv4 := RI.many hI0 i1.toNatClampNeg; rw [← exv4] at fxv4
        refine lv_iconst (v := 1) hx hb dX12_measureAll_19 (by decide) ?_
        refine lv_isub hx hb dX12_measureAll_20 ?_
        refine lv_topi (fun xv5 exv5 => ?_)
        try (have txv5 := subI (a := xv4) (b := 1) (by omega) (by omega); rw [← exv5] at txv5)
        refine lv_istore (lv' := [(4, .int xv5), (0, .ref h0), (1, .int i0), (2, .int i1), (3, .int iz)]) hx hb dX12_measureAll_21 hl (by decide) rfl (fun ls hl => ?_)
        have loop23 : ∀ (fu : Nat) (jz : Int32) (Rb : RS) (H : Heap) (locs : List Loc) (ls : Array Slot), (fr [23, 24] R Rb) → (-1 ≤ jz.toInt ∧ jz.toInt < (rA R 10 i1.toNatClampNeg).toInt) → (jz.toInt + 1).toNat < fu → lv_has ls 5 [(0, .ref h0), (1, .int i0), (2, .int i1), (3, .int iz), (4, .int jz)] → mH D H0 (rM h0 Rb) kc ns H locs → W p l e ({ frames := 3, cells := 0, slots := 0, locals := 77 } : Room) s m args below meth c H locs 0 0 (MQ below (mQ D H0 gV (fun r S1 k1 n1 => kc = k1 ∧ ns = n1 ∧ ∃ R1, S1 = rM h0 R1 ∧ fr [23, 24] R R1 ∧ True)) args s 0 0 (mF H0)) (F0 m 23 ls []) := by
          intro fu
          induction fu with
          | zero => intro jz Rb H locs ls h23_0 h23_1 hfu; exact absurd hfu (by omega)
          | succ fu ih23 =>
            intro jz Rb H locs ls h23_0 h23_1 hfu hl hM
            have hF := h23_0
            refine lv_iload hx hb dX12_measureAll_23 (lv_at hl 4 rfl) ?_
            refine lv_if_lt (tgt := 55) hx hb dX12_measureAll_25 (by decide) (fun cv6 => ?_) (fun cv6 => ?_)
            · have tcv6 := ltT cv6
              obtain ⟨xv7, exv7⟩ : ∃ y : Int32, y = iz + (-1) := ⟨_, rfl⟩
              try (have txv7 := addI (a := iz) (b := (-1)) (by omega) (by omega); rw [← exv7] at txv7)
              refine lv_iinc (v := xv7) (lv' := [(3, .int xv7), (0, .ref h0), (1, .int i0), (2, .int i1), (4, .int jz)]) hx hb dX12_measureAll_55 hl (k := 3) rfl (by rw [exv7]; rfl) (by decide) rfl (fun ls hl => ?_)
              refine lv_goto (tgt := 9) hx hb dX12_measureAll_58 (by decide) ?_
              exact ih9 xv7 Rb _ _ _ (hF) (by omega) (by omega) (lv_sub hl [1, 2, 3, 0] rfl) hM
            · have tcv6 := ltF cv6
              refine lv_aload_n hx hb dX12_measureAll_28 rfl (lv_at hl 0 rfl) ?_
              refine rr_getA (k := 23) (j := 14) C hM f_X12_59 rfl rfl dX12_measureAll_29 ?_
              refine lv_bipush (v := 60) hx hb dX12_measureAll_32 (by decide) ?_
              refine lv_iload_n hx hb dX12_measureAll_34 rfl (lv_at hl 3 rfl) ?_
              refine lv_imul hx hb dX12_measureAll_35 ?_
              refine lv_topi (fun xv8 exv8 => ?_)
              try (have txv8 := mulD (a := iz) (k := 60) (n := 60) (by decide) (by omega) (by omega); rw [← exv8] at txv8)
              refine lv_iload hx hb dX12_measureAll_36 (lv_at hl 4 rfl) ?_
              refine lv_iadd hx hb dX12_measureAll_38 ?_
              refine lv_topi (fun xv9 exv9 => ?_)
              try (have txv9 := addI (a := xv8) (b := jz) (by omega) (by omega); rw [← exv9] at txv9)
              refine lv_aload_n hx hb dX12_measureAll_39 rfl (lv_at hl 0 rfl) ?_
              refine lv_iload_n hx hb dX12_measureAll_40 rfl (lv_at hl 1 rfl) ?_
              refine lv_iload_n hx hb dX12_measureAll_41 rfl (lv_at hl 2 rfl) ?_
              refine lv_iload_n hx hb dX12_measureAll_42 rfl (lv_at hl 3 rfl) ?_
              refine lv_iload hx hb dX12_measureAll_43 (lv_at hl 4 rfl) ?_
              refine r_V (As := [.int i0, .int i1, .int iz, .int jz]) (rest := [.int xv9, .ref (h0 + 1 + 14)]) (ci := 12) C hM (c_X12_measureOne l D H0 h0 Rb kc ns i0 i1 iz jz (hI0.fr hF (by decide)) (by omega) (by omega) (by omega) (by omega) (by omega) (by rw [hF.gA 10 (by decide)]; omega) (by omega) (by rw [hF.gA 10 (by decide)]; omega)) i_X12_measureOne m_X12_207 rK0 rfl rfl rfl hl.1 rfl (Nat.le_of_ble_eq_true rfl) ⟨by decide, by decide⟩ ⟨by decide, by decide⟩ dX12_measureAll_45 (fun xv13 Sv10 kv11 nv12 H locs pv14 hM => ?_)
              obtain ⟨rfl, rfl, Rv15, rfl, hf9, hxv13⟩ := pv14
              have hF : fr [23, 24] R Rv15 := hF.trans hf9 (by decide)
              refine W.eq (g2 := F0 m 48 ls [.int xv13, .int xv9, .ref (h0 + 1 + 14)]) rfl ?_
              refine rr_stI (j := 14) (k := 23) (n := 3600) (i := xv9) (x := xv13) C hM rfl rfl rfl (inI (by omega) (by show _ < (3600 : Int); omega)) dX12_measureAll_48 (fun H locs hM => ?_)
              have hM : mH D H0 (rM h0 (uA Rv15 23 xv9.toNatClampNeg xv13)) kc ns H locs := hM
              have hF : fr [23, 24] R (uA Rv15 23 xv9.toNatClampNeg xv13) := hF.A (by decide)
              obtain ⟨xv16, exv16⟩ : ∃ y : Int32, y = jz + (-1) := ⟨_, rfl⟩
              try (have txv16 := addI (a := jz) (b := (-1)) (by omega) (by omega); rw [← exv16] at txv16)
              refine lv_iinc (v := xv16) (lv' := [(4, .int xv16), (0, .ref h0), (1, .int i0), (2, .int i1), (3, .int iz)]) hx hb dX12_measureAll_49 hl (k := 4) rfl (by rw [exv16]; rfl) (by decide) rfl (fun ls hl => ?_)
              refine lv_goto (tgt := 23) hx hb dX12_measureAll_52 (by decide) ?_
              exact ih23 xv16 (uA Rv15 23 xv9.toNatClampNeg xv13) _ _ _ (hF) (by omega) (by omega) (lv_sub hl [1, 2, 3, 4, 0] rfl) hM
        exact loop23 (((xv5.toInt + 1).toNat) + 1) xv5 Ra _ _ _ (hF) (by omega) (by omega) (lv_sub hl [1, 2, 3, 4, 0] rfl) hM
  exact loop9 (((xv2.toInt + 1).toNat) + 1) xv2 R _ _ _ (hF) (by omega) (by omega) (lv_sub hl [1, 2, 3, 0] rfl) hM
set_option maxHeartbeats 4000000 in
set_option maxRecDepth 100000 in
theorem c_X12_far (l : Launch) (D : gD) (H0 : gB) (h0 : Nat) (R : RS) (kc ns : Nat) (i0 i1 i2 i3 : Int32) (hI : RI R)  : Met l yX12_far (wsU yX12_far cX12_far 5 (some .int)) ({ frames := 4, cells := 0, slots := 0, locals := 101 } : Room) (mP D H0 (rM h0 R) kc ns [.ref h0, .int i0, .int i1, .int i2, .int i3]) (mQ D H0 gI (fun r S1 k1 n1 => kc = k1 ∧ ns = n1 ∧ ∃ R1, S1 = rM h0 R1 ∧ fr [23, 24] R R1 ∧ True)) 0 0 (mF H0) := by
  refine r_met (own := RX12) (by decide +kernel) rfl (Nat.le_of_ble_eq_true rfl) ?_
  intro p e s m args below meth c C hr hlk hnm H ls hl hM
  obtain ⟨hx, hb, hml, hown, hts, -, -⟩ := id C
  have hl : lv_has ls 5 [(0, .ref h0), (1, .int i0), (2, .int i1), (3, .int i2), (4, .int i3)] := hl
  have hF : fr [23, 24] R R := fr.rf
  have hI0 := hI
  have t_m1 : (-1 : Int32).toInt = -1 := by decide
  have t_0 : (0 : Int32).toInt = 0 := by decide
  have t_60 : (60 : Int32).toInt = 60 := by decide
  have fm0 := RI.many hI i0.toNatClampNeg
  have fm2 := RI.many hI i2.toNatClampNeg
  refine lv_aload_n hx hb dX12_far_0 rfl (lv_at hl 0 rfl) ?_
  refine lv_iload_n hx hb dX12_far_1 rfl (lv_at hl 1 rfl) ?_
  refine lv_iload_n hx hb dX12_far_2 rfl (lv_at hl 2 rfl) ?_
  refine r_V (As := [.int i0, .int i1]) (rest := []) (ci := 12) C hM (c_X12_isPart l D H0 h0 R kc ns i0 i1 (hI0.fr hF (by decide))) i_X12_isPart m_X12_185 rK0 rfl rfl rfl hl.1 rfl (Nat.le_of_ble_eq_true rfl) ⟨by decide, by decide⟩ ⟨by decide, by decide⟩ dX12_far_3 (fun xv4 Sv1 kv2 nv3 H locs pv5 hM => ?_)
  obtain ⟨rfl, rfl, rfl, hxv4⟩ := pv5
  refine W.eq (g2 := F0 m 6 ls [.int xv4]) rfl ?_
  refine lv_if_eq (tgt := 19) hx hb dX12_far_6 (by decide) (fun cv6 => ?_) (fun cv6 => ?_)
  · have tcv6 := eqT cv6
    refine lv_iconst (v := -1) hx hb dX12_far_19 (by decide) ?_
    exact r_retI C hr hlk hM (⟨rfl, rfl, _, rfl, hF, trivial⟩) dX12_far_20
  · have tcv6 := eqF cv6
    refine lv_aload_n hx hb dX12_far_9 rfl (lv_at hl 0 rfl) ?_
    refine lv_iload_n hx hb dX12_far_10 rfl (lv_at hl 3 rfl) ?_
    refine lv_iload hx hb dX12_far_11 (lv_at hl 4 rfl) ?_
    refine r_V (As := [.int i2, .int i3]) (rest := []) (ci := 12) C hM (c_X12_isPart l D H0 h0 R kc ns i2 i3 (hI0.fr hF (by decide))) i_X12_isPart m_X12_185 rK0 rfl rfl rfl hl.1 rfl (Nat.le_of_ble_eq_true rfl) ⟨by decide, by decide⟩ ⟨by decide, by decide⟩ dX12_far_13 (fun xv10 Sv7 kv8 nv9 H locs pv11 hM => ?_)
    obtain ⟨rfl, rfl, rfl, hxv10⟩ := pv11
    refine W.eq (g2 := F0 m 16 ls [.int xv10]) rfl ?_
    refine lv_if_ne (tgt := 21) hx hb dX12_far_16 (by decide) (fun cv12 => ?_) (fun cv12 => ?_)
    · have tcv12 := eqF cv12
      refine lv_aload_n hx hb dX12_far_21 rfl (lv_at hl 0 rfl) ?_
      refine lv_iload_n hx hb dX12_far_22 rfl (lv_at hl 1 rfl) ?_
      refine lv_iload_n hx hb dX12_far_23 rfl (lv_at hl 3 rfl) ?_
      refine r_V (As := [.int i0, .int i2]) (rest := []) (ci := 12) C hM (c_X12_measureAll l D H0 h0 R kc ns i0 i2 (hI0.fr hF (by decide)) (by omega) (by omega) (by omega) (by omega)) i_X12_measureAll m_X12_214 rK0 rfl rfl rfl hl.1 rfl (Nat.le_of_ble_eq_true rfl) ⟨by decide, by decide⟩ ⟨by decide, by decide⟩ dX12_far_24 (fun uv16 Sv13 kv14 nv15 H locs pv17 hM => ?_)
      obtain ⟨rfl, rfl, Rv18, rfl, hf9, huv16⟩ := pv17
      have hF : fr [23, 24] R Rv18 := hF.trans hf9 (by decide)
      refine W.eq (g2 := F0 m 27 ls []) rfl ?_
      refine lv_aload_n hx hb dX12_far_27 rfl (lv_at hl 0 rfl) ?_
      refine rr_getA (k := 23) (j := 14) C hM f_X12_59 rfl rfl dX12_far_28 ?_
      refine lv_bipush (v := 60) hx hb dX12_far_31 (by decide) ?_
      refine lv_iload_n hx hb dX12_far_33 rfl (lv_at hl 2 rfl) ?_
      refine lv_imul hx hb dX12_far_34 ?_
      refine lv_topi (fun xv19 exv19 => ?_)
      try (have txv19 := mulD (a := i1) (k := 60) (n := 60) (by decide) (by omega) (by omega); rw [← exv19] at txv19)
      refine lv_iload hx hb dX12_far_35 (lv_at hl 4 rfl) ?_
      refine lv_iadd hx hb dX12_far_37 ?_
      refine lv_topi (fun xv20 exv20 => ?_)
      try (have txv20 := addI (a := xv19) (b := i3) (by omega) (by omega); rw [← exv20] at txv20)
      refine rr_ldI (j := 14) (k := 23) (n := 3600) (v := rA Rv18 23 xv20.toNatClampNeg) C hM rfl rfl rfl (inI (by omega) (by show _ < (3600 : Int); omega)) rfl dX12_far_38 ?_
      refine lv_topi (fun xv21 exv21 => ?_)
      exact r_retI C hr hlk hM (⟨rfl, rfl, _, rfl, hF, trivial⟩) dX12_far_39
    · have tcv12 := eqT cv12
      refine lv_iconst (v := -1) hx hb dX12_far_19 (by decide) ?_
      exact r_retI C hr hlk hM (⟨rfl, rfl, _, rfl, hF, trivial⟩) dX12_far_20
set_option maxHeartbeats 4000000 in
set_option maxRecDepth 100000 in
theorem c_X12_cost (l : Launch) (D : gD) (H0 : gB) (h0 : Nat) (R : RS) (kc ns : Nat) (i0 i1 i2 i3 : Int32) (hI : RI R)  : Met l yX12_cost (wsU yX12_cost cX12_cost 5 (some .int)) ({ frames := 4, cells := 0, slots := 0, locals := 101 } : Room) (mP D H0 (rM h0 R) kc ns [.ref h0, .int i0, .int i1, .int i2, .int i3]) (mQ D H0 gI (fun r S1 k1 n1 => kc = k1 ∧ ns = n1 ∧ ∃ R1, S1 = rM h0 R1 ∧ fr [23, 24] R R1 ∧ True)) 0 0 (mF H0) := by
  refine r_met (own := RX12) (by decide +kernel) rfl (Nat.le_of_ble_eq_true rfl) ?_
  intro p e s m args below meth c C hr hlk hnm H ls hl hM
  obtain ⟨hx, hb, hml, hown, hts, -, -⟩ := id C
  have hl : lv_has ls 5 [(0, .ref h0), (1, .int i0), (2, .int i1), (3, .int i2), (4, .int i3)] := hl
  have hF : fr [23, 24] R R := fr.rf
  have hI0 := hI
  have t_m1 : (-1 : Int32).toInt = -1 := by decide
  have t_0 : (0 : Int32).toInt = 0 := by decide
  have fm0 := RI.many hI i0.toNatClampNeg
  have fm2 := RI.many hI i2.toNatClampNeg
  refine lv_aload_n hx hb dX12_cost_0 rfl (lv_at hl 0 rfl) ?_
  refine lv_iload_n hx hb dX12_cost_1 rfl (lv_at hl 1 rfl) ?_
  refine lv_iload_n hx hb dX12_cost_2 rfl (lv_at hl 2 rfl) ?_
  refine r_V (As := [.int i0, .int i1]) (rest := []) (ci := 12) C hM (c_X12_isPart l D H0 h0 R kc ns i0 i1 (hI0.fr hF (by decide))) i_X12_isPart m_X12_185 rK0 rfl rfl rfl hl.1 rfl (Nat.le_of_ble_eq_true rfl) ⟨by decide, by decide⟩ ⟨by decide, by decide⟩ dX12_cost_3 (fun xv4 Sv1 kv2 nv3 H locs pv5 hM => ?_)
  obtain ⟨rfl, rfl, rfl, hxv4⟩ := pv5
  refine W.eq (g2 := F0 m 6 ls [.int xv4]) rfl ?_
  refine lv_if_eq (tgt := 19) hx hb dX12_cost_6 (by decide) (fun cv6 => ?_) (fun cv6 => ?_)
  · have tcv6 := eqT cv6
    refine lv_iconst (v := -1) hx hb dX12_cost_19 (by decide) ?_
    exact r_retI C hr hlk hM (⟨rfl, rfl, _, rfl, hF, trivial⟩) dX12_cost_20
  · have tcv6 := eqF cv6
    refine lv_aload_n hx hb dX12_cost_9 rfl (lv_at hl 0 rfl) ?_
    refine lv_iload_n hx hb dX12_cost_10 rfl (lv_at hl 3 rfl) ?_
    refine lv_iload hx hb dX12_cost_11 (lv_at hl 4 rfl) ?_
    refine r_V (As := [.int i2, .int i3]) (rest := []) (ci := 12) C hM (c_X12_isPart l D H0 h0 R kc ns i2 i3 (hI0.fr hF (by decide))) i_X12_isPart m_X12_185 rK0 rfl rfl rfl hl.1 rfl (Nat.le_of_ble_eq_true rfl) ⟨by decide, by decide⟩ ⟨by decide, by decide⟩ dX12_cost_13 (fun xv10 Sv7 kv8 nv9 H locs pv11 hM => ?_)
    obtain ⟨rfl, rfl, rfl, hxv10⟩ := pv11
    refine W.eq (g2 := F0 m 16 ls [.int xv10]) rfl ?_
    refine lv_if_ne (tgt := 21) hx hb dX12_cost_16 (by decide) (fun cv12 => ?_) (fun cv12 => ?_)
    · have tcv12 := eqF cv12
      refine lv_aload_n hx hb dX12_cost_21 rfl (lv_at hl 0 rfl) ?_
      refine lv_iload_n hx hb dX12_cost_22 rfl (lv_at hl 1 rfl) ?_
      refine lv_iload_n hx hb dX12_cost_23 rfl (lv_at hl 3 rfl) ?_
      refine r_V (As := [.int i0, .int i2]) (rest := []) (ci := 12) C hM (c_X12_measureAll l D H0 h0 R kc ns i0 i2 (hI0.fr hF (by decide)) (by omega) (by omega) (by omega) (by omega)) i_X12_measureAll m_X12_214 rK0 rfl rfl rfl hl.1 rfl (Nat.le_of_ble_eq_true rfl) ⟨by decide, by decide⟩ ⟨by decide, by decide⟩ dX12_cost_24 (fun uv16 Sv13 kv14 nv15 H locs pv17 hM => ?_)
      obtain ⟨rfl, rfl, Rv18, rfl, hf9, huv16⟩ := pv17
      have hF : fr [23, 24] R Rv18 := hF.trans hf9 (by decide)
      refine W.eq (g2 := F0 m 27 ls []) rfl ?_
      refine lv_aload_n hx hb dX12_cost_27 rfl (lv_at hl 0 rfl) ?_
      refine lv_iload_n hx hb dX12_cost_28 rfl (lv_at hl 1 rfl) ?_
      refine lv_iload_n hx hb dX12_cost_29 rfl (lv_at hl 2 rfl) ?_
      refine lv_iload_n hx hb dX12_cost_30 rfl (lv_at hl 3 rfl) ?_
      refine lv_iload hx hb dX12_cost_31 (lv_at hl 4 rfl) ?_
      refine r_V (As := [.int i0, .int i1, .int i2, .int i3]) (rest := []) (ci := 12) C hM (c_X12_costOf l D H0 h0 Rv18 kc ns i0 i1 i2 i3 (hI0.fr hF (by decide)) (by omega) (by omega) (by omega) (by rw [hF.gA 10 (by decide)]; omega) (by omega) (by omega) (by omega) (by rw [hF.gA 10 (by decide)]; omega)) i_X12_costOf m_X12_220 rK0 rfl rfl rfl hl.1 rfl (Nat.le_of_ble_eq_true rfl) ⟨by decide, by decide⟩ ⟨by decide, by decide⟩ dX12_cost_33 (fun xv22 Sv19 kv20 nv21 H locs pv23 hM => ?_)
      obtain ⟨rfl, rfl, rfl, hxv22⟩ := pv23
      refine W.eq (g2 := F0 m 36 ls [.int xv22]) rfl ?_
      exact r_retI C hr hlk hM (⟨rfl, rfl, _, rfl, hF, trivial⟩) dX12_cost_36
    · have tcv12 := eqT cv12
      refine lv_iconst (v := -1) hx hb dX12_cost_19 (by decide) ?_
      exact r_retI C hr hlk hM (⟨rfl, rfl, _, rfl, hF, trivial⟩) dX12_cost_20
set_option maxHeartbeats 4000000 in
set_option maxRecDepth 100000 in
theorem c_X12_gap (l : Launch) (D : gD) (H0 : gB) (h0 : Nat) (R : RS) (kc ns : Nat) (i0 : Int32) (hI : RI R)  : Met l yX12_gap (wsU yX12_gap cX12_gap 2 (some .boolean)) ({ frames := 0, cells := 0, slots := 0, locals := 0 } : Room) (mP D H0 (rM h0 R) kc ns [.ref h0, .int i0]) (mQ D H0 gI (fun r S1 k1 n1 => kc = k1 ∧ ns = n1 ∧ ∃ R1, S1 = rM h0 R1 ∧ fr [25] R R1 ∧ ((0 ≤ i0.toInt ∧ i0.toInt ≤ 100) ∧ r = 1 ∨ ¬ (0 ≤ i0.toInt ∧ i0.toInt ≤ 100) ∧ r = 0))) 0 0 (mF H0) := by
  refine r_met (own := RX12) (by decide +kernel) rfl (Nat.le_of_ble_eq_true rfl) ?_
  intro p e s m args below meth c C hr hlk hnm H ls hl hM
  obtain ⟨hx, hb, hml, hown, hts, -, -⟩ := id C
  have hl : lv_has ls 2 [(0, .ref h0), (1, .int i0)] := hl
  have hF : fr [25] R R := fr.rf
  have hI0 := hI
  have t_0 : (0 : Int32).toInt = 0 := by decide
  have t_1 : (1 : Int32).toInt = 1 := by decide
  have t_100 : (100 : Int32).toInt = 100 := by decide
  refine lv_iload_n hx hb dX12_gap_0 rfl (lv_at hl 1 rfl) ?_
  refine lv_if_lt (tgt := 10) hx hb dX12_gap_1 (by decide) (fun cv1 => ?_) (fun cv1 => ?_)
  · have tcv1 := ltT cv1
    refine lv_iconst (v := 0) hx hb dX12_gap_10 (by decide) ?_
    exact r_retZ C hr hlk rfl hM (⟨rfl, rfl, _, rfl, hF, by first | exact Or.inl ⟨⟨by omega, by omega⟩, rfl⟩ | exact Or.inr ⟨by omega, rfl⟩⟩) dX12_gap_11
  · have tcv1 := ltF cv1
    refine lv_iload_n hx hb dX12_gap_4 rfl (lv_at hl 1 rfl) ?_
    refine lv_bipush (v := 100) hx hb dX12_gap_5 (by decide) ?_
    refine lv_icmp_le (tgt := 12) hx hb dX12_gap_7 (by decide) (fun cv2 => ?_) (fun cv2 => ?_)
    · have tcv2 := leT cv2
      refine lv_aload_n hx hb dX12_gap_12 rfl (lv_at hl 0 rfl) ?_
      refine lv_iload_n hx hb dX12_gap_13 rfl (lv_at hl 1 rfl) ?_
      refine rr_putI (k := 25) (v := i0) C hM f_X12_65 rfl (fun r h => by cases h; rfl) rfl dX12_gap_14 (fun H locs hM => ?_)
      have hM : mH D H0 (rM h0 (uI R 25 i0)) kc ns H locs := hM
      have hF : fr [25] R (uI R 25 i0) := hF.I (by decide)
      refine lv_iconst (v := 1) hx hb dX12_gap_17 (by decide) ?_
      exact r_retZ C hr hlk rfl hM (⟨rfl, rfl, _, rfl, hF, by first | exact Or.inl ⟨⟨by omega, by omega⟩, rfl⟩ | exact Or.inr ⟨by omega, rfl⟩⟩) dX12_gap_18
    · have tcv2 := leF cv2
      refine lv_iconst (v := 0) hx hb dX12_gap_10 (by decide) ?_
      exact r_retZ C hr hlk rfl hM (⟨rfl, rfl, _, rfl, hF, by first | exact Or.inl ⟨⟨by omega, by omega⟩, rfl⟩ | exact Or.inr ⟨by omega, rfl⟩⟩) dX12_gap_11
