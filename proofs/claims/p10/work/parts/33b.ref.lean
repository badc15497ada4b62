set_option maxHeartbeats 4000000 in
set_option maxRecDepth 100000 in
theorem c_X12_seek (l : Launch) (D : gD) (H0 : gB) (h0 : Nat) (R : RS) (kc ns : Nat) (i0 i1 i2 : Int32) (hI : RI R) (g00 : 0 ≤ i0.toInt) (g10 : i0.toInt < 30) (p01 : 0 ≤ i1.toInt) (p11 : i1.toInt < (rA R 10 i0.toNatClampNeg).toInt) (g02 : 0 ≤ i2.toInt) (g12 : i2.toInt < 30)  : Met l yX12_seek (wsU yX12_seek cX12_seek 6 (some .int)) ({ frames := 4, cells := 0, slots := 0, locals := 101 } : Room) (mP D H0 (rM h0 R) kc ns [.ref h0, .int i0, .int i1, .int i2]) (mQ D H0 gI (fun r S1 k1 n1 => kc = k1 ∧ ns = n1 ∧ ∃ R1, S1 = rM h0 R1 ∧ fr [23, 24, 26, 27, 28, 29] R R1 ∧ (r.toInt < 0 ∨ (0 ≤ (rI R1 26).toInt ∧ (rI R1 26).toInt < (rA R 10 i2.toNatClampNeg).toInt)))) 0 0 (mF H0) := by
  refine r_met (own := RX12) (by decide +kernel) rfl (Nat.le_of_ble_eq_true rfl) ?_
  intro p e s m args below meth c C hr hlk hnm H ls hl hM
  obtain ⟨hx, hb, hml, hown, hts, -, -⟩ := id C
  have hl : lv_has ls 6 [(0, .ref h0), (1, .int i0), (2, .int i1), (3, .int i2)] := hl
  have hF : fr [23, 24, 26, 27, 28, 29] R R := fr.rf
  have hI0 := hI
  have t_m2 : (-2 : Int32).toInt = -2 := by decide
  have t_m1 : (-1 : Int32).toInt = -1 := by decide
  have t_0 : (0 : Int32).toInt = 0 := by decide
  have t_1 : (1 : Int32).toInt = 1 := by decide
  have fm0 := RI.many hI i0.toNatClampNeg
  have fm2 := RI.many hI i2.toNatClampNeg
  refine lv_aload_n hx hb dX12_seek_0 rfl (lv_at hl 0 rfl) ?_
  refine lv_iload_n hx hb dX12_seek_1 rfl (lv_at hl 1 rfl) ?_
  refine lv_iload_n hx hb dX12_seek_2 rfl (lv_at hl 3 rfl) ?_
  refine r_V (As := [.int i0, .int i2]) (rest := []) (ci := 12) C hM (c_X12_measureAll l D H0 h0 R kc ns i0 i2 (hI0.fr hF (by decide)) (by omega) (by omega) (by omega) (by omega)) i_X12_measureAll m_X12_214 rK0 rfl rfl rfl hl.1 rfl (Nat.le_of_ble_eq_true rfl) ⟨by decide, by decide⟩ ⟨by decide, by decide⟩ dX12_seek_3 (fun uv4 Sv1 kv2 nv3 H locs pv5 hM => ?_)
  obtain ⟨rfl, rfl, Rv6, rfl, hf9, huv4⟩ := pv5
  have hF : fr [23, 24, 26, 27, 28, 29] R Rv6 := hF.trans hf9 (by decide)
  have zv7 : (rI Rv6 26).toInt = (rI R 26).toInt := by rw [hf9.gI 26 (by decide)]
  refine W.eq (g2 := F0 m 6 ls []) rfl ?_
  refine lv_aload_n hx hb dX12_seek_6 rfl (lv_at hl 0 rfl) ?_
  refine lv_iconst (v := -1) hx hb dX12_seek_7 (by decide) ?_
  refine rr_putI (k := 26) (v := (-1 : Int32)) C hM f_X12_223 rfl (fun r h => by cases h; rfl) rfl dX12_seek_8 (fun H locs hM => ?_)
  have hM : mH D H0 (rM h0 (uI Rv6 26 (-1 : Int32))) kc ns H locs := hM
  have hF : fr [23, 24, 26, 27, 28, 29] R (uI Rv6 26 (-1 : Int32)) := hF.I (by decide)
  refine lv_aload_n hx hb dX12_seek_11 rfl (lv_at hl 0 rfl) ?_
  refine lv_iconst (v := -1) hx hb dX12_seek_12 (by decide) ?_
  refine rr_putI (k := 27) (v := (-1 : Int32)) C hM f_X12_226 rfl (fun r h => by cases h; rfl) rfl dX12_seek_13 (fun H locs hM => ?_)
  have hM : mH D H0 (rM h0 (uI (uI Rv6 26 (-1 : Int32)) 27 (-1 : Int32))) kc ns H locs := hM
  have hF : fr [23, 24, 26, 27, 28, 29] R (uI (uI Rv6 26 (-1 : Int32)) 27 (-1 : Int32)) := hF.I (by decide)
  refine lv_iconst (v := 0) hx hb dX12_seek_16 (by decide) ?_
  refine lv_istore (lv' := [(4, .int 0), (0, .ref h0), (1, .int i0), (2, .int i1), (3, .int i2)]) hx hb dX12_seek_17 hl (by decide) rfl (fun ls hl => ?_)
  have zv8 : (rI (uI (uI Rv6 26 (-1 : Int32)) 27 (-1 : Int32)) 26).toInt = (-1 : Int32).toInt := rfl
  have loop19 : ∀ (fu : Nat) (bz : Int32) (Ra : RS) (H : Heap) (locs : List Loc) (ls : Array Slot), (fr [23, 24, 26, 27, 28, 29] R Ra) → (0 ≤ bz.toInt) → (-1 ≤ (rI Ra 26).toInt ∧ (rI Ra 26).toInt < (rA R 10 i2.toNatClampNeg).toInt) → (60 - bz.toInt).toNat < fu → lv_has ls 6 [(0, .ref h0), (1, .int i0), (2, .int i1), (3, .int i2), (4, .int bz)] → mH D H0 (rM h0 Ra) kc ns H locs → W p l e ({ frames := 4, cells := 0, slots := 0, locals := 101 } : Room) s m args below meth c H locs 0 0 (MQ below (mQ D H0 gI (fun r S1 k1 n1 => kc = k1 ∧ ns = n1 ∧ ∃ R1, S1 = rM h0 R1 ∧ fr [23, 24, 26, 27, 28, 29] R R1 ∧ (r.toInt < 0 ∨ (0 ≤ (rI R1 26).toInt ∧ (rI R1 26).toInt < (rA R 10 i2.toNatClampNeg).toInt)))) args s 0 0 (mF H0)) (F0 m 19 ls []) := by
    intro fu
    induction fu with
    | zero => intro bz Ra H locs ls h19_0 h19_1 h19_2 hfu; exact absurd hfu (by omega)
    | succ fu ih19 =>
      intro bz Ra H locs ls h19_0 h19_1 h19_2 hfu hl hM
      have hF := h19_0
      refine lv_iload hx hb dX12_seek_19 (lv_at hl 4 rfl) ?_
      refine lv_aload_n hx hb dX12_seek_21 rfl (lv_at hl 0 rfl) ?_
      refine rr_getA (k := 10) (j := 2) C hM f_X12_20 rfl rfl dX12_seek_22 ?_
      refine lv_iload_n hx hb dX12_seek_25 rfl (lv_at hl 3 rfl) ?_
      refine rr_ldI (j := 2) (k := 10) (n := 31) (v := rA R 10 i2.toNatClampNeg) C hM rfl rfl rfl (inI (by omega) (by show _ < (31 : Int); omega)) (congrFun (hF.gA 10 (by decide)) i2.toNatClampNeg) dX12_seek_26 ?_
      refine lv_topi (fun xv9 exv9 => ?_)
      have mxv9 : xv9.toInt = (rA R 10 i2.toNatClampNeg).toInt := by rw [exv9]
      have fxv9 := RI.many hI0 i2.toNatClampNeg; rw [← exv9] at fxv9
      refine lv_icmp_ge (tgt := 150) hx hb dX12_seek_27 (by decide) (fun cv10 => ?_) (fun cv10 => ?_)
      · have tcv10 := leT cv10
        refine lv_aload_n hx hb dX12_seek_150 rfl (lv_at hl 0 rfl) ?_
        refine rr_getI (k := 26) (v := rI Ra 26) C hM f_X12_223 rfl rfl dX12_seek_151 ?_
        refine lv_topi (fun xv11 exv11 => ?_)
        have mxv11 : xv11.toInt = (rI Ra 26).toInt := by rw [exv11]
        refine lv_if_ge (tgt := 160) hx hb dX12_seek_154 (by decide) (fun cv12 => ?_) (fun cv12 => ?_)
        · have tcv12 := leT cv12
          refine lv_aload_n hx hb dX12_seek_160 rfl (lv_at hl 0 rfl) ?_
          refine rr_getI (k := 27) (v := rI Ra 27) C hM f_X12_226 rfl rfl dX12_seek_161 ?_
          refine lv_topi (fun xv13 exv13 => ?_)
          have mxv13 : xv13.toInt = (rI Ra 27).toInt := by rw [exv13]
          refine lv_if_lt (tgt := 183) hx hb dX12_seek_164 (by decide) (fun cv14 => ?_) (fun cv14 => ?_)
          · have tcv14 := ltT cv14
            refine lv_iconst (v := 1) hx hb dX12_seek_183 (by decide) ?_
            refine lv_goto (tgt := 188) hx hb dX12_seek_184 (by decide) ?_
            exact r_retI C hr hlk hM (⟨rfl, rfl, _, rfl, hF, by omega⟩) dX12_seek_188
          · have tcv14 := ltF cv14
            refine lv_aload_n hx hb dX12_seek_167 rfl (lv_at hl 0 rfl) ?_
            refine rr_getI (k := 29) (v := rI Ra 29) C hM f_X12_232 rfl rfl dX12_seek_168 ?_
            refine lv_topi (fun xv15 exv15 => ?_)
            have mxv15 : xv15.toInt = (rI Ra 29).toInt := by rw [exv15]
            refine lv_aload_n hx hb dX12_seek_171 rfl (lv_at hl 0 rfl) ?_
            refine rr_getI (k := 28) (v := rI Ra 28) C hM f_X12_229 rfl rfl dX12_seek_172 ?_
            refine lv_topi (fun xv16 exv16 => ?_)
            have mxv16 : xv16.toInt = (rI Ra 28).toInt := by rw [exv16]
            refine lv_isub hx hb dX12_seek_175 ?_
            refine lv_topi (fun xv17 exv17 => ?_)
            try (have txv17 := subI (a := xv15) (b := xv16) (by omega) (by omega); rw [← exv17] at txv17)
            refine lv_aload_n hx hb dX12_seek_176 rfl (lv_at hl 0 rfl) ?_
            refine rr_getI (k := 25) (v := rI R 25) C hM f_X12_65 rfl (hF.gI 25 (by decide)) dX12_seek_177 ?_
            refine lv_topi (fun xv18 exv18 => ?_)
            have mxv18 : xv18.toInt = (rI R 25).toInt := by rw [exv18]
            refine lv_icmp_lt (tgt := 187) hx hb dX12_seek_180 (by decide) (fun cv19 => ?_) (fun cv19 => ?_)
            · have tcv19 := ltT cv19
              refine lv_iconst (v := 0) hx hb dX12_seek_187 (by decide) ?_
              exact r_retI C hr hlk hM (⟨rfl, rfl, _, rfl, hF, by omega⟩) dX12_seek_188
            · have tcv19 := ltF cv19
              refine lv_iconst (v := 1) hx hb dX12_seek_183 (by decide) ?_
              refine lv_goto (tgt := 188) hx hb dX12_seek_184 (by decide) ?_
              exact r_retI C hr hlk hM (⟨rfl, rfl, _, rfl, hF, by omega⟩) dX12_seek_188
        · have tcv12 := leF cv12
          refine lv_bipush (v := -2) hx hb dX12_seek_157 (by decide) ?_
          exact r_retI C hr hlk hM (⟨rfl, rfl, _, rfl, hF, by omega⟩) dX12_seek_159
      · have tcv10 := leF cv10
        refine lv_aload_n hx hb dX12_seek_30 rfl (lv_at hl 0 rfl) ?_
        refine rr_getA (k := 17) (j := 9) C hM f_X12_42 rfl rfl dX12_seek_31 ?_
        refine lv_iload_n hx hb dX12_seek_34 rfl (lv_at hl 3 rfl) ?_
        refine lv_iload hx hb dX12_seek_35 (lv_at hl 4 rfl) ?_
        refine r_S (As := [.int i2, .int bz]) (rest := [.ref (h0 + 1 + 9)]) C hM (c_X12_spot l D H0 (rM h0 Ra) kc ns i2 bz (by omega) (by omega) (by omega) (by omega)) i_X12_spot m_X12_151 rfl hl.1 rfl (Nat.le_of_ble_eq_true rfl) ⟨by decide, by decide⟩ ⟨by decide, by decide⟩ dX12_seek_37 (fun xv23 Sv20 kv21 nv22 H locs pv24 hM => ?_)
        obtain ⟨rfl, rfl, rfl, hxv23⟩ := pv24
        refine W.eq (g2 := F0 m 40 ls [.int xv23, .ref (h0 + 1 + 9)]) rfl ?_
        refine rr_ldJ (j := 9) (k := 17) (n := 1860) (v := rB R 17 xv23.toNatClampNeg) C hM rfl rfl rfl (inI (by omega) (by show _ < (1860 : Int); omega)) (congrFun (hF.gB 17 (by decide)) xv23.toNatClampNeg) dX12_seek_40 ?_
        refine lv_topl (fun lv25 elv25 => ?_)
        refine lv_aload_n hx hb dX12_seek_41 rfl (lv_at hl 0 rfl) ?_
        refine rr_getA (k := 17) (j := 9) C hM f_X12_42 rfl rfl dX12_seek_42 ?_
        refine lv_iload_n hx hb dX12_seek_45 rfl (lv_at hl 1 rfl) ?_
        refine lv_iload_n hx hb dX12_seek_46 rfl (lv_at hl 2 rfl) ?_
        refine r_S (As := [.int i0, .int i1]) (rest := [.ref (h0 + 1 + 9), .long lv25]) C hM (c_X12_spot l D H0 (rM h0 Ra) kc ns i0 i1 (by omega) (by omega) (by omega) (by omega)) i_X12_spot m_X12_151 rfl hl.1 rfl (Nat.le_of_ble_eq_true rfl) ⟨by decide, by decide⟩ ⟨by decide, by decide⟩ dX12_seek_47 (fun xv29 Sv26 kv27 nv28 H locs pv30 hM => ?_)
        obtain ⟨rfl, rfl, rfl, hxv29⟩ := pv30
        refine W.eq (g2 := F0 m 50 ls [.int xv29, .ref (h0 + 1 + 9), .long lv25]) rfl ?_
        refine rr_ldJ (j := 9) (k := 17) (n := 1860) (v := rB R 17 xv29.toNatClampNeg) C hM rfl rfl rfl (inI (by omega) (by show _ < (1860 : Int); omega)) (congrFun (hF.gB 17 (by decide)) xv29.toNatClampNeg) dX12_seek_50 ?_
        refine lv_topl (fun lv31 elv31 => ?_)
        refine W.lcmp hx hb dX12_seek_51 ?_
        refine lv_topi (fun xv32 exv32 => ?_)
        refine lv_if_eq (tgt := 58) hx hb dX12_seek_52 (by decide) (fun cv33 => ?_) (fun cv33 => ?_)
        · have tcv33 := eqT cv33
          refine lv_aload_n hx hb dX12_seek_58 rfl (lv_at hl 0 rfl) ?_
          refine lv_iload_n hx hb dX12_seek_59 rfl (lv_at hl 1 rfl) ?_
          refine lv_iload_n hx hb dX12_seek_60 rfl (lv_at hl 2 rfl) ?_
          refine lv_iload_n hx hb dX12_seek_61 rfl (lv_at hl 3 rfl) ?_
          refine lv_iload hx hb dX12_seek_62 (lv_at hl 4 rfl) ?_
          refine r_V (As := [.int i0, .int i1, .int i2, .int bz]) (rest := []) (ci := 12) C hM (c_X12_costOf l D H0 h0 Ra kc ns i0 i1 i2 bz (hI0.fr hF (by decide)) (by omega) (by omega) (by omega) (by rw [hF.gA 10 (by decide)]; omega) (by omega) (by omega) (by omega) (by rw [hF.gA 10 (by decide)]; omega)) i_X12_costOf m_X12_220 rK0 rfl rfl rfl hl.1 rfl (Nat.le_of_ble_eq_true rfl) ⟨by decide, by decide⟩ ⟨by decide, by decide⟩ dX12_seek_64 (fun xv37 Sv34 kv35 nv36 H locs pv38 hM => ?_)
          obtain ⟨rfl, rfl, rfl, hxv37⟩ := pv38
          refine W.eq (g2 := F0 m 67 ls [.int xv37]) rfl ?_
          refine lv_istore (lv' := [(5, .int xv37), (0, .ref h0), (1, .int i0), (2, .int i1), (3, .int i2), (4, .int bz)]) hx hb dX12_seek_67 hl (by decide) rfl (fun ls hl => ?_)
          refine lv_aload_n hx hb dX12_seek_69 rfl (lv_at hl 1 rfl) ?_
          refine rr_getI (k := 26) (v := rI Ra 26) C hM f_X12_223 rfl rfl dX12_seek_70 ?_
          refine lv_topi (fun xv39 exv39 => ?_)
          have mxv39 : xv39.toInt = (rI Ra 26).toInt := by rw [exv39]
          refine lv_if_lt (tgt := 85) hx hb dX12_seek_73 (by decide) (fun cv40 => ?_) (fun cv40 => ?_)
          · have tcv40 := ltT cv40
            refine lv_aload_n hx hb dX12_seek_85 rfl (lv_at hl 1 rfl) ?_
            refine lv_aload_n hx hb dX12_seek_86 rfl (lv_at hl 1 rfl) ?_
            refine rr_getI (k := 26) (v := xv39) C hM f_X12_223 rfl (exv39.symm) dX12_seek_87 ?_
            refine rr_putI (k := 27) (v := xv39) C hM f_X12_226 rfl (fun r h => by cases h; rfl) rfl dX12_seek_90 (fun H locs hM => ?_)
            have hM : mH D H0 (rM h0 (uI Ra 27 xv39)) kc ns H locs := hM
            have hF : fr [23, 24, 26, 27, 28, 29] R (uI Ra 27 xv39) := hF.I (by decide)
            refine lv_aload_n hx hb dX12_seek_93 rfl (lv_at hl 1 rfl) ?_
            refine lv_aload_n hx hb dX12_seek_94 rfl (lv_at hl 1 rfl) ?_
            refine rr_getI (k := 28) (v := rI Ra 28) C hM f_X12_229 rfl rfl dX12_seek_95 ?_
            refine lv_topi (fun xv41 exv41 => ?_)
            have mxv41 : xv41.toInt = (rI Ra 28).toInt := by rw [exv41]
            refine rr_putI (k := 29) (v := xv41) C hM f_X12_232 rfl (fun r h => by cases h; rfl) rfl dX12_seek_98 (fun H locs hM => ?_)
            have hM : mH D H0 (rM h0 (uI (uI Ra 27 xv39) 29 xv41)) kc ns H locs := hM
            have hF : fr [23, 24, 26, 27, 28, 29] R (uI (uI Ra 27 xv39) 29 xv41) := hF.I (by decide)
            refine lv_aload_n hx hb dX12_seek_101 rfl (lv_at hl 1 rfl) ?_
            refine lv_iload hx hb dX12_seek_102 (lv_at hl 5 rfl) ?_
            refine rr_putI (k := 26) (v := bz) C hM f_X12_223 rfl (fun r h => by cases h; rfl) rfl dX12_seek_104 (fun H locs hM => ?_)
            have hM : mH D H0 (rM h0 (uI (uI (uI Ra 27 xv39) 29 xv41) 26 bz)) kc ns H locs := hM
            have hF : fr [23, 24, 26, 27, 28, 29] R (uI (uI (uI Ra 27 xv39) 29 xv41) 26 bz) := hF.I (by decide)
            refine lv_aload_n hx hb dX12_seek_107 rfl (lv_at hl 1 rfl) ?_
            refine lv_iload hx hb dX12_seek_108 (lv_at hl 0 rfl) ?_
            refine rr_putI (k := 28) (v := xv37) C hM f_X12_229 rfl (fun r h => by cases h; rfl) rfl dX12_seek_110 (fun H locs hM => ?_)
            have hM : mH D H0 (rM h0 (uI (uI (uI (uI Ra 27 xv39) 29 xv41) 26 bz) 28 xv37)) kc ns H locs := hM
            have hF : fr [23, 24, 26, 27, 28, 29] R (uI (uI (uI (uI Ra 27 xv39) 29 xv41) 26 bz) 28 xv37) := hF.I (by decide)
            refine lv_goto (tgt := 144) hx hb dX12_seek_113 (by decide) ?_
            obtain ⟨xv42, exv42⟩ : ∃ y : Int32, y = bz + 1 := ⟨_, rfl⟩
            try (have txv42 := addI (a := bz) (b := 1) (by omega) (by omega); rw [← exv42] at txv42)
            refine lv_iinc (v := xv42) (lv' := [(4, .int xv42), (5, .int xv37), (0, .ref h0), (1, .int i0), (2, .int i1), (3, .int i2)]) hx hb dX12_seek_144 hl (k := 5) rfl (by rw [exv42]; rfl) (by decide) rfl (fun ls hl => ?_)
            refine lv_goto (tgt := 19) hx hb dX12_seek_147 (by decide) ?_
            have zv43 : (rI (uI (uI (uI (uI Ra 27 xv39) 29 xv41) 26 bz) 28 xv37) 26).toInt = bz.toInt := rfl
            exact ih19 xv42 (uI (uI (uI (uI Ra 27 xv39) 29 xv41) 26 bz) 28 xv37) _ _ _ (hF) (by omega) (by omega) (by omega) (lv_sub hl [2, 3, 4, 5, 0] rfl) hM
          · have tcv40 := ltF cv40
            refine lv_iload hx hb dX12_seek_76 (lv_at hl 0 rfl) ?_
            refine lv_aload_n hx hb dX12_seek_78 rfl (lv_at hl 1 rfl) ?_
            refine rr_getI (k := 28) (v := rI Ra 28) C hM f_X12_229 rfl rfl dX12_seek_79 ?_
            refine lv_topi (fun xv44 exv44 => ?_)
            have mxv44 : xv44.toInt = (rI Ra 28).toInt := by rw [exv44]
            refine lv_icmp_ge (tgt := 116) hx hb dX12_seek_82 (by decide) (fun cv45 => ?_) (fun cv45 => ?_)
            · have tcv45 := leT cv45
              refine lv_aload_n hx hb dX12_seek_116 rfl (lv_at hl 1 rfl) ?_
              refine rr_getI (k := 27) (v := rI Ra 27) C hM f_X12_226 rfl rfl dX12_seek_117 ?_
              refine lv_topi (fun xv46 exv46 => ?_)
              have mxv46 : xv46.toInt = (rI Ra 27).toInt := by rw [exv46]
              refine lv_if_lt (tgt := 132) hx hb dX12_seek_120 (by decide) (fun cv47 => ?_) (fun cv47 => ?_)
              · have tcv47 := ltT cv47
                refine lv_aload_n hx hb dX12_seek_132 rfl (lv_at hl 1 rfl) ?_
                refine lv_iload hx hb dX12_seek_133 (lv_at hl 5 rfl) ?_
                refine rr_putI (k := 27) (v := bz) C hM f_X12_226 rfl (fun r h => by cases h; rfl) rfl dX12_seek_135 (fun H locs hM => ?_)
                have hM : mH D H0 (rM h0 (uI Ra 27 bz)) kc ns H locs := hM
                have hF : fr [23, 24, 26, 27, 28, 29] R (uI Ra 27 bz) := hF.I (by decide)
                refine lv_aload_n hx hb dX12_seek_138 rfl (lv_at hl 1 rfl) ?_
                refine lv_iload hx hb dX12_seek_139 (lv_at hl 0 rfl) ?_
                refine rr_putI (k := 29) (v := xv37) C hM f_X12_232 rfl (fun r h => by cases h; rfl) rfl dX12_seek_141 (fun H locs hM => ?_)
                have hM : mH D H0 (rM h0 (uI (uI Ra 27 bz) 29 xv37)) kc ns H locs := hM
                have hF : fr [23, 24, 26, 27, 28, 29] R (uI (uI Ra 27 bz) 29 xv37) := hF.I (by decide)
                obtain ⟨xv48, exv48⟩ : ∃ y : Int32, y = bz + 1 := ⟨_, rfl⟩
                try (have txv48 := addI (a := bz) (b := 1) (by omega) (by omega); rw [← exv48] at txv48)
                refine lv_iinc (v := xv48) (lv' := [(4, .int xv48), (5, .int xv37), (0, .ref h0), (1, .int i0), (2, .int i1), (3, .int i2)]) hx hb dX12_seek_144 hl (k := 5) rfl (by rw [exv48]; rfl) (by decide) rfl (fun ls hl => ?_)
                refine lv_goto (tgt := 19) hx hb dX12_seek_147 (by decide) ?_
                have zv49 : (rI (uI (uI Ra 27 bz) 29 xv37) 26).toInt = (rI Ra 26).toInt := rfl
                exact ih19 xv48 (uI (uI Ra 27 bz) 29 xv37) _ _ _ (hF) (by omega) (by omega) (by omega) (lv_sub hl [2, 3, 4, 5, 0] rfl) hM
              · have tcv47 := ltF cv47
                refine lv_iload hx hb dX12_seek_123 (lv_at hl 0 rfl) ?_
                refine lv_aload_n hx hb dX12_seek_125 rfl (lv_at hl 1 rfl) ?_
                refine rr_getI (k := 29) (v := rI Ra 29) C hM f_X12_232 rfl rfl dX12_seek_126 ?_
                refine lv_topi (fun xv50 exv50 => ?_)
                have mxv50 : xv50.toInt = (rI Ra 29).toInt := by rw [exv50]
                refine lv_icmp_ge (tgt := 144) hx hb dX12_seek_129 (by decide) (fun cv51 => ?_) (fun cv51 => ?_)
                · have tcv51 := leT cv51
                  obtain ⟨xv52, exv52⟩ : ∃ y : Int32, y = bz + 1 := ⟨_, rfl⟩
                  try (have txv52 := addI (a := bz) (b := 1) (by omega) (by omega); rw [← exv52] at txv52)
                  refine lv_iinc (v := xv52) (lv' := [(4, .int xv52), (5, .int xv37), (0, .ref h0), (1, .int i0), (2, .int i1), (3, .int i2)]) hx hb dX12_seek_144 hl (k := 5) rfl (by rw [exv52]; rfl) (by decide) rfl (fun ls hl => ?_)
                  refine lv_goto (tgt := 19) hx hb dX12_seek_147 (by decide) ?_
                  exact ih19 xv52 Ra _ _ _ (hF) (by omega) (by omega) (by omega) (lv_sub hl [2, 3, 4, 5, 0] rfl) hM
                · have tcv51 := leF cv51
                  refine lv_aload_n hx hb dX12_seek_132 rfl (lv_at hl 1 rfl) ?_
                  refine lv_iload hx hb dX12_seek_133 (lv_at hl 5 rfl) ?_
                  refine rr_putI (k := 27) (v := bz) C hM f_X12_226 rfl (fun r h => by cases h; rfl) rfl dX12_seek_135 (fun H locs hM => ?_)
                  have hM : mH D H0 (rM h0 (uI Ra 27 bz)) kc ns H locs := hM
                  have hF : fr [23, 24, 26, 27, 28, 29] R (uI Ra 27 bz) := hF.I (by decide)
                  refine lv_aload_n hx hb dX12_seek_138 rfl (lv_at hl 1 rfl) ?_
                  refine lv_iload hx hb dX12_seek_139 (lv_at hl 0 rfl) ?_
                  refine rr_putI (k := 29) (v := xv37) C hM f_X12_232 rfl (fun r h => by cases h; rfl) rfl dX12_seek_141 (fun H locs hM => ?_)
                  have hM : mH D H0 (rM h0 (uI (uI Ra 27 bz) 29 xv37)) kc ns H locs := hM
                  have hF : fr [23, 24, 26, 27, 28, 29] R (uI (uI Ra 27 bz) 29 xv37) := hF.I (by decide)
                  obtain ⟨xv53, exv53⟩ : ∃ y : Int32, y = bz + 1 := ⟨_, rfl⟩
                  try (have txv53 := addI (a := bz) (b := 1) (by omega) (by omega); rw [← exv53] at txv53)
                  refine lv_iinc (v := xv53) (lv' := [(4, .int xv53), (5, .int xv37), (0, .ref h0), (1, .int i0), (2, .int i1), (3, .int i2)]) hx hb dX12_seek_144 hl (k := 5) rfl (by rw [exv53]; rfl) (by decide) rfl (fun ls hl => ?_)
                  refine lv_goto (tgt := 19) hx hb dX12_seek_147 (by decide) ?_
                  have zv54 : (rI (uI (uI Ra 27 bz) 29 xv37) 26).toInt = (rI Ra 26).toInt := rfl
                  exact ih19 xv53 (uI (uI Ra 27 bz) 29 xv37) _ _ _ (hF) (by omega) (by omega) (by omega) (lv_sub hl [2, 3, 4, 5, 0] rfl) hM
            · have tcv45 := leF cv45
              refine lv_aload_n hx hb dX12_seek_85 rfl (lv_at hl 1 rfl) ?_
              refine lv_aload_n hx hb dX12_seek_86 rfl (lv_at hl 1 rfl) ?_
              refine rr_getI (k := 26) (v := xv39) C hM f_X12_223 rfl (exv39.symm) dX12_seek_87 ?_
              refine rr_putI (k := 27) (v := xv39) C hM f_X12_226 rfl (fun r h => by cases h; rfl) rfl dX12_seek_90 (fun H locs hM => ?_)
              have hM : mH D H0 (rM h0 (uI Ra 27 xv39)) kc ns H locs := hM
              have hF : fr [23, 24, 26, 27, 28, 29] R (uI Ra 27 xv39) := hF.I (by decide)
              refine lv_aload_n hx hb dX12_seek_93 rfl (lv_at hl 1 rfl) ?_
              refine lv_aload_n hx hb dX12_seek_94 rfl (lv_at hl 1 rfl) ?_
              refine rr_getI (k := 28) (v := xv44) C hM f_X12_229 rfl (exv44.symm) dX12_seek_95 ?_
              refine rr_putI (k := 29) (v := xv44) C hM f_X12_232 rfl (fun r h => by cases h; rfl) rfl dX12_seek_98 (fun H locs hM => ?_)
              have hM : mH D H0 (rM h0 (uI (uI Ra 27 xv39) 29 xv44)) kc ns H locs := hM
              have hF : fr [23, 24, 26, 27, 28, 29] R (uI (uI Ra 27 xv39) 29 xv44) := hF.I (by decide)
              refine lv_aload_n hx hb dX12_seek_101 rfl (lv_at hl 1 rfl) ?_
              refine lv_iload hx hb dX12_seek_102 (lv_at hl 5 rfl) ?_
              refine rr_putI (k := 26) (v := bz) C hM f_X12_223 rfl (fun r h => by cases h; rfl) rfl dX12_seek_104 (fun H locs hM => ?_)
              have hM : mH D H0 (rM h0 (uI (uI (uI Ra 27 xv39) 29 xv44) 26 bz)) kc ns H locs := hM
              have hF : fr [23, 24, 26, 27, 28, 29] R (uI (uI (uI Ra 27 xv39) 29 xv44) 26 bz) := hF.I (by decide)
              refine lv_aload_n hx hb dX12_seek_107 rfl (lv_at hl 1 rfl) ?_
              refine lv_iload hx hb dX12_seek_108 (lv_at hl 0 rfl) ?_
              refine rr_putI (k := 28) (v := xv37) C hM f_X12_229 rfl (fun r h => by cases h; rfl) rfl dX12_seek_110 (fun H locs hM => ?_)
              have hM : mH D H0 (rM h0 (uI (uI (uI (uI Ra 27 xv39) 29 xv44) 26 bz) 28 xv37)) kc ns H locs := hM
              have hF : fr [23, 24, 26, 27, 28, 29] R (uI (uI (uI (uI Ra 27 xv39) 29 xv44) 26 bz) 28 xv37) := hF.I (by decide)
              refine lv_goto (tgt := 144) hx hb dX12_seek_113 (by decide) ?_
              obtain ⟨xv55, exv55⟩ : ∃ y : Int32, y = bz + 1 := ⟨_, rfl⟩
              try (have txv55 := addI (a := bz) (b := 1) (by omega) (by omega); rw [← exv55] at txv55)
              refine lv_iinc (v := xv55) (lv' := [(4, .int xv55), (5, .int xv37), (0, .ref h0), (1, .int i0), (2, .int i1), (3, .int i2)]) hx hb dX12_seek_144 hl (k := 5) rfl (by rw [exv55]; rfl) (by decide) rfl (fun ls hl => ?_)
              refine lv_goto (tgt := 19) hx hb dX12_seek_147 (by decide) ?_
              have zv56 : (rI (uI (uI (uI (uI Ra 27 xv39) 29 xv44) 26 bz) 28 xv37) 26).toInt = bz.toInt := rfl
              exact ih19 xv55 (uI (uI (uI (uI Ra 27 xv39) 29 xv44) 26 bz) 28 xv37) _ _ _ (hF) (by omega) (by omega) (by omega) (lv_sub hl [2, 3, 4, 5, 0] rfl) hM
        · have tcv33 := eqF cv33
          refine lv_goto (tgt := 144) hx hb dX12_seek_55 (by decide) ?_
          obtain ⟨xv57, exv57⟩ : ∃ y : Int32, y = bz + 1 := ⟨_, rfl⟩
          try (have txv57 := addI (a := bz) (b := 1) (by omega) (by omega); rw [← exv57] at txv57)
          refine lv_iinc (v := xv57) (lv' := [(4, .int xv57), (0, .ref h0), (1, .int i0), (2, .int i1), (3, .int i2)]) hx hb dX12_seek_144 hl (k := 4) rfl (by rw [exv57]; rfl) (by decide) rfl (fun ls hl => ?_)
          refine lv_goto (tgt := 19) hx hb dX12_seek_147 (by decide) ?_
          exact ih19 xv57 Ra _ _ _ (hF) (by omega) (by omega) (by omega) (lv_sub hl [1, 2, 3, 4, 0] rfl) hM
  have zv58 : (rI (uI (uI Rv6 26 (-1 : Int32)) 27 (-1 : Int32)) 26).toInt = (-1 : Int32).toInt := rfl
  exact loop19 (((60 - (0 : Int32).toInt).toNat) + 1) 0 (uI (uI Rv6 26 (-1 : Int32)) 27 (-1 : Int32)) _ _ _ (hF) (by omega) (by omega) (by omega) (lv_sub hl [1, 2, 3, 4, 0] rfl) hM
set_option maxHeartbeats 4000000 in
set_option maxRecDepth 100000 in
theorem c_X12_find (l : Launch) (D : gD) (H0 : gB) (h0 : Nat) (R : RS) (kc ns : Nat) (i0 i1 i2 : Int32) (hI : RI R)  : Met l yX12_find (wsU yX12_find cX12_find 5 (some .int)) ({ frames := 5, cells := 0, slots := 0, locals := 126 } : Room) (mP D H0 (rM h0 R) kc ns [.ref h0, .int i0, .int i1, .int i2]) (mQ D H0 gI (fun r S1 k1 n1 => kc = k1 ∧ ns = n1 ∧ ∃ R1, S1 = rM h0 R1 ∧ fr [23, 24, 26, 27, 28, 29, 30, 31, 32, 33, 34] R R1 ∧ True)) 0 0 (mF H0) := by
  refine r_met (own := RX12) (by decide +kernel) rfl (Nat.le_of_ble_eq_true rfl) ?_
  intro p e s m args below meth c C hr hlk hnm H ls hl hM
  obtain ⟨hx, hb, hml, hown, hts, -, -⟩ := id C
  have hl : lv_has ls 5 [(0, .ref h0), (1, .int i0), (2, .int i1), (3, .int i2)] := hl
  have hF : fr [23, 24, 26, 27, 28, 29, 30, 31, 32, 33, 34] R R := fr.rf
  have hI0 := hI
  have t_m1 : (-1 : Int32).toInt = -1 := by decide
  have t_0 : (0 : Int32).toInt = 0 := by decide
  have t_1 : (1 : Int32).toInt = 1 := by decide
  have fm0 := RI.many hI i0.toNatClampNeg
  have fm2 := RI.many hI i2.toNatClampNeg
  refine lv_aload_n hx hb dX12_find_0 rfl (lv_at hl 0 rfl) ?_
  refine lv_iload_n hx hb dX12_find_1 rfl (lv_at hl 1 rfl) ?_
  refine lv_iload_n hx hb dX12_find_2 rfl (lv_at hl 2 rfl) ?_
  refine r_V (As := [.int i0, .int i1]) (rest := []) (ci := 12) C hM (c_X12_isPart l D H0 h0 R kc ns i0 i1 (hI0.fr hF (by decide))) i_X12_isPart m_X12_185 rK0 rfl rfl rfl hl.1 rfl (Nat.le_of_ble_eq_true rfl) ⟨by decide, by decide⟩ ⟨by decide, by decide⟩ dX12_find_3 (fun xv4 Sv1 kv2 nv3 H locs pv5 hM => ?_)
  obtain ⟨rfl, rfl, rfl, hxv4⟩ := pv5
  refine W.eq (g2 := F0 m 6 ls [.int xv4]) rfl ?_
  refine lv_if_eq (tgt := 17) hx hb dX12_find_6 (by decide) (fun cv6 => ?_) (fun cv6 => ?_)
  · have tcv6 := eqT cv6
    refine lv_iconst (v := -1) hx hb dX12_find_17 (by decide) ?_
    exact r_retI C hr hlk hM (⟨rfl, rfl, _, rfl, hF, trivial⟩) dX12_find_18
  · have tcv6 := eqF cv6
    refine lv_aload_n hx hb dX12_find_9 rfl (lv_at hl 0 rfl) ?_
    refine lv_iload_n hx hb dX12_find_10 rfl (lv_at hl 3 rfl) ?_
    refine r_V (As := [.int i2]) (rest := []) (ci := 12) C hM (c_X12_hasPage l D H0 h0 R kc ns i2 (hI0.fr hF (by decide))) i_X12_hasPage m_X12_235 rK0 rfl rfl rfl hl.1 rfl (Nat.le_of_ble_eq_true rfl) ⟨by decide, by decide⟩ ⟨by decide, by decide⟩ dX12_find_11 (fun xv10 Sv7 kv8 nv9 H locs pv11 hM => ?_)
    obtain ⟨rfl, rfl, rfl, hxv10⟩ := pv11
    refine W.eq (g2 := F0 m 14 ls [.int xv10]) rfl ?_
    refine lv_if_ne (tgt := 19) hx hb dX12_find_14 (by decide) (fun cv12 => ?_) (fun cv12 => ?_)
    · have tcv12 := eqF cv12
      refine lv_aload_n hx hb dX12_find_19 rfl (lv_at hl 0 rfl) ?_
      refine lv_iload_n hx hb dX12_find_20 rfl (lv_at hl 1 rfl) ?_
      refine lv_iload_n hx hb dX12_find_21 rfl (lv_at hl 2 rfl) ?_
      refine lv_iload_n hx hb dX12_find_22 rfl (lv_at hl 3 rfl) ?_
      refine r_V (As := [.int i0, .int i1, .int i2]) (rest := []) (ci := 12) C hM (c_X12_seek l D H0 h0 R kc ns i0 i1 i2 (hI0.fr hF (by decide)) (by omega) (by omega) (by omega) (by rw [hF.gA 10 (by decide)]; omega) (by omega) (by omega)) i_X12_seek m_X12_238 rK0 rfl rfl rfl hl.1 rfl (Nat.le_of_ble_eq_true rfl) ⟨by decide, by decide⟩ ⟨by decide, by decide⟩ dX12_find_23 (fun xv16 Sv13 kv14 nv15 H locs pv17 hM => ?_)
      obtain ⟨rfl, rfl, Rv18, rfl, hf9, hxv16⟩ := pv17
      have hF : fr [23, 24, 26, 27, 28, 29, 30, 31, 32, 33, 34] R Rv18 := hF.trans hf9 (by decide)
      refine W.eq (g2 := F0 m 26 ls [.int xv16]) rfl ?_
      refine lv_istore (lv' := [(4, .int xv16), (0, .ref h0), (1, .int i0), (2, .int i1), (3, .int i2)]) hx hb dX12_find_26 hl (by decide) rfl (fun ls hl => ?_)
      refine lv_iload hx hb dX12_find_28 (lv_at hl 0 rfl) ?_
      refine lv_if_ge (tgt := 36) hx hb dX12_find_30 (by decide) (fun cv19 => ?_) (fun cv19 => ?_)
      · have tcv19 := leT cv19
        refine lv_aload_n hx hb dX12_find_36 rfl (lv_at hl 1 rfl) ?_
        refine lv_iconst (v := 1) hx hb dX12_find_37 (by decide) ?_
        refine rr_putZ (k := 30) (v := (1 : Int32)) C hM f_X12_242 rfl (fun r h => by cases h; rfl) (by decide) rfl dX12_find_38 (fun H locs hM => ?_)
        have hM : mH D H0 (rM h0 (uI Rv18 30 (1 : Int32))) kc ns H locs := hM
        have hF : fr [23, 24, 26, 27, 28, 29, 30, 31, 32, 33, 34] R (uI Rv18 30 (1 : Int32)) := hF.I (by decide)
        refine lv_aload_n hx hb dX12_find_41 rfl (lv_at hl 1 rfl) ?_
        refine lv_aload_n hx hb dX12_find_42 rfl (lv_at hl 1 rfl) ?_
        refine rr_getI (k := 26) (v := rI Rv18 26) C hM f_X12_223 rfl rfl dX12_find_43 ?_
        refine lv_topi (fun xv20 exv20 => ?_)
        have mxv20 : xv20.toInt = (rI Rv18 26).toInt := by rw [exv20]
        refine rr_putI (k := 31) (v := xv20) C hM f_X12_246 rfl (fun r h => by cases h; rfl) rfl dX12_find_46 (fun H locs hM => ?_)
        have hM : mH D H0 (rM h0 (uI (uI Rv18 30 (1 : Int32)) 31 xv20)) kc ns H locs := hM
        have hF : fr [23, 24, 26, 27, 28, 29, 30, 31, 32, 33, 34] R (uI (uI Rv18 30 (1 : Int32)) 31 xv20) := hF.I (by decide)
        refine lv_aload_n hx hb dX12_find_49 rfl (lv_at hl 1 rfl) ?_
        refine lv_aload_n hx hb dX12_find_50 rfl (lv_at hl 1 rfl) ?_
        refine rr_getI (k := 27) (v := rI Rv18 27) C hM f_X12_226 rfl rfl dX12_find_51 ?_
        refine lv_topi (fun xv21 exv21 => ?_)
        have mxv21 : xv21.toInt = (rI Rv18 27).toInt := by rw [exv21]
        refine rr_putI (k := 32) (v := xv21) C hM f_X12_249 rfl (fun r h => by cases h; rfl) rfl dX12_find_54 (fun H locs hM => ?_)
        have hM : mH D H0 (rM h0 (uI (uI (uI Rv18 30 (1 : Int32)) 31 xv20) 32 xv21)) kc ns H locs := hM
        have hF : fr [23, 24, 26, 27, 28, 29, 30, 31, 32, 33, 34] R (uI (uI (uI Rv18 30 (1 : Int32)) 31 xv20) 32 xv21) := hF.I (by decide)
        refine lv_aload_n hx hb dX12_find_57 rfl (lv_at hl 1 rfl) ?_
        refine lv_aload_n hx hb dX12_find_58 rfl (lv_at hl 1 rfl) ?_
        refine rr_getI (k := 28) (v := rI Rv18 28) C hM f_X12_229 rfl rfl dX12_find_59 ?_
        refine lv_topi (fun xv22 exv22 => ?_)
        have mxv22 : xv22.toInt = (rI Rv18 28).toInt := by rw [exv22]
        refine rr_putI (k := 33) (v := xv22) C hM f_X12_252 rfl (fun r h => by cases h; rfl) rfl dX12_find_62 (fun H locs hM => ?_)
        have hM : mH D H0 (rM h0 (uI (uI (uI (uI Rv18 30 (1 : Int32)) 31 xv20) 32 xv21) 33 xv22)) kc ns H locs := hM
        have hF : fr [23, 24, 26, 27, 28, 29, 30, 31, 32, 33, 34] R (uI (uI (uI (uI Rv18 30 (1 : Int32)) 31 xv20) 32 xv21) 33 xv22) := hF.I (by decide)
        refine lv_aload_n hx hb dX12_find_65 rfl (lv_at hl 1 rfl) ?_
        refine lv_aload_n hx hb dX12_find_66 rfl (lv_at hl 1 rfl) ?_
        refine rr_getI (k := 27) (v := xv21) C hM f_X12_226 rfl (exv21.symm) dX12_find_67 ?_
        refine lv_if_ge (tgt := 77) hx hb dX12_find_70 (by decide) (fun cv23 => ?_) (fun cv23 => ?_)
        · have tcv23 := leT cv23
          refine lv_aload_n hx hb dX12_find_77 rfl (lv_at hl 1 rfl) ?_
          refine rr_getI (k := 29) (v := rI Rv18 29) C hM f_X12_232 rfl rfl dX12_find_78 ?_
          refine lv_topi (fun xv24 exv24 => ?_)
          have mxv24 : xv24.toInt = (rI Rv18 29).toInt := by rw [exv24]
          refine rr_putI (k := 34) (v := xv24) C hM f_X12_255 rfl (fun r h => by cases h; rfl) rfl dX12_find_81 (fun H locs hM => ?_)
          have hM : mH D H0 (rM h0 (uI (uI (uI (uI (uI Rv18 30 (1 : Int32)) 31 xv20) 32 xv21) 33 xv22) 34 xv24)) kc ns H locs := hM
          have hF : fr [23, 24, 26, 27, 28, 29, 30, 31, 32, 33, 34] R (uI (uI (uI (uI (uI Rv18 30 (1 : Int32)) 31 xv20) 32 xv21) 33 xv22) 34 xv24) := hF.I (by decide)
          refine lv_iload hx hb dX12_find_84 (lv_at hl 0 rfl) ?_
          exact r_retI C hr hlk hM (⟨rfl, rfl, _, rfl, hF, trivial⟩) dX12_find_86
        · have tcv23 := leF cv23
          refine lv_iconst (v := -1) hx hb dX12_find_73 (by decide) ?_
          refine lv_goto (tgt := 81) hx hb dX12_find_74 (by decide) ?_
          refine rr_putI (k := 34) (v := (-1 : Int32)) C hM f_X12_255 rfl (fun r h => by cases h; rfl) rfl dX12_find_81 (fun H locs hM => ?_)
          have hM : mH D H0 (rM h0 (uI (uI (uI (uI (uI Rv18 30 (1 : Int32)) 31 xv20) 32 xv21) 33 xv22) 34 (-1 : Int32))) kc ns H locs := hM
          have hF : fr [23, 24, 26, 27, 28, 29, 30, 31, 32, 33, 34] R (uI (uI (uI (uI (uI Rv18 30 (1 : Int32)) 31 xv20) 32 xv21) 33 xv22) 34 (-1 : Int32)) := hF.I (by decide)
          refine lv_iload hx hb dX12_find_84 (lv_at hl 0 rfl) ?_
          exact r_retI C hr hlk hM (⟨rfl, rfl, _, rfl, hF, trivial⟩) dX12_find_86
      · have tcv19 := leF cv19
        refine lv_iload hx hb dX12_find_33 (lv_at hl 0 rfl) ?_
        exact r_retI C hr hlk hM (⟨rfl, rfl, _, rfl, hF, trivial⟩) dX12_find_35
    · have tcv12 := eqT cv12
      refine lv_iconst (v := -1) hx hb dX12_find_17 (by decide) ?_
      exact r_retI C hr hlk hM (⟨rfl, rfl, _, rfl, hF, trivial⟩) dX12_find_18
