set_option maxHeartbeats 4000000 in
set_option maxRecDepth 100000 in
theorem c_X12_readPage (l : Launch) (D : gD) (H0 : gB) (h0 : Nat) (R : RS) (kc ns : Nat) (hI : RI R)  : Met l yX12_readPage (wsU yX12_readPage cX12_readPage 2 none) ({ frames := 3, cells := 0, slots := 0, locals := 66 } : Room) (mP D H0 (rM h0 R) kc ns [.ref h0]) (mQ D H0 gV (fun r S1 k1 n1 => kc = k1 ∧ ns = n1 ∧ ∃ R1, S1 = rM h0 R1 ∧ fr [4, 5, 6, 7, 8, 9, 10, 11, 14, 15, 16, 17, 18, 19, 20, 21, 22] R R1 ∧ RI R1 ∧ RR R1)) 0 0 (mF H0) := by
  refine r_met (own := RX12) (by decide +kernel) rfl (Nat.le_of_ble_eq_true rfl) ?_
  intro p e s m args below meth c C hr hlk hnm H ls hl hM
  obtain ⟨hx, hb, hml, hown, hts, -, -⟩ := id C
  have hl : lv_has ls 2 [(0, .ref h0)] := hl
  have hF : fr [4, 5, 6, 7, 8, 9, 10, 11, 14, 15, 16, 17, 18, 19, 20, 21, 22] R R := fr.rf
  have hI0 := hI
  have t_0 : (0 : Int32).toInt = 0 := by decide
  have t_1 : (1 : Int32).toInt = 1 := by decide
  have t_30 : (30 : Int32).toInt = 30 := by decide
  have t_40 : (40 : Int32).toInt = 40 := by decide
  have t_41 : (41 : Int32).toInt = 41 := by decide
  have fz := RI.size hI
  refine lv_aload_n hx hb dX12_readPage_0 rfl (lv_at hl 0 rfl) ?_
  refine rr_getA (k := 10) (j := 2) C hM f_X12_20 rfl rfl dX12_readPage_1 ?_
  refine lv_bipush (v := 30) hx hb dX12_readPage_4 (by decide) ?_
  refine lv_iconst (v := 0) hx hb dX12_readPage_6 (by decide) ?_
  refine rr_stI (j := 2) (k := 10) (n := 31) (i := (30 : Int32)) (x := (0 : Int32)) C hM rfl rfl rfl (inI (by omega) (by show _ < (31 : Int); omega)) dX12_readPage_7 (fun H locs hM => ?_)
  have hM : mH D H0 (rM h0 (uA R 10 30 (0 : Int32))) kc ns H locs := hM
  have hF : fr [4, 5, 6, 7, 8, 9, 10, 11, 14, 15, 16, 17, 18, 19, 20, 21, 22] R (uA R 10 30 (0 : Int32)) := hF.A (by decide)
  have hI : RI (uA R 10 30 (0 : Int32)) := hI.st10 (by decide)
  refine lv_aload_n hx hb dX12_readPage_8 rfl (lv_at hl 0 rfl) ?_
  refine lv_iconst (v := 0) hx hb dX12_readPage_9 (by decide) ?_
  refine rr_putI (k := 22) (v := (0 : Int32)) C hM f_X12_141 rfl (fun r h => by cases h; rfl) rfl dX12_readPage_10 (fun H locs hM => ?_)
  have hM : mH D H0 (rM h0 (uI (uA R 10 30 (0 : Int32)) 22 (0 : Int32))) kc ns H locs := hM
  have hF : fr [4, 5, 6, 7, 8, 9, 10, 11, 14, 15, 16, 17, 18, 19, 20, 21, 22] R (uI (uA R 10 30 (0 : Int32)) 22 (0 : Int32)) := hF.I (by decide)
  have hI : RI (uI (uA R 10 30 (0 : Int32)) 22 (0 : Int32)) := hI.fr (L := [22]) (fr.rf.I (by decide)) (by decide)
  have hR : RR (uI (uA R 10 30 (0 : Int32)) 22 (0 : Int32)) := RR.zero
  refine lv_aload_n hx hb dX12_readPage_13 rfl (lv_at hl 0 rfl) ?_
  refine lv_iconst (v := 0) hx hb dX12_readPage_14 (by decide) ?_
  refine rr_putI (k := 7) (v := (0 : Int32)) C hM f_X12_116 rfl (fun r h => by cases h; rfl) rfl dX12_readPage_15 (fun H locs hM => ?_)
  have hM : mH D H0 (rM h0 (uI (uI (uA R 10 30 (0 : Int32)) 22 (0 : Int32)) 7 (0 : Int32))) kc ns H locs := hM
  have hF : fr [4, 5, 6, 7, 8, 9, 10, 11, 14, 15, 16, 17, 18, 19, 20, 21, 22] R (uI (uI (uA R 10 30 (0 : Int32)) 22 (0 : Int32)) 7 (0 : Int32)) := hF.I (by decide)
  have hI : RI (uI (uI (uA R 10 30 (0 : Int32)) 22 (0 : Int32)) 7 (0 : Int32)) := hI.fr (L := [7]) (fr.rf.I (by decide)) (by decide)
  have hR : RR (uI (uI (uA R 10 30 (0 : Int32)) 22 (0 : Int32)) 7 (0 : Int32)) := hR.fr (L := [7]) (fr.rf.I (by decide)) (by decide)
  refine lv_aload_n hx hb dX12_readPage_18 rfl (lv_at hl 0 rfl) ?_
  have zv1 : (rI (uI (uI (uA R 10 30 (0 : Int32)) 22 (0 : Int32)) 7 (0 : Int32)) 3).toInt = (rI R 3).toInt := by rw [hF.gI 3 (by decide)]
  have zv2 : (rI (uI (uI (uA R 10 30 (0 : Int32)) 22 (0 : Int32)) 7 (0 : Int32)) 4).toInt = (rI R 4).toInt := rfl
  have zv3 : (rI (uI (uI (uA R 10 30 (0 : Int32)) 22 (0 : Int32)) 7 (0 : Int32)) 6).toInt = (rI R 6).toInt := rfl
  have zv4 : (rI (uI (uI (uA R 10 30 (0 : Int32)) 22 (0 : Int32)) 7 (0 : Int32)) 7).toInt = (0 : Int32).toInt := rfl
  have zv5 : (rI (uI (uI (uA R 10 30 (0 : Int32)) 22 (0 : Int32)) 7 (0 : Int32)) 8).toInt = (rI R 8).toInt := rfl
  have zv6 : (rI (uI (uI (uA R 10 30 (0 : Int32)) 22 (0 : Int32)) 7 (0 : Int32)) 22).toInt = (0 : Int32).toInt := rfl
  refine r_V (As := []) (rest := []) (ci := 12) C hM (c_X12_next l D H0 h0 (uI (uI (uA R 10 30 (0 : Int32)) 22 (0 : Int32)) 7 (0 : Int32)) kc ns hI (by omega) (by omega)) i_X12_next m_X12_155 rK0 rfl rfl rfl hl.1 rfl (Nat.le_of_ble_eq_true rfl) ⟨by decide, by decide⟩ ⟨by decide, by decide⟩ dX12_readPage_19 (fun uv11 Sv8 kv9 nv10 H locs pv12 hM => ?_)
  obtain ⟨rfl, rfl, Rv13, rfl, hf9, huv11⟩ := pv12
  have hF : fr [4, 5, 6, 7, 8, 9, 10, 11, 14, 15, 16, 17, 18, 19, 20, 21, 22] R Rv13 := hF.trans hf9 (by decide)
  have hI : RI Rv13 := hI.fr hf9 (by decide)
  have zv14 : (rI Rv13 3).toInt = (rI (uI (uI (uA R 10 30 (0 : Int32)) 22 (0 : Int32)) 7 (0 : Int32)) 3).toInt := by rw [hf9.gI 3 (by decide)]
  have zv15 : (rI Rv13 4).toInt = (rI (uI (uI (uA R 10 30 (0 : Int32)) 22 (0 : Int32)) 7 (0 : Int32)) 4).toInt := by rw [hf9.gI 4 (by decide)]
  have zv16 : (rI Rv13 22).toInt = (rI (uI (uI (uA R 10 30 (0 : Int32)) 22 (0 : Int32)) 7 (0 : Int32)) 22).toInt := by rw [hf9.gI 22 (by decide)]
  have zv17 : (rA Rv13 10 30).toInt = (rA (uI (uI (uA R 10 30 (0 : Int32)) 22 (0 : Int32)) 7 (0 : Int32)) 10 30).toInt := by rw [hf9.gA 10 (by decide)]
  have vv18 : rI Rv13 22 = (0 : Int32) := (hf9.gI 22 (by decide)).trans (rfl)
  have hR : RR Rv13 := hR.fr hf9 (by decide)
  refine W.eq (g2 := F0 m 22 ls []) rfl ?_
  refine lv_aload_n hx hb dX12_readPage_22 rfl (lv_at hl 0 rfl) ?_
  have zv19 : (rI Rv13 3).toInt = (rI R 3).toInt := by rw [hF.gI 3 (by decide)]
  refine r_V (As := []) (rest := []) (ci := 12) C hM (c_X12_readPart l D H0 h0 Rv13 kc ns hI hR (by omega) (by omega) (by omega)) i_X12_readPart m_X12_161 rK0 rfl rfl rfl hl.1 rfl (Nat.le_of_ble_eq_true rfl) ⟨by decide, by decide⟩ ⟨by decide, by decide⟩ dX12_readPage_23 (fun uv24 Sv21 kv22 nv23 H locs pv25 hM => ?_)
  obtain ⟨rfl, rfl, Rv26, rfl, hf9, ⟨hI, hR, hquv24, hvuv24⟩⟩ := pv25
  have hF : fr [4, 5, 6, 7, 8, 9, 10, 11, 14, 15, 16, 17, 18, 19, 20, 21, 22] R Rv26 := hF.trans hf9 (by decide)
  have zv27 : (rI Rv26 3).toInt = (rI Rv13 3).toInt := by rw [hf9.gI 3 (by decide)]
  refine W.eq (g2 := F0 m 26 ls []) rfl ?_
  have zv28 : (rI Rv26 3).toInt = (rI R 3).toInt := by rw [hF.gI 3 (by decide)]
  have loop26 : ∀ (fu : Nat) (Ra : RS) (H : Heap) (locs : List Loc) (ls : Array Slot), (fr [4, 5, 6, 7, 8, 9, 10, 11, 14, 15, 16, 17, 18, 19, 20, 21, 22] R Ra) → (RI Ra) → (RR Ra) → (0 ≤ (rI Ra 6).toInt ∧ 0 ≤ (rI Ra 7).toInt ∧ (rI Ra 7).toInt ≤ 1601) → mz Ra < fu → lv_has ls 2 [(0, .ref h0)] → mH D H0 (rM h0 Ra) kc ns H locs → W p l e ({ frames := 3, cells := 0, slots := 0, locals := 66 } : Room) s m args below meth c H locs 0 0 (MQ below (mQ D H0 gV (fun r S1 k1 n1 => kc = k1 ∧ ns = n1 ∧ ∃ R1, S1 = rM h0 R1 ∧ fr [4, 5, 6, 7, 8, 9, 10, 11, 14, 15, 16, 17, 18, 19, 20, 21, 22] R R1 ∧ RI R1 ∧ RR R1)) args s 0 0 (mF H0)) (F0 m 26 ls []) := by
    intro fu
    induction fu with
    | zero => intro Ra H locs ls h26_0 h26_1 h26_2 h26_3 hfu; exact absurd hfu (by omega)
    | succ fu ih26 =>
      intro Ra H locs ls h26_0 h26_1 h26_2 h26_3 hfu hl hM
      have hF := h26_0
      have hI := h26_1
      have hR := h26_2
      have fR := hR.1
      have fm := RI.many hI 30
      have mz26 := mzA Ra
      refine lv_aload_n hx hb dX12_readPage_26 rfl (lv_at hl 0 rfl) ?_
      have zv30 : (rI Ra 3).toInt = (rI R 3).toInt := by rw [hF.gI 3 (by decide)]
      refine r_V (As := []) (rest := []) (ci := 12) C hM (c_X12_isGood l D H0 h0 Ra kc ns ) i_X12_isGood m_X12_147 rK0 rfl rfl rfl hl.1 rfl (Nat.le_of_ble_eq_true rfl) ⟨by decide, by decide⟩ ⟨by decide, by decide⟩ dX12_readPage_27 (fun xv35 Sv32 kv33 nv34 H locs pv36 hM => ?_)
      obtain ⟨rfl, rfl, rfl, hxv35⟩ := pv36
      refine W.eq (g2 := F0 m 30 ls [.int xv35]) rfl ?_
      refine lv_if_eq (tgt := 137) hx hb dX12_readPage_30 (by decide) (fun cv37 => ?_) (fun cv37 => ?_)
      · have tcv37 := eqT cv37
        refine lv_aload_n hx hb dX12_readPage_137 rfl (lv_at hl 0 rfl) ?_
        have zv38 : (rI Ra 3).toInt = (rI R 3).toInt := by rw [hF.gI 3 (by decide)]
        refine r_V (As := []) (rest := []) (ci := 12) C hM (c_X12_isGood l D H0 h0 Ra kc ns ) i_X12_isGood m_X12_147 rK0 rfl rfl rfl hl.1 rfl (Nat.le_of_ble_eq_true rfl) ⟨by decide, by decide⟩ ⟨by decide, by decide⟩ dX12_readPage_138 (fun xv43 Sv40 kv41 nv42 H locs pv44 hM => ?_)
        obtain ⟨rfl, rfl, rfl, hxv43⟩ := pv44
        refine W.eq (g2 := F0 m 141 ls [.int xv43]) rfl ?_
        refine lv_if_eq (tgt := 155) hx hb dX12_readPage_141 (by decide) (fun cv45 => ?_) (fun cv45 => ?_)
        · have tcv45 := eqT cv45
          have zv46 : (rI Ra 3).toInt = (rI R 3).toInt := by rw [hF.gI 3 (by decide)]
          exact r_retV C hr hlk hM (⟨rfl, rfl, _, rfl, hF, hI, hR⟩) dX12_readPage_155
        · have tcv45 := eqF cv45
          refine lv_aload_n hx hb dX12_readPage_144 rfl (lv_at hl 0 rfl) ?_
          refine rr_getI (k := 8) (v := rI Ra 8) C hM f_X12_126 rfl rfl dX12_readPage_145 ?_
          refine lv_topi (fun xv48 exv48 => ?_)
          have mxv48 : xv48.toInt = (rI Ra 8).toInt := by rw [exv48]
          refine lv_if_eq (tgt := 155) hx hb dX12_readPage_148 (by decide) (fun cv49 => ?_) (fun cv49 => ?_)
          · have tcv49 := eqT cv49
            have zv50 : (rI Ra 3).toInt = (rI R 3).toInt := by rw [hF.gI 3 (by decide)]
            exact r_retV C hr hlk hM (⟨rfl, rfl, _, rfl, hF, hI, hR⟩) dX12_readPage_155
          · have tcv49 := eqF cv49
            refine lv_aload_n hx hb dX12_readPage_151 rfl (lv_at hl 0 rfl) ?_
            have zv52 : (rI Ra 3).toInt = (rI R 3).toInt := by rw [hF.gI 3 (by decide)]
            refine r_V (As := []) (rest := []) (ci := 12) C hM (c_X12_wrong l D H0 h0 Ra kc ns ) i_X12_wrong m_X12_144 rK0 rfl rfl rfl hl.1 rfl (Nat.le_of_ble_eq_true rfl) ⟨by decide, by decide⟩ ⟨by decide, by decide⟩ dX12_readPage_152 (fun uv57 Sv54 kv55 nv56 H locs pv58 hM => ?_)
            obtain ⟨rfl, rfl, Rv59, rfl, hf9, huv57⟩ := pv58
            have hF : fr [4, 5, 6, 7, 8, 9, 10, 11, 14, 15, 16, 17, 18, 19, 20, 21, 22] R Rv59 := hF.trans hf9 (by decide)
            have hI : RI Rv59 := hI.fr hf9 (by decide)
            have zv60 : (rI Rv59 3).toInt = (rI Ra 3).toInt := by rw [hf9.gI 3 (by decide)]
            have zv61 : (rI Rv59 6).toInt = (rI Ra 6).toInt := by rw [hf9.gI 6 (by decide)]
            have zv62 : (rI Rv59 7).toInt = (rI Ra 7).toInt := by rw [hf9.gI 7 (by decide)]
            have zv63 : (rI Rv59 8).toInt = (rI Ra 8).toInt := by rw [hf9.gI 8 (by decide)]
            have zv64 : (rI Rv59 22).toInt = (rI Ra 22).toInt := by rw [hf9.gI 22 (by decide)]
            have zv65 : (rA Rv59 10 30).toInt = (rA Ra 10 30).toInt := by rw [hf9.gA 10 (by decide)]
            have vv66 : rI Rv59 8 = xv48 := (hf9.gI 8 (by decide)).trans (exv48.symm)
            have hR : RR Rv59 := hR.fr hf9 (by decide)
            refine W.eq (g2 := F0 m 155 ls []) rfl ?_
            have zv67 : (rI Rv59 3).toInt = (rI R 3).toInt := by rw [hF.gI 3 (by decide)]
            exact r_retV C hr hlk hM (⟨rfl, rfl, _, rfl, hF, hI, hR⟩) dX12_readPage_155
      · have tcv37 := eqF cv37
        refine lv_aload_n hx hb dX12_readPage_33 rfl (lv_at hl 0 rfl) ?_
        refine rr_getI (k := 22) (v := rI Ra 22) C hM f_X12_141 rfl rfl dX12_readPage_34 ?_
        refine lv_topi (fun xv69 exv69 => ?_)
        have mxv69 : xv69.toInt = (rI Ra 22).toInt := by rw [exv69]
        refine lv_if_le (tgt := 137) hx hb dX12_readPage_37 (by decide) (fun cv70 => ?_) (fun cv70 => ?_)
        · have tcv70 := leT cv70
          refine lv_aload_n hx hb dX12_readPage_137 rfl (lv_at hl 0 rfl) ?_
          have zv71 : (rI Ra 3).toInt = (rI R 3).toInt := by rw [hF.gI 3 (by decide)]
          refine r_V (As := []) (rest := []) (ci := 12) C hM (c_X12_isGood l D H0 h0 Ra kc ns ) i_X12_isGood m_X12_147 rK0 rfl rfl rfl hl.1 rfl (Nat.le_of_ble_eq_true rfl) ⟨by decide, by decide⟩ ⟨by decide, by decide⟩ dX12_readPage_138 (fun xv76 Sv73 kv74 nv75 H locs pv77 hM => ?_)
          obtain ⟨rfl, rfl, rfl, hxv76⟩ := pv77
          refine W.eq (g2 := F0 m 141 ls [.int xv76]) rfl ?_
          refine lv_if_eq (tgt := 155) hx hb dX12_readPage_141 (by decide) (fun cv78 => ?_) (fun cv78 => ?_)
          · have tcv78 := eqT cv78
            have zv79 : (rI Ra 3).toInt = (rI R 3).toInt := by rw [hF.gI 3 (by decide)]
            exact r_retV C hr hlk hM (⟨rfl, rfl, _, rfl, hF, hI, hR⟩) dX12_readPage_155
          · have tcv78 := eqF cv78
            refine lv_aload_n hx hb dX12_readPage_144 rfl (lv_at hl 0 rfl) ?_
            refine rr_getI (k := 8) (v := rI Ra 8) C hM f_X12_126 rfl rfl dX12_readPage_145 ?_
            refine lv_topi (fun xv81 exv81 => ?_)
            have mxv81 : xv81.toInt = (rI Ra 8).toInt := by rw [exv81]
            refine lv_if_eq (tgt := 155) hx hb dX12_readPage_148 (by decide) (fun cv82 => ?_) (fun cv82 => ?_)
            · have tcv82 := eqT cv82
              have zv83 : (rI Ra 3).toInt = (rI R 3).toInt := by rw [hF.gI 3 (by decide)]
              exact r_retV C hr hlk hM (⟨rfl, rfl, _, rfl, hF, hI, hR⟩) dX12_readPage_155
            · have tcv82 := eqF cv82
              refine lv_aload_n hx hb dX12_readPage_151 rfl (lv_at hl 0 rfl) ?_
              have zv85 : (rI Ra 3).toInt = (rI R 3).toInt := by rw [hF.gI 3 (by decide)]
              refine r_V (As := []) (rest := []) (ci := 12) C hM (c_X12_wrong l D H0 h0 Ra kc ns ) i_X12_wrong m_X12_144 rK0 rfl rfl rfl hl.1 rfl (Nat.le_of_ble_eq_true rfl) ⟨by decide, by decide⟩ ⟨by decide, by decide⟩ dX12_readPage_152 (fun uv90 Sv87 kv88 nv89 H locs pv91 hM => ?_)
              obtain ⟨rfl, rfl, Rv92, rfl, hf9, huv90⟩ := pv91
              have hF : fr [4, 5, 6, 7, 8, 9, 10, 11, 14, 15, 16, 17, 18, 19, 20, 21, 22] R Rv92 := hF.trans hf9 (by decide)
              have hI : RI Rv92 := hI.fr hf9 (by decide)
              have zv93 : (rI Rv92 3).toInt = (rI Ra 3).toInt := by rw [hf9.gI 3 (by decide)]
              have zv94 : (rI Rv92 6).toInt = (rI Ra 6).toInt := by rw [hf9.gI 6 (by decide)]
              have zv95 : (rI Rv92 7).toInt = (rI Ra 7).toInt := by rw [hf9.gI 7 (by decide)]
              have zv96 : (rI Rv92 8).toInt = (rI Ra 8).toInt := by rw [hf9.gI 8 (by decide)]
              have zv97 : (rI Rv92 22).toInt = (rI Ra 22).toInt := by rw [hf9.gI 22 (by decide)]
              have zv98 : (rA Rv92 10 30).toInt = (rA Ra 10 30).toInt := by rw [hf9.gA 10 (by decide)]
              have vv99 : rI Rv92 22 = xv69 := (hf9.gI 22 (by decide)).trans (exv69.symm)
              have vv100 : rI Rv92 8 = xv81 := (hf9.gI 8 (by decide)).trans (exv81.symm)
              have hR : RR Rv92 := hR.fr hf9 (by decide)
              refine W.eq (g2 := F0 m 155 ls []) rfl ?_
              have zv101 : (rI Rv92 3).toInt = (rI R 3).toInt := by rw [hF.gI 3 (by decide)]
              exact r_retV C hr hlk hM (⟨rfl, rfl, _, rfl, hF, hI, hR⟩) dX12_readPage_155
        · have tcv70 := leF cv70
          refine lv_aload_n hx hb dX12_readPage_40 rfl (lv_at hl 0 rfl) ?_
          refine lv_bipush (v := 40) hx hb dX12_readPage_41 (by decide) ?_
          have zv103 : (rI Ra 3).toInt = (rI R 3).toInt := by rw [hF.gI 3 (by decide)]
          refine r_V (As := [.int 40]) (rest := []) (ci := 12) C hM (c_X12_is l D H0 h0 Ra kc ns 40 hI (by omega)) i_X12_is m_X12_158 rK0 rfl rfl rfl hl.1 rfl (Nat.le_of_ble_eq_true rfl) ⟨by decide, by decide⟩ ⟨by decide, by decide⟩ dX12_readPage_43 (fun xv108 Sv105 kv106 nv107 H locs pv109 hM => ?_)
          obtain ⟨rfl, rfl, rfl, hxv108⟩ := pv109
          refine W.eq (g2 := F0 m 46 ls [.int xv108]) rfl ?_
          refine lv_if_eq (tgt := 60) hx hb dX12_readPage_46 (by decide) (fun cv110 => ?_) (fun cv110 => ?_)
          · have tcv110 := eqT cv110
            refine lv_aload_n hx hb dX12_readPage_60 rfl (lv_at hl 0 rfl) ?_
            refine lv_dup hx hb dX12_readPage_61 rfl ?_
            refine rr_getI (k := 22) (v := xv69) C hM f_X12_141 rfl (exv69.symm) dX12_readPage_62 ?_
            refine lv_iconst (v := 1) hx hb dX12_readPage_65 (by decide) ?_
            refine lv_isub hx hb dX12_readPage_66 ?_
            refine lv_topi (fun xv111 exv111 => ?_)
            try (have txv111 := subI (a := xv69) (b := 1) (by omega) (by omega); rw [← exv111] at txv111)
            refine rr_putI (k := 22) (v := xv111) C hM f_X12_141 rfl (fun r h => by cases h; rfl) rfl dX12_readPage_67 (fun H locs hM => ?_)
            have hM : mH D H0 (rM h0 (uI Ra 22 xv111)) kc ns H locs := hM
            have hF : fr [4, 5, 6, 7, 8, 9, 10, 11, 14, 15, 16, 17, 18, 19, 20, 21, 22] R (uI Ra 22 xv111) := hF.I (by decide)
            have hI : RI (uI Ra 22 xv111) := hI.fr (L := [22]) (fr.rf.I (by decide)) (by decide)
            have hR : RR (uI Ra 22 xv111) := RR.pop hR (by omega) (by omega)
            refine lv_aload_n hx hb dX12_readPage_70 rfl (lv_at hl 0 rfl) ?_
            refine rr_getI (k := 22) (v := xv111) C hM f_X12_141 rfl (rfl) dX12_readPage_71 ?_
            refine lv_if_le (tgt := 81) hx hb dX12_readPage_74 (by decide) (fun cv112 => ?_) (fun cv112 => ?_)
            · have tcv112 := leT cv112
              refine lv_iconst (v := 0) hx hb dX12_readPage_81 (by decide) ?_
              refine lv_istore_n (lv' := [(1, .int 0), (0, .ref h0)]) hx hb dX12_readPage_82 rfl hl (by decide) rfl (fun ls hl => ?_)
              have zv113 : (rI (uI Ra 22 xv111) 3).toInt = (rI R 3).toInt := by rw [hF.gI 3 (by decide)]
              have zv114 : (rI (uI Ra 22 xv111) 4).toInt = (rI Ra 4).toInt := rfl
              have zv115 : (rI (uI Ra 22 xv111) 6).toInt = (rI Ra 6).toInt := rfl
              have zv116 : (rI (uI Ra 22 xv111) 7).toInt = (rI Ra 7).toInt := rfl
              have zv117 : (rI (uI Ra 22 xv111) 8).toInt = (rI Ra 8).toInt := rfl
              have zv118 : (rI (uI Ra 22 xv111) 22).toInt = xv111.toInt := rfl
              have zv119 : (rA (uI Ra 22 xv111) 10 30).toInt = (rA Ra 10 30).toInt := rfl
              have loop83 : ∀ (fu : Nat) (mo : Int32) (Rb : RS) (H : Heap) (locs : List Loc) (ls : Array Slot), (fr [4, 5, 6, 7, 8, 9, 10, 11, 14, 15, 16, 17, 18, 19, 20, 21, 22] R Rb) → (RI Rb) → (RR Rb) → (0 ≤ (rI Rb 6).toInt ∧ 0 ≤ (rI Rb 7).toInt ∧ (rI Rb 7).toInt ≤ 1601) → ((rA Rb 10 30).toInt = (rA Ra 10 30).toInt ∧ (rI Rb 4).toInt = 0 ∧ (rI Rb 22).toInt < (rI Ra 22).toInt) → ((mo.toInt = 0 ∧ (rI Rb 22).toInt = 0) ∨ (mo.toInt = 1 ∧ 0 < (rI Rb 22).toInt)) → (rI Rb 22).toInt.toNat < fu → lv_has ls 2 [(0, .ref h0), (1, .int mo)] → mH D H0 (rM h0 Rb) kc ns H locs → W p l e ({ frames := 3, cells := 0, slots := 0, locals := 66 } : Room) s m args below meth c H locs 0 0 (MQ below (mQ D H0 gV (fun r S1 k1 n1 => kc = k1 ∧ ns = n1 ∧ ∃ R1, S1 = rM h0 R1 ∧ fr [4, 5, 6, 7, 8, 9, 10, 11, 14, 15, 16, 17, 18, 19, 20, 21, 22] R R1 ∧ RI R1 ∧ RR R1)) args s 0 0 (mF H0)) (F0 m 83 ls []) := by
                intro fu
                induction fu with
                | zero => intro mo Rb H locs ls h83_0 h83_1 h83_2 h83_3 h83_4 h83_5 hfu; exact absurd hfu (by omega)
                | succ fu ih83 =>
                  intro mo Rb H locs ls h83_0 h83_1 h83_2 h83_3 h83_4 h83_5 hfu hl hM
                  have hF := h83_0
                  have hI := h83_1
                  have hR := h83_2
                  have fRb := hR.1
                  refine lv_iload_n hx hb dX12_readPage_83 rfl (lv_at hl 1 rfl) ?_
                  refine lv_if_eq (tgt := 126) hx hb dX12_readPage_84 (by decide) (fun cv120 => ?_) (fun cv120 => ?_)
                  · have tcv120 := eqT cv120
                    refine lv_iload_n hx hb dX12_readPage_126 rfl (lv_at hl 1 rfl) ?_
                    refine lv_if_eq (tgt := 134) hx hb dX12_readPage_127 (by decide) (fun cv121 => ?_) (fun cv121 => ?_)
                    · have tcv121 := eqT cv121
                      refine lv_goto (tgt := 26) hx hb dX12_readPage_134 (by decide) ?_
                      have mzb := mzA Rb
                      have fRb := hR.1
                      have fmb := RI.many hI 30
                      have zv122 : (rI Rb 3).toInt = (rI R 3).toInt := by rw [hF.gI 3 (by decide)]
                      exact ih26 Rb _ _ _ (hF) (hI) (hR) (by omega) (by omega) (lv_sub hl [0] rfl) hM
                    · have tcv121 := eqF cv121
                      refine lv_aload_n hx hb dX12_readPage_130 rfl (lv_at hl 0 rfl) ?_
                      have zv124 : (rI Rb 3).toInt = (rI R 3).toInt := by rw [hF.gI 3 (by decide)]
                      refine r_V (As := []) (rest := []) (ci := 12) C hM (c_X12_readPart l D H0 h0 Rb kc ns hI hR (by omega) (by omega) (by omega)) i_X12_readPart m_X12_161 rK0 rfl rfl rfl hl.1 rfl (Nat.le_of_ble_eq_true rfl) ⟨by decide, by decide⟩ ⟨by decide, by decide⟩ dX12_readPage_131 (fun uv129 Sv126 kv127 nv128 H locs pv130 hM => ?_)
                      obtain ⟨rfl, rfl, Rv131, rfl, hf9, ⟨hI, hR, hquv129, hvuv129⟩⟩ := pv130
                      have hF : fr [4, 5, 6, 7, 8, 9, 10, 11, 14, 15, 16, 17, 18, 19, 20, 21, 22] R Rv131 := hF.trans hf9 (by decide)
                      have zv132 : (rI Rv131 3).toInt = (rI Rb 3).toInt := by rw [hf9.gI 3 (by decide)]
                      refine W.eq (g2 := F0 m 134 ls []) rfl ?_
                      refine lv_goto (tgt := 26) hx hb dX12_readPage_134 (by decide) ?_
                      have mzb := mzA Rv131
                      have fRb := hR.1
                      have fmb := RI.many hI 30
                      have zv133 : (rI Rv131 3).toInt = (rI R 3).toInt := by rw [hF.gI 3 (by decide)]
                      exact ih26 Rv131 _ _ _ (hF) (hI) (hR) (by omega) (by omega) (lv_sub hl [0] rfl) hM
                  · have tcv120 := eqF cv120
                    refine lv_aload_n hx hb dX12_readPage_87 rfl (lv_at hl 0 rfl) ?_
                    refine lv_bipush (v := 41) hx hb dX12_readPage_88 (by decide) ?_
                    have zv135 : (rI Rb 3).toInt = (rI R 3).toInt := by rw [hF.gI 3 (by decide)]
                    refine r_V (As := [.int 41]) (rest := []) (ci := 12) C hM (c_X12_is l D H0 h0 Rb kc ns 41 hI (by omega)) i_X12_is m_X12_158 rK0 rfl rfl rfl hl.1 rfl (Nat.le_of_ble_eq_true rfl) ⟨by decide, by decide⟩ ⟨by decide, by decide⟩ dX12_readPage_90 (fun xv140 Sv137 kv138 nv139 H locs pv141 hM => ?_)
                    obtain ⟨rfl, rfl, rfl, hxv140⟩ := pv141
                    refine W.eq (g2 := F0 m 93 ls [.int xv140]) rfl ?_
                    refine lv_if_eq (tgt := 126) hx hb dX12_readPage_93 (by decide) (fun cv142 => ?_) (fun cv142 => ?_)
                    · have tcv142 := eqT cv142
                      refine lv_iload_n hx hb dX12_readPage_126 rfl (lv_at hl 1 rfl) ?_
                      refine lv_if_eq (tgt := 134) hx hb dX12_readPage_127 (by decide) (fun cv143 => ?_) (fun cv143 => ?_)
                      · have tcv143 := eqT cv143
                        refine lv_goto (tgt := 26) hx hb dX12_readPage_134 (by decide) ?_
                        have mzb := mzA Rb
                        have fRb := hR.1
                        have fmb := RI.many hI 30
                        have zv144 : (rI Rb 3).toInt = (rI R 3).toInt := by rw [hF.gI 3 (by decide)]
                        exact ih26 Rb _ _ _ (hF) (hI) (hR) (by omega) (by omega) (lv_sub hl [0] rfl) hM
                      · have tcv143 := eqF cv143
                        refine lv_aload_n hx hb dX12_readPage_130 rfl (lv_at hl 0 rfl) ?_
                        have zv146 : (rI Rb 3).toInt = (rI R 3).toInt := by rw [hF.gI 3 (by decide)]
                        refine r_V (As := []) (rest := []) (ci := 12) C hM (c_X12_readPart l D H0 h0 Rb kc ns hI hR (by omega) (by omega) (by omega)) i_X12_readPart m_X12_161 rK0 rfl rfl rfl hl.1 rfl (Nat.le_of_ble_eq_true rfl) ⟨by decide, by decide⟩ ⟨by decide, by decide⟩ dX12_readPage_131 (fun uv151 Sv148 kv149 nv150 H locs pv152 hM => ?_)
                        obtain ⟨rfl, rfl, Rv153, rfl, hf9, ⟨hI, hR, hquv151, hvuv151⟩⟩ := pv152
                        have hF : fr [4, 5, 6, 7, 8, 9, 10, 11, 14, 15, 16, 17, 18, 19, 20, 21, 22] R Rv153 := hF.trans hf9 (by decide)
                        have zv154 : (rI Rv153 3).toInt = (rI Rb 3).toInt := by rw [hf9.gI 3 (by decide)]
                        refine W.eq (g2 := F0 m 134 ls []) rfl ?_
                        refine lv_goto (tgt := 26) hx hb dX12_readPage_134 (by decide) ?_
                        have mzb := mzA Rv153
                        have fRb := hR.1
                        have fmb := RI.many hI 30
                        have zv155 : (rI Rv153 3).toInt = (rI R 3).toInt := by rw [hF.gI 3 (by decide)]
                        exact ih26 Rv153 _ _ _ (hF) (hI) (hR) (by omega) (by omega) (lv_sub hl [0] rfl) hM
                    · have tcv142 := eqF cv142
                      refine lv_aload_n hx hb dX12_readPage_96 rfl (lv_at hl 0 rfl) ?_
                      have zv157 : (rI Rb 3).toInt = (rI R 3).toInt := by rw [hF.gI 3 (by decide)]
                      refine r_V (As := []) (rest := []) (ci := 12) C hM (c_X12_next l D H0 h0 Rb kc ns hI (by omega) (by omega)) i_X12_next m_X12_155 rK0 rfl rfl rfl hl.1 rfl (Nat.le_of_ble_eq_true rfl) ⟨by decide, by decide⟩ ⟨by decide, by decide⟩ dX12_readPage_97 (fun uv162 Sv159 kv160 nv161 H locs pv163 hM => ?_)
                      obtain ⟨rfl, rfl, Rv164, rfl, hf9, huv162⟩ := pv163
                      have hF : fr [4, 5, 6, 7, 8, 9, 10, 11, 14, 15, 16, 17, 18, 19, 20, 21, 22] R Rv164 := hF.trans hf9 (by decide)
                      have hI : RI Rv164 := hI.fr hf9 (by decide)
                      have zv165 : (rI Rv164 3).toInt = (rI Rb 3).toInt := by rw [hf9.gI 3 (by decide)]
                      have zv166 : (rI Rv164 4).toInt = (rI Rb 4).toInt := by rw [hf9.gI 4 (by decide)]
                      have zv167 : (rI Rv164 22).toInt = (rI Rb 22).toInt := by rw [hf9.gI 22 (by decide)]
                      have zv168 : (rA Rv164 10 30).toInt = (rA Rb 10 30).toInt := by rw [hf9.gA 10 (by decide)]
                      have hR : RR Rv164 := hR.fr hf9 (by decide)
                      refine W.eq (g2 := F0 m 100 ls []) rfl ?_
                      refine lv_aload_n hx hb dX12_readPage_100 rfl (lv_at hl 0 rfl) ?_
                      refine lv_dup hx hb dX12_readPage_101 rfl ?_
                      refine rr_getI (k := 22) (v := rI Rv164 22) C hM f_X12_141 rfl rfl dX12_readPage_102 ?_
                      refine lv_topi (fun xv169 exv169 => ?_)
                      have mxv169 : xv169.toInt = (rI Rv164 22).toInt := by rw [exv169]
                      refine lv_iconst (v := 1) hx hb dX12_readPage_105 (by decide) ?_
                      refine lv_isub hx hb dX12_readPage_106 ?_
                      refine lv_topi (fun xv170 exv170 => ?_)
                      try (have txv170 := subI (a := xv169) (b := 1) (by omega) (by omega); rw [← exv170] at txv170)
                      refine rr_putI (k := 22) (v := xv170) C hM f_X12_141 rfl (fun r h => by cases h; rfl) rfl dX12_readPage_107 (fun H locs hM => ?_)
                      have hM : mH D H0 (rM h0 (uI Rv164 22 xv170)) kc ns H locs := hM
                      have hF : fr [4, 5, 6, 7, 8, 9, 10, 11, 14, 15, 16, 17, 18, 19, 20, 21, 22] R (uI Rv164 22 xv170) := hF.I (by decide)
                      have hI : RI (uI Rv164 22 xv170) := hI.fr (L := [22]) (fr.rf.I (by decide)) (by decide)
                      have hR : RR (uI Rv164 22 xv170) := RR.pop hR (by omega) (by omega)
                      refine lv_aload_n hx hb dX12_readPage_110 rfl (lv_at hl 0 rfl) ?_
                      refine rr_getI (k := 22) (v := xv170) C hM f_X12_141 rfl (rfl) dX12_readPage_111 ?_
                      refine lv_if_le (tgt := 121) hx hb dX12_readPage_114 (by decide) (fun cv171 => ?_) (fun cv171 => ?_)
                      · have tcv171 := leT cv171
                        refine lv_iconst (v := 0) hx hb dX12_readPage_121 (by decide) ?_
                        refine lv_istore_n (lv' := [(1, .int 0), (0, .ref h0)]) hx hb dX12_readPage_122 rfl hl (by decide) rfl (fun ls hl => ?_)
                        refine lv_goto (tgt := 83) hx hb dX12_readPage_123 (by decide) ?_
                        have zv172 : (rI (uI Rv164 22 xv170) 3).toInt = (rI R 3).toInt := by rw [hF.gI 3 (by decide)]
                        have zv173 : (rI (uI Rv164 22 xv170) 4).toInt = (rI Rv164 4).toInt := rfl
                        have zv174 : (rI (uI Rv164 22 xv170) 6).toInt = (rI Rv164 6).toInt := rfl
                        have zv175 : (rI (uI Rv164 22 xv170) 7).toInt = (rI Rv164 7).toInt := rfl
                        have zv176 : (rI (uI Rv164 22 xv170) 8).toInt = (rI Rv164 8).toInt := rfl
                        have zv177 : (rI (uI Rv164 22 xv170) 22).toInt = xv170.toInt := rfl
                        have zv178 : (rA (uI Rv164 22 xv170) 10 30).toInt = (rA Rv164 10 30).toInt := rfl
                        exact ih83 0 (uI Rv164 22 xv170) _ _ _ (hF) (hI) (hR) (by omega) (by omega) (by omega) (by omega) (lv_sub hl [1, 0] rfl) hM
                      · have tcv171 := leF cv171
                        refine lv_iconst (v := 1) hx hb dX12_readPage_117 (by decide) ?_
                        refine lv_goto (tgt := 122) hx hb dX12_readPage_118 (by decide) ?_
                        refine lv_istore_n (lv' := [(1, .int 1), (0, .ref h0)]) hx hb dX12_readPage_122 rfl hl (by decide) rfl (fun ls hl => ?_)
                        refine lv_goto (tgt := 83) hx hb dX12_readPage_123 (by decide) ?_
                        have zv179 : (rI (uI Rv164 22 xv170) 3).toInt = (rI R 3).toInt := by rw [hF.gI 3 (by decide)]
                        have zv180 : (rI (uI Rv164 22 xv170) 4).toInt = (rI Rv164 4).toInt := rfl
                        have zv181 : (rI (uI Rv164 22 xv170) 6).toInt = (rI Rv164 6).toInt := rfl
                        have zv182 : (rI (uI Rv164 22 xv170) 7).toInt = (rI Rv164 7).toInt := rfl
                        have zv183 : (rI (uI Rv164 22 xv170) 8).toInt = (rI Rv164 8).toInt := rfl
                        have zv184 : (rI (uI Rv164 22 xv170) 22).toInt = xv170.toInt := rfl
                        have zv185 : (rA (uI Rv164 22 xv170) 10 30).toInt = (rA Rv164 10 30).toInt := rfl
                        exact ih83 1 (uI Rv164 22 xv170) _ _ _ (hF) (hI) (hR) (by omega) (by omega) (by omega) (by omega) (lv_sub hl [1, 0] rfl) hM
              have zv186 : (rI (uI Ra 22 xv111) 3).toInt = (rI R 3).toInt := by rw [hF.gI 3 (by decide)]
              have zv187 : (rI (uI Ra 22 xv111) 4).toInt = (rI Ra 4).toInt := rfl
              have zv188 : (rI (uI Ra 22 xv111) 6).toInt = (rI Ra 6).toInt := rfl
              have zv189 : (rI (uI Ra 22 xv111) 7).toInt = (rI Ra 7).toInt := rfl
              have zv190 : (rI (uI Ra 22 xv111) 8).toInt = (rI Ra 8).toInt := rfl
              have zv191 : (rI (uI Ra 22 xv111) 22).toInt = xv111.toInt := rfl
              have zv192 : (rA (uI Ra 22 xv111) 10 30).toInt = (rA Ra 10 30).toInt := rfl
              exact loop83 (((rI (uI Ra 22 xv111) 22).toInt.toNat) + 1) 0 (uI Ra 22 xv111) _ _ _ (hF) (hI) (hR) (by omega) (by omega) (by omega) (by omega) (lv_sub hl [1, 0] rfl) hM
            · have tcv112 := leF cv112
              refine lv_iconst (v := 1) hx hb dX12_readPage_77 (by decide) ?_
              refine lv_goto (tgt := 82) hx hb dX12_readPage_78 (by decide) ?_
              refine lv_istore_n (lv' := [(1, .int 1), (0, .ref h0)]) hx hb dX12_readPage_82 rfl hl (by decide) rfl (fun ls hl => ?_)
              have zv193 : (rI (uI Ra 22 xv111) 3).toInt = (rI R 3).toInt := by rw [hF.gI 3 (by decide)]
              have zv194 : (rI (uI Ra 22 xv111) 4).toInt = (rI Ra 4).toInt := rfl
              have zv195 : (rI (uI Ra 22 xv111) 6).toInt = (rI Ra 6).toInt := rfl
              have zv196 : (rI (uI Ra 22 xv111) 7).toInt = (rI Ra 7).toInt := rfl
              have zv197 : (rI (uI Ra 22 xv111) 8).toInt = (rI Ra 8).toInt := rfl
              have zv198 : (rI (uI Ra 22 xv111) 22).toInt = xv111.toInt := rfl
              have zv199 : (rA (uI Ra 22 xv111) 10 30).toInt = (rA Ra 10 30).toInt := rfl
              have loop83 : ∀ (fu : Nat) (mo : Int32) (Rb : RS) (H : Heap) (locs : List Loc) (ls : Array Slot), (fr [4, 5, 6, 7, 8, 9, 10, 11, 14, 15, 16, 17, 18, 19, 20, 21, 22] R Rb) → (RI Rb) → (RR Rb) → (0 ≤ (rI Rb 6).toInt ∧ 0 ≤ (rI Rb 7).toInt ∧ (rI Rb 7).toInt ≤ 1601) → ((rA Rb 10 30).toInt = (rA Ra 10 30).toInt ∧ (rI Rb 4).toInt = 0 ∧ (rI Rb 22).toInt < (rI Ra 22).toInt) → ((mo.toInt = 0 ∧ (rI Rb 22).toInt = 0) ∨ (mo.toInt = 1 ∧ 0 < (rI Rb 22).toInt)) → (rI Rb 22).toInt.toNat < fu → lv_has ls 2 [(0, .ref h0), (1, .int mo)] → mH D H0 (rM h0 Rb) kc ns H locs → W p l e ({ frames := 3, cells := 0, slots := 0, locals := 66 } : Room) s m args below meth c H locs 0 0 (MQ below (mQ D H0 gV (fun r S1 k1 n1 => kc = k1 ∧ ns = n1 ∧ ∃ R1, S1 = rM h0 R1 ∧ fr [4, 5, 6, 7, 8, 9, 10, 11, 14, 15, 16, 17, 18, 19, 20, 21, 22] R R1 ∧ RI R1 ∧ RR R1)) args s 0 0 (mF H0)) (F0 m 83 ls []) := by
                intro fu
                induction fu with
                | zero => intro mo Rb H locs ls h83_0 h83_1 h83_2 h83_3 h83_4 h83_5 hfu; exact absurd hfu (by omega)
                | succ fu ih83 =>
                  intro mo Rb H locs ls h83_0 h83_1 h83_2 h83_3 h83_4 h83_5 hfu hl hM
                  have hF := h83_0
                  have hI := h83_1
                  have hR := h83_2
                  have fRb := hR.1
                  refine lv_iload_n hx hb dX12_readPage_83 rfl (lv_at hl 1 rfl) ?_
                  refine lv_if_eq (tgt := 126) hx hb dX12_readPage_84 (by decide) (fun cv200 => ?_) (fun cv200 => ?_)
                  · have tcv200 := eqT cv200
                    refine lv_iload_n hx hb dX12_readPage_126 rfl (lv_at hl 1 rfl) ?_
                    refine lv_if_eq (tgt := 134) hx hb dX12_readPage_127 (by decide) (fun cv201 => ?_) (fun cv201 => ?_)
                    · have tcv201 := eqT cv201
                      refine lv_goto (tgt := 26) hx hb dX12_readPage_134 (by decide) ?_
                      have mzb := mzA Rb
                      have fRb := hR.1
                      have fmb := RI.many hI 30
                      have zv202 : (rI Rb 3).toInt = (rI R 3).toInt := by rw [hF.gI 3 (by decide)]
                      exact ih26 Rb _ _ _ (hF) (hI) (hR) (by omega) (by omega) (lv_sub hl [0] rfl) hM
                    · have tcv201 := eqF cv201
                      refine lv_aload_n hx hb dX12_readPage_130 rfl (lv_at hl 0 rfl) ?_
                      have zv204 : (rI Rb 3).toInt = (rI R 3).toInt := by rw [hF.gI 3 (by decide)]
                      refine r_V (As := []) (rest := []) (ci := 12) C hM (c_X12_readPart l D H0 h0 Rb kc ns hI hR (by omega) (by omega) (by omega)) i_X12_readPart m_X12_161 rK0 rfl rfl rfl hl.1 rfl (Nat.le_of_ble_eq_true rfl) ⟨by decide, by decide⟩ ⟨by decide, by decide⟩ dX12_readPage_131 (fun uv209 Sv206 kv207 nv208 H locs pv210 hM => ?_)
                      obtain ⟨rfl, rfl, Rv211, rfl, hf9, ⟨hI, hR, hquv209, hvuv209⟩⟩ := pv210
                      have hF : fr [4, 5, 6, 7, 8, 9, 10, 11, 14, 15, 16, 17, 18, 19, 20, 21, 22] R Rv211 := hF.trans hf9 (by decide)
                      have zv212 : (rI Rv211 3).toInt = (rI Rb 3).toInt := by rw [hf9.gI 3 (by decide)]
                      refine W.eq (g2 := F0 m 134 ls []) rfl ?_
                      refine lv_goto (tgt := 26) hx hb dX12_readPage_134 (by decide) ?_
                      have mzb := mzA Rv211
                      have fRb := hR.1
                      have fmb := RI.many hI 30
                      have zv213 : (rI Rv211 3).toInt = (rI R 3).toInt := by rw [hF.gI 3 (by decide)]
                      exact ih26 Rv211 _ _ _ (hF) (hI) (hR) (by omega) (by omega) (lv_sub hl [0] rfl) hM
                  · have tcv200 := eqF cv200
                    refine lv_aload_n hx hb dX12_readPage_87 rfl (lv_at hl 0 rfl) ?_
                    refine lv_bipush (v := 41) hx hb dX12_readPage_88 (by decide) ?_
                    have zv215 : (rI Rb 3).toInt = (rI R 3).toInt := by rw [hF.gI 3 (by decide)]
                    refine r_V (As := [.int 41]) (rest := []) (ci := 12) C hM (c_X12_is l D H0 h0 Rb kc ns 41 hI (by omega)) i_X12_is m_X12_158 rK0 rfl rfl rfl hl.1 rfl (Nat.le_of_ble_eq_true rfl) ⟨by decide, by decide⟩ ⟨by decide, by decide⟩ dX12_readPage_90 (fun xv220 Sv217 kv218 nv219 H locs pv221 hM => ?_)
                    obtain ⟨rfl, rfl, rfl, hxv220⟩ := pv221
                    refine W.eq (g2 := F0 m 93 ls [.int xv220]) rfl ?_
                    refine lv_if_eq (tgt := 126) hx hb dX12_readPage_93 (by decide) (fun cv222 => ?_) (fun cv222 => ?_)
                    · have tcv222 := eqT cv222
                      refine lv_iload_n hx hb dX12_readPage_126 rfl (lv_at hl 1 rfl) ?_
                      refine lv_if_eq (tgt := 134) hx hb dX12_readPage_127 (by decide) (fun cv223 => ?_) (fun cv223 => ?_)
                      · have tcv223 := eqT cv223
                        refine lv_goto (tgt := 26) hx hb dX12_readPage_134 (by decide) ?_
                        have mzb := mzA Rb
                        have fRb := hR.1
                        have fmb := RI.many hI 30
                        have zv224 : (rI Rb 3).toInt = (rI R 3).toInt := by rw [hF.gI 3 (by decide)]
                        exact ih26 Rb _ _ _ (hF) (hI) (hR) (by omega) (by omega) (lv_sub hl [0] rfl) hM
                      · have tcv223 := eqF cv223
                        refine lv_aload_n hx hb dX12_readPage_130 rfl (lv_at hl 0 rfl) ?_
                        have zv226 : (rI Rb 3).toInt = (rI R 3).toInt := by rw [hF.gI 3 (by decide)]
                        refine r_V (As := []) (rest := []) (ci := 12) C hM (c_X12_readPart l D H0 h0 Rb kc ns hI hR (by omega) (by omega) (by omega)) i_X12_readPart m_X12_161 rK0 rfl rfl rfl hl.1 rfl (Nat.le_of_ble_eq_true rfl) ⟨by decide, by decide⟩ ⟨by decide, by decide⟩ dX12_readPage_131 (fun uv231 Sv228 kv229 nv230 H locs pv232 hM => ?_)
                        obtain ⟨rfl, rfl, Rv233, rfl, hf9, ⟨hI, hR, hquv231, hvuv231⟩⟩ := pv232
                        have hF : fr [4, 5, 6, 7, 8, 9, 10, 11, 14, 15, 16, 17, 18, 19, 20, 21, 22] R Rv233 := hF.trans hf9 (by decide)
                        have zv234 : (rI Rv233 3).toInt = (rI Rb 3).toInt := by rw [hf9.gI 3 (by decide)]
                        refine W.eq (g2 := F0 m 134 ls []) rfl ?_
                        refine lv_goto (tgt := 26) hx hb dX12_readPage_134 (by decide) ?_
                        have mzb := mzA Rv233
                        have fRb := hR.1
                        have fmb := RI.many hI 30
                        have zv235 : (rI Rv233 3).toInt = (rI R 3).toInt := by rw [hF.gI 3 (by decide)]
                        exact ih26 Rv233 _ _ _ (hF) (hI) (hR) (by omega) (by omega) (lv_sub hl [0] rfl) hM
                    · have tcv222 := eqF cv222
                      refine lv_aload_n hx hb dX12_readPage_96 rfl (lv_at hl 0 rfl) ?_
                      have zv237 : (rI Rb 3).toInt = (rI R 3).toInt := by rw [hF.gI 3 (by decide)]
                      refine r_V (As := []) (rest := []) (ci := 12) C hM (c_X12_next l D H0 h0 Rb kc ns hI (by omega) (by omega)) i_X12_next m_X12_155 rK0 rfl rfl rfl hl.1 rfl (Nat.le_of_ble_eq_true rfl) ⟨by decide, by decide⟩ ⟨by decide, by decide⟩ dX12_readPage_97 (fun uv242 Sv239 kv240 nv241 H locs pv243 hM => ?_)
                      obtain ⟨rfl, rfl, Rv244, rfl, hf9, huv242⟩ := pv243
                      have hF : fr [4, 5, 6, 7, 8, 9, 10, 11, 14, 15, 16, 17, 18, 19, 20, 21, 22] R Rv244 := hF.trans hf9 (by decide)
                      have hI : RI Rv244 := hI.fr hf9 (by decide)
                      have zv245 : (rI Rv244 3).toInt = (rI Rb 3).toInt := by rw [hf9.gI 3 (by decide)]
                      have zv246 : (rI Rv244 4).toInt = (rI Rb 4).toInt := by rw [hf9.gI 4 (by decide)]
                      have zv247 : (rI Rv244 22).toInt = (rI Rb 22).toInt := by rw [hf9.gI 22 (by decide)]
                      have zv248 : (rA Rv244 10 30).toInt = (rA Rb 10 30).toInt := by rw [hf9.gA 10 (by decide)]
                      have hR : RR Rv244 := hR.fr hf9 (by decide)
                      refine W.eq (g2 := F0 m 100 ls []) rfl ?_
                      refine lv_aload_n hx hb dX12_readPage_100 rfl (lv_at hl 0 rfl) ?_
                      refine lv_dup hx hb dX12_readPage_101 rfl ?_
                      refine rr_getI (k := 22) (v := rI Rv244 22) C hM f_X12_141 rfl rfl dX12_readPage_102 ?_
                      refine lv_topi (fun xv249 exv249 => ?_)
                      have mxv249 : xv249.toInt = (rI Rv244 22).toInt := by rw [exv249]
                      refine lv_iconst (v := 1) hx hb dX12_readPage_105 (by decide) ?_
                      refine lv_isub hx hb dX12_readPage_106 ?_
                      refine lv_topi (fun xv250 exv250 => ?_)
                      try (have txv250 := subI (a := xv249) (b := 1) (by omega) (by omega); rw [← exv250] at txv250)
                      refine rr_putI (k := 22) (v := xv250) C hM f_X12_141 rfl (fun r h => by cases h; rfl) rfl dX12_readPage_107 (fun H locs hM => ?_)
                      have hM : mH D H0 (rM h0 (uI Rv244 22 xv250)) kc ns H locs := hM
                      have hF : fr [4, 5, 6, 7, 8, 9, 10, 11, 14, 15, 16, 17, 18, 19, 20, 21, 22] R (uI Rv244 22 xv250) := hF.I (by decide)
                      have hI : RI (uI Rv244 22 xv250) := hI.fr (L := [22]) (fr.rf.I (by decide)) (by decide)
                      have hR : RR (uI Rv244 22 xv250) := RR.pop hR (by omega) (by omega)
                      refine lv_aload_n hx hb dX12_readPage_110 rfl (lv_at hl 0 rfl) ?_
                      refine rr_getI (k := 22) (v := xv250) C hM f_X12_141 rfl (rfl) dX12_readPage_111 ?_
                      refine lv_if_le (tgt := 121) hx hb dX12_readPage_114 (by decide) (fun cv251 => ?_) (fun cv251 => ?_)
                      · have tcv251 := leT cv251
                        refine lv_iconst (v := 0) hx hb dX12_readPage_121 (by decide) ?_
                        refine lv_istore_n (lv' := [(1, .int 0), (0, .ref h0)]) hx hb dX12_readPage_122 rfl hl (by decide) rfl (fun ls hl => ?_)
                        refine lv_goto (tgt := 83) hx hb dX12_readPage_123 (by decide) ?_
                        have zv252 : (rI (uI Rv244 22 xv250) 3).toInt = (rI R 3).toInt := by rw [hF.gI 3 (by decide)]
                        have zv253 : (rI (uI Rv244 22 xv250) 4).toInt = (rI Rv244 4).toInt := rfl
                        have zv254 : (rI (uI Rv244 22 xv250) 6).toInt = (rI Rv244 6).toInt := rfl
                        have zv255 : (rI (uI Rv244 22 xv250) 7).toInt = (rI Rv244 7).toInt := rfl
                        have zv256 : (rI (uI Rv244 22 xv250) 8).toInt = (rI Rv244 8).toInt := rfl
                        have zv257 : (rI (uI Rv244 22 xv250) 22).toInt = xv250.toInt := rfl
                        have zv258 : (rA (uI Rv244 22 xv250) 10 30).toInt = (rA Rv244 10 30).toInt := rfl
                        exact ih83 0 (uI Rv244 22 xv250) _ _ _ (hF) (hI) (hR) (by omega) (by omega) (by omega) (by omega) (lv_sub hl [1, 0] rfl) hM
                      · have tcv251 := leF cv251
                        refine lv_iconst (v := 1) hx hb dX12_readPage_117 (by decide) ?_
                        refine lv_goto (tgt := 122) hx hb dX12_readPage_118 (by decide) ?_
                        refine lv_istore_n (lv' := [(1, .int 1), (0, .ref h0)]) hx hb dX12_readPage_122 rfl hl (by decide) rfl (fun ls hl => ?_)
                        refine lv_goto (tgt := 83) hx hb dX12_readPage_123 (by decide) ?_
                        have zv259 : (rI (uI Rv244 22 xv250) 3).toInt = (rI R 3).toInt := by rw [hF.gI 3 (by decide)]
                        have zv260 : (rI (uI Rv244 22 xv250) 4).toInt = (rI Rv244 4).toInt := rfl
                        have zv261 : (rI (uI Rv244 22 xv250) 6).toInt = (rI Rv244 6).toInt := rfl
                        have zv262 : (rI (uI Rv244 22 xv250) 7).toInt = (rI Rv244 7).toInt := rfl
                        have zv263 : (rI (uI Rv244 22 xv250) 8).toInt = (rI Rv244 8).toInt := rfl
                        have zv264 : (rI (uI Rv244 22 xv250) 22).toInt = xv250.toInt := rfl
                        have zv265 : (rA (uI Rv244 22 xv250) 10 30).toInt = (rA Rv244 10 30).toInt := rfl
                        exact ih83 1 (uI Rv244 22 xv250) _ _ _ (hF) (hI) (hR) (by omega) (by omega) (by omega) (by omega) (lv_sub hl [1, 0] rfl) hM
              have zv266 : (rI (uI Ra 22 xv111) 3).toInt = (rI R 3).toInt := by rw [hF.gI 3 (by decide)]
              have zv267 : (rI (uI Ra 22 xv111) 4).toInt = (rI Ra 4).toInt := rfl
              have zv268 : (rI (uI Ra 22 xv111) 6).toInt = (rI Ra 6).toInt := rfl
              have zv269 : (rI (uI Ra 22 xv111) 7).toInt = (rI Ra 7).toInt := rfl
              have zv270 : (rI (uI Ra 22 xv111) 8).toInt = (rI Ra 8).toInt := rfl
              have zv271 : (rI (uI Ra 22 xv111) 22).toInt = xv111.toInt := rfl
              have zv272 : (rA (uI Ra 22 xv111) 10 30).toInt = (rA Ra 10 30).toInt := rfl
              exact loop83 (((rI (uI Ra 22 xv111) 22).toInt.toNat) + 1) 1 (uI Ra 22 xv111) _ _ _ (hF) (hI) (hR) (by omega) (by omega) (by omega) (by omega) (lv_sub hl [1, 0] rfl) hM
          · have tcv110 := eqF cv110
            refine lv_aload_n hx hb dX12_readPage_49 rfl (lv_at hl 0 rfl) ?_
            have zv273 : (rI Ra 3).toInt = (rI R 3).toInt := by rw [hF.gI 3 (by decide)]
            refine r_V (As := []) (rest := []) (ci := 12) C hM (c_X12_next l D H0 h0 Ra kc ns hI (by omega) (by omega)) i_X12_next m_X12_155 rK0 rfl rfl rfl hl.1 rfl (Nat.le_of_ble_eq_true rfl) ⟨by decide, by decide⟩ ⟨by decide, by decide⟩ dX12_readPage_50 (fun uv278 Sv275 kv276 nv277 H locs pv279 hM => ?_)
            obtain ⟨rfl, rfl, Rv280, rfl, hf9, huv278⟩ := pv279
            have hF : fr [4, 5, 6, 7, 8, 9, 10, 11, 14, 15, 16, 17, 18, 19, 20, 21, 22] R Rv280 := hF.trans hf9 (by decide)
            have hI : RI Rv280 := hI.fr hf9 (by decide)
            have zv281 : (rI Rv280 3).toInt = (rI Ra 3).toInt := by rw [hf9.gI 3 (by decide)]
            have zv282 : (rI Rv280 4).toInt = (rI Ra 4).toInt := by rw [hf9.gI 4 (by decide)]
            have zv283 : (rI Rv280 22).toInt = (rI Ra 22).toInt := by rw [hf9.gI 22 (by decide)]
            have zv284 : (rA Rv280 10 30).toInt = (rA Ra 10 30).toInt := by rw [hf9.gA 10 (by decide)]
            have vv285 : rI Rv280 22 = xv69 := (hf9.gI 22 (by decide)).trans (exv69.symm)
            have hR : RR Rv280 := hR.fr hf9 (by decide)
            refine W.eq (g2 := F0 m 53 ls []) rfl ?_
            refine lv_aload_n hx hb dX12_readPage_53 rfl (lv_at hl 0 rfl) ?_
            have zv286 : (rI Rv280 3).toInt = (rI R 3).toInt := by rw [hF.gI 3 (by decide)]
            refine r_V (As := []) (rest := []) (ci := 12) C hM (c_X12_readPart l D H0 h0 Rv280 kc ns hI hR (by omega) (by omega) (by omega)) i_X12_readPart m_X12_161 rK0 rfl rfl rfl hl.1 rfl (Nat.le_of_ble_eq_true rfl) ⟨by decide, by decide⟩ ⟨by decide, by decide⟩ dX12_readPage_54 (fun uv291 Sv288 kv289 nv290 H locs pv292 hM => ?_)
            obtain ⟨rfl, rfl, Rv293, rfl, hf9, ⟨hI, hR, hquv291, hvuv291⟩⟩ := pv292
            have hF : fr [4, 5, 6, 7, 8, 9, 10, 11, 14, 15, 16, 17, 18, 19, 20, 21, 22] R Rv293 := hF.trans hf9 (by decide)
            have zv294 : (rI Rv293 3).toInt = (rI Rv280 3).toInt := by rw [hf9.gI 3 (by decide)]
            refine W.eq (g2 := F0 m 57 ls []) rfl ?_
            refine lv_goto (tgt := 26) hx hb dX12_readPage_57 (by decide) ?_
            have mzb := mzA Rv293
            have fRb := hR.1
            have fmb := RI.many hI 30
            have zv295 : (rI Rv293 3).toInt = (rI R 3).toInt := by rw [hF.gI 3 (by decide)]
            exact ih26 Rv293 _ _ _ (hF) (hI) (hR) (by omega) (by omega) (lv_sub hl [0] rfl) hM
  have zv297 : (rI Rv26 3).toInt = (rI R 3).toInt := by rw [hF.gI 3 (by decide)]
  exact loop26 ((mz Rv26) + 1) Rv26 _ _ _ (hF) (hI) (hR) (by omega) (by omega) (lv_sub hl [0] rfl) hM
set_option maxHeartbeats 4000000 in
set_option maxRecDepth 100000 in
theorem c_X12_isUnder (l : Launch) (D : gD) (H0 : gB) (h0 : Nat) (R : RS) (kc ns : Nat) (i0 i1 i2 : Int32) (hI : RI R) (a0 : i0.toInt = 30) (hP : ∀ p : Nat, (p : Int) < (rA R 10 30).toInt → PT R 30 p) (b0 : 0 ≤ i1.toInt) (b1 : i1.toInt < (rA R 10 30).toInt)  : Met l yX12_isUnder (wsU yX12_isUnder cX12_isUnder 5 (some .boolean)) ({ frames := 1, cells := 0, slots := 0, locals := 21 } : Room) (mP D H0 (rM h0 R) kc ns [.ref h0, .int i0, .int i1, .int i2]) (mQ D H0 gI (fun r S1 k1 n1 => rM h0 R = S1 ∧ kc = k1 ∧ ns = n1 ∧ (r = 0 ∨ r = 1))) 0 0 (mF H0) := by
  refine r_met (own := RX12) (by decide +kernel) rfl (Nat.le_of_ble_eq_true rfl) ?_
  intro p e s m args below meth c C hr hlk hnm H ls hl hM
  obtain ⟨hx, hb, hml, hown, hts, -, -⟩ := id C
  have hl : lv_has ls 5 [(0, .ref h0), (1, .int i0), (2, .int i1), (3, .int i2)] := hl
  have hF : fr [] R R := fr.rf
  have hI0 := hI
  have t_0 : (0 : Int32).toInt = 0 := by decide
  have t_1 : (1 : Int32).toInt = 1 := by decide
  have fm := RI.many hI 30
  refine lv_aload_n hx hb dX12_isUnder_0 rfl (lv_at hl 0 rfl) ?_
  refine rr_getA (k := 11) (j := 3) C hM f_X12_24 rfl rfl dX12_isUnder_1 ?_
  refine lv_iload_n hx hb dX12_isUnder_4 rfl (lv_at hl 1 rfl) ?_
  refine lv_iload_n hx hb dX12_isUnder_5 rfl (lv_at hl 2 rfl) ?_
  refine r_S (As := [.int i0, .int i1]) (rest := [.ref (h0 + 1 + 3)]) C hM (c_X12_spot l D H0 (rM h0 R) kc ns i0 i1 (by omega) (by omega) (by omega) (by omega)) i_X12_spot m_X12_151 rfl hl.1 rfl (Nat.le_of_ble_eq_true rfl) ⟨by decide, by decide⟩ ⟨by decide, by decide⟩ dX12_isUnder_6 (fun xv4 Sv1 kv2 nv3 H locs pv5 hM => ?_)
  obtain ⟨rfl, rfl, rfl, hxv4⟩ := pv5
  refine W.eq (g2 := F0 m 9 ls [.int xv4, .ref (h0 + 1 + 3)]) rfl ?_
  refine rr_ldI (j := 3) (k := 11) (n := 1860) (v := rA R 11 xv4.toNatClampNeg) C hM rfl rfl rfl (inI (by omega) (by show _ < (1860 : Int); omega)) (congrFun (hF.gA 11 (by decide)) xv4.toNatClampNeg) dX12_isUnder_9 ?_
  refine lv_topi (fun xv6 exv6 => ?_)
  try (have fxv6 := PG.at11 hI0 (g := i0) (p := i1) (x := xv4) (by omega) (by omega) (by omega) (by omega) (by omega); rw [← exv6] at fxv6)
  have fpxv6 := PT.at11 hP (p := i1) (x := xv4) (by omega) (by omega) (by omega); rw [← exv6] at fpxv6
  refine lv_istore (lv' := [(4, .int xv6), (0, .ref h0), (1, .int i0), (2, .int i1), (3, .int i2)]) hx hb dX12_isUnder_10 hl (by decide) rfl (fun ls hl => ?_)
  have loop12 : ∀ (fu : Nat) (xz : Int32) (H : Heap) (locs : List Loc) (ls : Array Slot), (-1 ≤ xz.toInt ∧ xz.toInt < (rA R 10 30).toInt) → (xz.toInt + 1).toNat < fu → lv_has ls 5 [(0, .ref h0), (1, .int i0), (2, .int i1), (3, .int i2), (4, .int xz)] → mH D H0 (rM h0 R) kc ns H locs → W p l e ({ frames := 1, cells := 0, slots := 0, locals := 21 } : Room) s m args below meth c H locs 0 0 (MQ below (mQ D H0 gI (fun r S1 k1 n1 => rM h0 R = S1 ∧ kc = k1 ∧ ns = n1 ∧ (r = 0 ∨ r = 1))) args s 0 0 (mF H0)) (F0 m 12 ls []) := by
    intro fu
    induction fu with
    | zero => intro xz H locs ls h12_0 hfu; exact absurd hfu (by omega)
    | succ fu ih12 =>
      intro xz H locs ls h12_0 hfu hl hM
      refine lv_iload hx hb dX12_isUnder_12 (lv_at hl 4 rfl) ?_
      refine lv_if_lt (tgt := 39) hx hb dX12_isUnder_14 (by decide) (fun cv7 => ?_) (fun cv7 => ?_)
      · have tcv7 := ltT cv7
        refine lv_iload hx hb dX12_isUnder_39 (lv_at hl 4 rfl) ?_
        refine lv_iload_n hx hb dX12_isUnder_41 rfl (lv_at hl 3 rfl) ?_
        refine lv_icmp_ne (tgt := 49) hx hb dX12_isUnder_42 (by decide) (fun cv8 => ?_) (fun cv8 => ?_)
        · have tcv8 := eqF cv8
          refine lv_iconst (v := 0) hx hb dX12_isUnder_49 (by decide) ?_
          exact r_retZ C hr hlk rfl hM (⟨rfl, rfl, rfl, by decide⟩) dX12_isUnder_50
        · have tcv8 := eqT cv8
          refine lv_iconst (v := 1) hx hb dX12_isUnder_45 (by decide) ?_
          refine lv_goto (tgt := 50) hx hb dX12_isUnder_46 (by decide) ?_
          exact r_retZ C hr hlk rfl hM (⟨rfl, rfl, rfl, by decide⟩) dX12_isUnder_50
      · have tcv7 := ltF cv7
        refine lv_iload hx hb dX12_isUnder_17 (lv_at hl 4 rfl) ?_
        refine lv_iload_n hx hb dX12_isUnder_19 rfl (lv_at hl 3 rfl) ?_
        refine lv_icmp_eq (tgt := 39) hx hb dX12_isUnder_20 (by decide) (fun cv9 => ?_) (fun cv9 => ?_)
        · have tcv9 := eqT cv9
          refine lv_iload hx hb dX12_isUnder_39 (lv_at hl 4 rfl) ?_
          refine lv_iload_n hx hb dX12_isUnder_41 rfl (lv_at hl 3 rfl) ?_
          refine lv_icmp_ne (tgt := 49) hx hb dX12_isUnder_42 (by decide) (fun cv10 => ?_) (fun cv10 => ?_)
          · have tcv10 := eqF cv10
            refine lv_iconst (v := 0) hx hb dX12_isUnder_49 (by decide) ?_
            exact r_retZ C hr hlk rfl hM (⟨rfl, rfl, rfl, by decide⟩) dX12_isUnder_50
          · have tcv10 := eqT cv10
            refine lv_iconst (v := 1) hx hb dX12_isUnder_45 (by decide) ?_
            refine lv_goto (tgt := 50) hx hb dX12_isUnder_46 (by decide) ?_
            exact r_retZ C hr hlk rfl hM (⟨rfl, rfl, rfl, by decide⟩) dX12_isUnder_50
        · have tcv9 := eqF cv9
          refine lv_aload_n hx hb dX12_isUnder_23 rfl (lv_at hl 0 rfl) ?_
          refine rr_getA (k := 11) (j := 3) C hM f_X12_24 rfl rfl dX12_isUnder_24 ?_
          refine lv_iload_n hx hb dX12_isUnder_27 rfl (lv_at hl 1 rfl) ?_
          refine lv_iload hx hb dX12_isUnder_28 (lv_at hl 4 rfl) ?_
          refine r_S (As := [.int i0, .int xz]) (rest := [.ref (h0 + 1 + 3)]) C hM (c_X12_spot l D H0 (rM h0 R) kc ns i0 xz (by omega) (by omega) (by omega) (by omega)) i_X12_spot m_X12_151 rfl hl.1 rfl (Nat.le_of_ble_eq_true rfl) ⟨by decide, by decide⟩ ⟨by decide, by decide⟩ dX12_isUnder_30 (fun xv14 Sv11 kv12 nv13 H locs pv15 hM => ?_)
          obtain ⟨rfl, rfl, rfl, hxv14⟩ := pv15
          refine W.eq (g2 := F0 m 33 ls [.int xv14, .ref (h0 + 1 + 3)]) rfl ?_
          refine rr_ldI (j := 3) (k := 11) (n := 1860) (v := rA R 11 xv14.toNatClampNeg) C hM rfl rfl rfl (inI (by omega) (by show _ < (1860 : Int); omega)) (congrFun (hF.gA 11 (by decide)) xv14.toNatClampNeg) dX12_isUnder_33 ?_
          refine lv_topi (fun xv16 exv16 => ?_)
          try (have fxv16 := PG.at11 hI0 (g := i0) (p := xz) (x := xv14) (by omega) (by omega) (by omega) (by omega) (by omega); rw [← exv16] at fxv16)
          have fpxv16 := PT.at11 hP (p := xz) (x := xv14) (by omega) (by omega) (by omega); rw [← exv16] at fpxv16
          refine lv_istore (lv' := [(4, .int xv16), (0, .ref h0), (1, .int i0), (2, .int i1), (3, .int i2)]) hx hb dX12_isUnder_34 hl (by decide) rfl (fun ls hl => ?_)
          refine lv_goto (tgt := 12) hx hb dX12_isUnder_36 (by decide) ?_
          exact ih12 xv16 _ _ _ (by omega) (by omega) (lv_sub hl [1, 2, 3, 4, 0] rfl) hM
  exact loop12 (((xv6.toInt + 1).toNat) + 1) xv6 _ _ _ (by omega) (by omega) (lv_sub hl [1, 2, 3, 4, 0] rfl) hM
set_option maxHeartbeats 4000000 in
set_option maxRecDepth 100000 in
theorem c_X12_measure (l : Launch) (D : gD) (H0 : gB) (h0 : Nat) (R : RS) (kc ns : Nat) (hI : RI R) (hP : ∀ p : Nat, (p : Int) < (rA R 10 30).toInt → PT R 30 p)  : Met l yX12_measure (wsU yX12_measure cX12_measure 5 none) ({ frames := 2, cells := 0, slots := 0, locals := 45 } : Room) (mP D H0 (rM h0 R) kc ns [.ref h0]) (mQ D H0 gV (fun r S1 k1 n1 => kc = k1 ∧ ns = n1 ∧ ∃ R1, S1 = rM h0 R1 ∧ fr [12, 13] R R1 ∧ RI R1 ∧ PG R1 30)) 0 0 (mF H0) := by
  refine r_met (own := RX12) (by decide +kernel) rfl (Nat.le_of_ble_eq_true rfl) ?_
  intro p e s m args below meth c C hr hlk hnm H ls hl hM
  obtain ⟨hx, hb, hml, hown, hts, -, -⟩ := id C
  have hl : lv_has ls 5 [(0, .ref h0)] := hl
  have hF : fr [12, 13] R R := fr.rf
  have hI0 := hI
  have t_m1 : (-1 : Int32).toInt = -1 := by decide
  have t_0 : (0 : Int32).toInt = 0 := by decide
  have t_1 : (1 : Int32).toInt = 1 := by decide
  have t_30 : (30 : Int32).toInt = 30 := by decide
  have fm := RI.many hI 30
  refine lv_aload_n hx hb dX12_measure_0 rfl (lv_at hl 0 rfl) ?_
  refine rr_getA (k := 10) (j := 2) C hM f_X12_20 rfl rfl dX12_measure_1 ?_
  refine lv_bipush (v := 30) hx hb dX12_measure_4 (by decide) ?_
  refine rr_ldI (j := 2) (k := 10) (n := 31) (v := rA R 10 30) C hM rfl rfl rfl (inI (by omega) (by show _ < (31 : Int); omega)) (congrFun (hF.gA 10 (by decide)) 30) dX12_measure_6 ?_
  refine lv_topi (fun xv1 exv1 => ?_)
  have mxv1 : xv1.toInt = (rA R 10 30).toInt := by rw [exv1]
  have fxv1 := RI.many hI0 30; rw [← exv1] at fxv1
  refine lv_istore_n (lv' := [(1, .int xv1), (0, .ref h0)]) hx hb dX12_measure_7 rfl hl (by decide) rfl (fun ls hl => ?_)
  refine lv_iload_n hx hb dX12_measure_8 rfl (lv_at hl 0 rfl) ?_
  refine lv_iconst (v := 1) hx hb dX12_measure_9 (by decide) ?_
  refine lv_isub hx hb dX12_measure_10 ?_
  refine lv_topi (fun xv2 exv2 => ?_)
  try (have txv2 := subI (a := xv1) (b := 1) (by omega) (by omega); rw [← exv2] at txv2)
  refine lv_istore_n (lv' := [(2, .int xv2), (1, .int xv1), (0, .ref h0)]) hx hb dX12_measure_11 rfl hl (by decide) rfl (fun ls hl => ?_)
  have loop12 : ∀ (fu : Nat) (pz : Int32) (Ra : RS) (H : Heap) (locs : List Loc) (ls : Array Slot), (fr [12, 13] R Ra) → (RI Ra) → (∀ q : Nat, pz.toInt < q → (q : Int) < (rA R 10 30).toInt → PQ Ra 30 q) → (-1 ≤ pz.toInt ∧ pz.toInt < (rA R 10 30).toInt) → (pz.toInt + 1).toNat < fu → lv_has ls 5 [(0, .ref h0), (1, .int xv1), (2, .int pz)] → mH D H0 (rM h0 Ra) kc ns H locs → W p l e ({ frames := 2, cells := 0, slots := 0, locals := 45 } : Room) s m args below meth c H locs 0 0 (MQ below (mQ D H0 gV (fun r S1 k1 n1 => kc = k1 ∧ ns = n1 ∧ ∃ R1, S1 = rM h0 R1 ∧ fr [12, 13] R R1 ∧ RI R1 ∧ PG R1 30)) args s 0 0 (mF H0)) (F0 m 12 ls []) := by
    intro fu
    induction fu with
    | zero => intro pz Ra H locs ls h12_0 h12_1 h12_2 h12_3 hfu; exact absurd hfu (by omega)
    | succ fu ih12 =>
      intro pz Ra H locs ls h12_0 h12_1 h12_2 h12_3 hfu hl hM
      have hF := h12_0
      have hI := h12_1
      refine lv_iload_n hx hb dX12_measure_12 rfl (lv_at hl 2 rfl) ?_
      refine lv_if_lt (tgt := 158) hx hb dX12_measure_13 (by decide) (fun cv3 => ?_) (fun cv3 => ?_)
      · have tcv3 := ltT cv3
        have zv4 : (rA Ra 10 30).toInt = (rA R 10 30).toInt := by rw [hF.gA 10 (by decide)]
        have zz : (rA Ra 10 30).toInt = (rA R 10 30).toInt := by rw [hF.gA 10 (by decide)]
        exact r_retV C hr hlk hM (⟨rfl, rfl, _, rfl, hF, hI, fun q hq => ⟨PTs.fr hP hF (by decide) q hq, h12_2 q (by omega) (by omega)⟩⟩) dX12_measure_158
      · have tcv3 := ltF cv3
        refine lv_bipush (v := 30) hx hb dX12_measure_16 (by decide) ?_
        refine lv_iload_n hx hb dX12_measure_18 rfl (lv_at hl 2 rfl) ?_
        have zv5 : (rA Ra 10 30).toInt = (rA R 10 30).toInt := by rw [hF.gA 10 (by decide)]
        refine r_S (As := [.int 30, .int pz]) (rest := []) C hM (c_X12_spot l D H0 (rM h0 Ra) kc ns 30 pz (by omega) (by omega) (by omega) (by omega)) i_X12_spot m_X12_151 rfl hl.1 rfl (Nat.le_of_ble_eq_true rfl) ⟨by decide, by decide⟩ ⟨by decide, by decide⟩ dX12_measure_19 (fun xv9 Sv6 kv7 nv8 H locs pv10 hM => ?_)
        obtain ⟨rfl, rfl, rfl, hxv9⟩ := pv10
        refine W.eq (g2 := F0 m 22 ls [.int xv9]) rfl ?_
        refine lv_istore_n (lv' := [(3, .int xv9), (0, .ref h0), (1, .int xv1), (2, .int pz)]) hx hb dX12_measure_22 rfl hl (by decide) rfl (fun ls hl => ?_)
        refine lv_aload_n hx hb dX12_measure_23 rfl (lv_at hl 1 rfl) ?_
        refine rr_getA (k := 12) (j := 4) C hM f_X12_27 rfl rfl dX12_measure_24 ?_
        refine lv_iload_n hx hb dX12_measure_27 rfl (lv_at hl 0 rfl) ?_
        refine lv_iconst (v := 1) hx hb dX12_measure_28 (by decide) ?_
        refine rr_stI (j := 4) (k := 12) (n := 1860) (i := xv9) (x := (1 : Int32)) C hM rfl rfl rfl (inI (by omega) (by show _ < (1860 : Int); omega)) dX12_measure_29 (fun H locs hM => ?_)
        have hM : mH D H0 (rM h0 (uA Ra 12 xv9.toNatClampNeg (1 : Int32))) kc ns H locs := hM
        have hF : fr [12, 13] R (uA Ra 12 xv9.toNatClampNeg (1 : Int32)) := hF.A (by decide)
        have hI : RI (uA Ra 12 xv9.toNatClampNeg (1 : Int32)) := hI.st12 (cl18 (by omega))
        have hw9 : (rA (uA Ra 12 xv9.toNatClampNeg (1 : Int32)) 12 xv9.toNatClampNeg).toInt = (1 : Int32).toInt := congrArg Int32.toInt u2e
        refine lv_iload_n hx hb dX12_measure_30 rfl (lv_at hl 3 rfl) ?_
        refine lv_iconst (v := 1) hx hb dX12_measure_31 (by decide) ?_
        refine lv_iadd hx hb dX12_measure_32 ?_
        refine lv_topi (fun xv11 exv11 => ?_)
        try (have txv11 := addI (a := pz) (b := 1) (by omega) (by omega); rw [← exv11] at txv11)
        refine lv_istore (lv' := [(4, .int xv11), (3, .int xv9), (0, .ref h0), (1, .int xv1), (2, .int pz)]) hx hb dX12_measure_33 hl (by decide) rfl (fun ls hl => ?_)
        have zv12 : (rA (uA Ra 12 xv9.toNatClampNeg (1 : Int32)) 10 30).toInt = (rA R 10 30).toInt := by rw [hF.gA 10 (by decide)]
        have loop35 : ∀ (fu : Nat) (qz : Int32) (Rb : RS) (H : Heap) (locs : List Loc) (ls : Array Slot), (fr [12, 13] R Rb) → (RI Rb) → (∀ q : Nat, pz.toInt < q → (q : Int) < (rA R 10 30).toInt → PQ Rb 30 q) → (1 ≤ (rA Rb 12 xv9.toNatClampNeg).toInt ∧ (rA Rb 12 xv9.toNatClampNeg).toInt ≤ qz.toInt - pz.toInt) → (pz.toInt < qz.toInt ∧ qz.toInt ≤ (rA R 10 30).toInt) → (60 - qz.toInt).toNat < fu → lv_has ls 5 [(0, .ref h0), (1, .int xv1), (2, .int pz), (3, .int xv9), (4, .int qz)] → mH D H0 (rM h0 Rb) kc ns H locs → W p l e ({ frames := 2, cells := 0, slots := 0, locals := 45 } : Room) s m args below meth c H locs 0 0 (MQ below (mQ D H0 gV (fun r S1 k1 n1 => kc = k1 ∧ ns = n1 ∧ ∃ R1, S1 = rM h0 R1 ∧ fr [12, 13] R R1 ∧ RI R1 ∧ PG R1 30)) args s 0 0 (mF H0)) (F0 m 35 ls []) := by
          intro fu
          induction fu with
          | zero => intro qz Rb H locs ls h35_0 h35_1 h35_2 h35_3 h35_4 hfu; exact absurd hfu (by omega)
          | succ fu ih35 =>
            intro qz Rb H locs ls h35_0 h35_1 h35_2 h35_3 h35_4 hfu hl hM
            have hF := h35_0
            have hI := h35_1
            have zb : (rA Rb 10 30).toInt = (rA R 10 30).toInt := by rw [hF.gA 10 (by decide)]
            refine lv_iload hx hb dX12_measure_35 (lv_at hl 4 rfl) ?_
            refine lv_iload_n hx hb dX12_measure_37 rfl (lv_at hl 1 rfl) ?_
            refine lv_icmp_ge (tgt := 73) hx hb dX12_measure_38 (by decide) (fun cv13 => ?_) (fun cv13 => ?_)
            · have tcv13 := leT cv13
              refine lv_aload_n hx hb dX12_measure_73 rfl (lv_at hl 0 rfl) ?_
              refine rr_getA (k := 13) (j := 5) C hM f_X12_30 rfl rfl dX12_measure_74 ?_
              refine lv_iload_n hx hb dX12_measure_77 rfl (lv_at hl 3 rfl) ?_
              refine lv_iconst (v := 0) hx hb dX12_measure_78 (by decide) ?_
              refine rr_stI (j := 5) (k := 13) (n := 1860) (i := xv9) (x := (0 : Int32)) C hM rfl rfl rfl (inI (by omega) (by show _ < (1860 : Int); omega)) dX12_measure_79 (fun H locs hM => ?_)
              have hM : mH D H0 (rM h0 (uA Rb 13 xv9.toNatClampNeg (0 : Int32))) kc ns H locs := hM
              have hF : fr [12, 13] R (uA Rb 13 xv9.toNatClampNeg (0 : Int32)) := hF.A (by decide)
              have hI : RI (uA Rb 13 xv9.toNatClampNeg (0 : Int32)) := hI.fr (L := [13]) (fr.rf.A (by decide)) (by decide)
              refine lv_iconst (v := 0) hx hb dX12_measure_80 (by decide) ?_
              refine lv_istore (lv' := [(4, .int 0), (0, .ref h0), (1, .int xv1), (2, .int pz), (3, .int xv9)]) hx hb dX12_measure_81 hl (by decide) rfl (fun ls hl => ?_)
              have zv14 : (rA (uA Rb 13 xv9.toNatClampNeg (0 : Int32)) 10 30).toInt = (rA R 10 30).toInt := by rw [hF.gA 10 (by decide)]
              have loop83 : ∀ (fu : Nat) (qy : Int32) (Rc : RS) (H : Heap) (locs : List Loc) (ls : Array Slot), (fr [12, 13] R Rc) → (RI Rc) → (∀ q : Nat, pz.toInt ≤ q → (q : Int) < (rA R 10 30).toInt → PQ Rc 30 q) → (0 ≤ qy.toInt) → (60 - qy.toInt).toNat < fu → lv_has ls 5 [(0, .ref h0), (1, .int xv1), (2, .int pz), (3, .int xv9), (4, .int qy)] → mH D H0 (rM h0 Rc) kc ns H locs → W p l e ({ frames := 2, cells := 0, slots := 0, locals := 45 } : Room) s m args below meth c H locs 0 0 (MQ below (mQ D H0 gV (fun r S1 k1 n1 => kc = k1 ∧ ns = n1 ∧ ∃ R1, S1 = rM h0 R1 ∧ fr [12, 13] R R1 ∧ RI R1 ∧ PG R1 30)) args s 0 0 (mF H0)) (F0 m 83 ls []) := by
                intro fu
                induction fu with
                | zero => intro qy Rc H locs ls h83_0 h83_1 h83_2 h83_3 hfu; exact absurd hfu (by omega)
                | succ fu ih83 =>
                  intro qy Rc H locs ls h83_0 h83_1 h83_2 h83_3 hfu hl hM
                  have hF := h83_0
                  have hI := h83_1
                  refine lv_iload hx hb dX12_measure_83 (lv_at hl 4 rfl) ?_
                  refine lv_iload_n hx hb dX12_measure_85 rfl (lv_at hl 2 rfl) ?_
                  refine lv_icmp_ge (tgt := 152) hx hb dX12_measure_86 (by decide) (fun cv15 => ?_) (fun cv15 => ?_)
                  · have tcv15 := leT cv15
                    obtain ⟨xv16, exv16⟩ : ∃ y : Int32, y = pz + (-1) := ⟨_, rfl⟩
                    try (have txv16 := addI (a := pz) (b := (-1)) (by omega) (by omega); rw [← exv16] at txv16)
                    refine lv_iinc (v := xv16) (lv' := [(2, .int xv16), (0, .ref h0), (1, .int xv1), (3, .int xv9), (4, .int qy)]) hx hb dX12_measure_152 hl (k := 2) rfl (by rw [exv16]; rfl) (by decide) rfl (fun ls hl => ?_)
                    refine lv_goto (tgt := 12) hx hb dX12_measure_155 (by decide) ?_
                    have zv17 : (rA Rc 10 30).toInt = (rA R 10 30).toInt := by rw [hF.gA 10 (by decide)]
                    exact ih12 xv16 Rc _ _ _ (hF) (hI) (fun q h1 h2 => h83_2 q (by omega) h2) (by omega) (by omega) (lv_sub hl [1, 2, 0] rfl) hM
                  · have tcv15 := leF cv15
                    refine lv_aload_n hx hb dX12_measure_89 rfl (lv_at hl 0 rfl) ?_
                    refine rr_getA (k := 13) (j := 5) C hM f_X12_30 rfl rfl dX12_measure_90 ?_
                    refine lv_iload_n hx hb dX12_measure_93 rfl (lv_at hl 3 rfl) ?_
                    refine lv_dup2_11 hx hb dX12_measure_94 rfl rfl ?_
                    refine rr_ldI (j := 5) (k := 13) (n := 1860) (v := rA Rc 13 xv9.toNatClampNeg) C hM rfl rfl rfl (inI (by omega) (by show _ < (1860 : Int); omega)) rfl dX12_measure_95 ?_
                    refine lv_topi (fun xv18 exv18 => ?_)
                    refine lv_aload_n hx hb dX12_measure_96 rfl (lv_at hl 0 rfl) ?_
                    refine rr_getA (k := 11) (j := 3) C hM f_X12_24 rfl rfl dX12_measure_97 ?_
                    refine lv_bipush (v := 30) hx hb dX12_measure_100 (by decide) ?_
                    refine lv_iload hx hb dX12_measure_102 (lv_at hl 4 rfl) ?_
                    have zv19 : (rA Rc 10 30).toInt = (rA R 10 30).toInt := by rw [hF.gA 10 (by decide)]
                    refine r_S (As := [.int 30, .int qy]) (rest := [.ref (h0 + 1 + 3), .int xv18, .int xv9, .ref (h0 + 1 + 5)]) C hM (c_X12_spot l D H0 (rM h0 Rc) kc ns 30 qy (by omega) (by omega) (by omega) (by omega)) i_X12_spot m_X12_151 rfl hl.1 rfl (Nat.le_of_ble_eq_true rfl) ⟨by decide, by decide⟩ ⟨by decide, by decide⟩ dX12_measure_104 (fun xv23 Sv20 kv21 nv22 H locs pv24 hM => ?_)
                    obtain ⟨rfl, rfl, rfl, hxv23⟩ := pv24
                    refine W.eq (g2 := F0 m 107 ls [.int xv23, .ref (h0 + 1 + 3), .int xv18, .int xv9, .ref (h0 + 1 + 5)]) rfl ?_
                    refine rr_ldI (j := 3) (k := 11) (n := 1860) (v := rA R 11 xv23.toNatClampNeg) C hM rfl rfl rfl (inI (by omega) (by show _ < (1860 : Int); omega)) (congrFun (hF.gA 11 (by decide)) xv23.toNatClampNeg) dX12_measure_107 ?_
                    refine lv_topi (fun xv25 exv25 => ?_)
                    try (have fxv25 := PG.at11 hI0 (g := (30 : Int32)) (p := qy) (x := xv23) (by omega) (by omega) (by omega) (by omega) (by omega); rw [← exv25] at fxv25)
                    refine lv_aload_n hx hb dX12_measure_108 rfl (lv_at hl 0 rfl) ?_
                    refine rr_getA (k := 11) (j := 3) C hM f_X12_24 rfl rfl dX12_measure_109 ?_
                    refine lv_iload_n hx hb dX12_measure_112 rfl (lv_at hl 3 rfl) ?_
                    refine rr_ldI (j := 3) (k := 11) (n := 1860) (v := rA R 11 xv9.toNatClampNeg) C hM rfl rfl rfl (inI (by omega) (by show _ < (1860 : Int); omega)) (congrFun (hF.gA 11 (by decide)) xv9.toNatClampNeg) dX12_measure_113 ?_
                    refine lv_topi (fun xv26 exv26 => ?_)
                    try (have fxv26 := PG.at11 hI0 (g := (30 : Int32)) (p := pz) (x := xv9) (by omega) (by omega) (by omega) (by omega) (by omega); rw [← exv26] at fxv26)
                    refine lv_icmp_ne (tgt := 143) hx hb dX12_measure_114 (by decide) (fun cv27 => ?_) (fun cv27 => ?_)
                    · have tcv27 := eqF cv27
                      refine lv_iconst (v := 0) hx hb dX12_measure_143 (by decide) ?_
                      refine lv_iadd hx hb dX12_measure_144 ?_
                      refine lv_topi (fun xv28 exv28 => ?_)
                      try (have txv28 := addI (a := xv18) (b := 0) (by omega) (by omega); rw [← exv28] at txv28)
                      refine rr_stI (j := 5) (k := 13) (n := 1860) (i := xv9) (x := xv28) C hM rfl rfl rfl (inI (by omega) (by show _ < (1860 : Int); omega)) dX12_measure_145 (fun H locs hM => ?_)
                      have hM : mH D H0 (rM h0 (uA Rc 13 xv9.toNatClampNeg xv28)) kc ns H locs := hM
                      have hF : fr [12, 13] R (uA Rc 13 xv9.toNatClampNeg xv28) := hF.A (by decide)
                      have hI : RI (uA Rc 13 xv9.toNatClampNeg xv28) := hI.fr (L := [13]) (fr.rf.A (by decide)) (by decide)
                      obtain ⟨xv29, exv29⟩ : ∃ y : Int32, y = qy + 1 := ⟨_, rfl⟩
                      try (have txv29 := addI (a := qy) (b := 1) (by omega) (by omega); rw [← exv29] at txv29)
                      refine lv_iinc (v := xv29) (lv' := [(4, .int xv29), (0, .ref h0), (1, .int xv1), (2, .int pz), (3, .int xv9)]) hx hb dX12_measure_146 hl (k := 4) rfl (by rw [exv29]; rfl) (by decide) rfl (fun ls hl => ?_)
                      refine lv_goto (tgt := 83) hx hb dX12_measure_149 (by decide) ?_
                      have zv30 : (rA (uA Rc 13 xv9.toNatClampNeg xv28) 10 30).toInt = (rA R 10 30).toInt := by rw [hF.gA 10 (by decide)]
                      exact ih83 xv29 (uA Rc 13 xv9.toNatClampNeg xv28) _ _ _ (hF) (hI) (fun q h1 h2 => h83_2 q h1 h2) (by omega) (by omega) (lv_sub hl [1, 2, 3, 4, 0] rfl) hM
                    · have tcv27 := eqT cv27
                      refine lv_aload_n hx hb dX12_measure_117 rfl (lv_at hl 0 rfl) ?_
                      refine rr_getA (k := 17) (j := 9) C hM f_X12_42 rfl rfl dX12_measure_118 ?_
                      refine lv_bipush (v := 30) hx hb dX12_measure_121 (by decide) ?_
                      refine lv_iload hx hb dX12_measure_123 (lv_at hl 4 rfl) ?_
                      have zv31 : (rA Rc 10 30).toInt = (rA R 10 30).toInt := by rw [hF.gA 10 (by decide)]
                      refine r_S (As := [.int 30, .int qy]) (rest := [.ref (h0 + 1 + 9), .int xv18, .int xv9, .ref (h0 + 1 + 5)]) C hM (c_X12_spot l D H0 (rM h0 Rc) kc ns 30 qy (by omega) (by omega) (by omega) (by omega)) i_X12_spot m_X12_151 rfl hl.1 rfl (Nat.le_of_ble_eq_true rfl) ⟨by decide, by decide⟩ ⟨by decide, by decide⟩ dX12_measure_125 (fun xv35 Sv32 kv33 nv34 H locs pv36 hM => ?_)
                      obtain ⟨rfl, rfl, rfl, hxv35⟩ := pv36
                      refine W.eq (g2 := F0 m 128 ls [.int xv35, .ref (h0 + 1 + 9), .int xv18, .int xv9, .ref (h0 + 1 + 5)]) rfl ?_
                      refine rr_ldJ (j := 9) (k := 17) (n := 1860) (v := rB R 17 xv35.toNatClampNeg) C hM rfl rfl rfl (inI (by omega) (by show _ < (1860 : Int); omega)) (congrFun (hF.gB 17 (by decide)) xv35.toNatClampNeg) dX12_measure_128 ?_
                      refine lv_topl (fun lv37 elv37 => ?_)
                      refine lv_aload_n hx hb dX12_measure_129 rfl (lv_at hl 0 rfl) ?_
                      refine rr_getA (k := 17) (j := 9) C hM f_X12_42 rfl rfl dX12_measure_130 ?_
                      refine lv_iload_n hx hb dX12_measure_133 rfl (lv_at hl 3 rfl) ?_
                      refine rr_ldJ (j := 9) (k := 17) (n := 1860) (v := rB R 17 xv9.toNatClampNeg) C hM rfl rfl rfl (inI (by omega) (by show _ < (1860 : Int); omega)) (congrFun (hF.gB 17 (by decide)) xv9.toNatClampNeg) dX12_measure_134 ?_
                      refine lv_topl (fun lv38 elv38 => ?_)
                      refine W.lcmp hx hb dX12_measure_135 ?_
                      refine lv_topi (fun xv39 exv39 => ?_)
                      refine lv_if_ne (tgt := 143) hx hb dX12_measure_136 (by decide) (fun cv40 => ?_) (fun cv40 => ?_)
                      · have tcv40 := eqF cv40
                        refine lv_iconst (v := 0) hx hb dX12_measure_143 (by decide) ?_
                        refine lv_iadd hx hb dX12_measure_144 ?_
                        refine lv_topi (fun xv41 exv41 => ?_)
                        try (have txv41 := addI (a := xv18) (b := 0) (by omega) (by omega); rw [← exv41] at txv41)
                        refine rr_stI (j := 5) (k := 13) (n := 1860) (i := xv9) (x := xv41) C hM rfl rfl rfl (inI (by omega) (by show _ < (1860 : Int); omega)) dX12_measure_145 (fun H locs hM => ?_)
                        have hM : mH D H0 (rM h0 (uA Rc 13 xv9.toNatClampNeg xv41)) kc ns H locs := hM
                        have hF : fr [12, 13] R (uA Rc 13 xv9.toNatClampNeg xv41) := hF.A (by decide)
                        have hI : RI (uA Rc 13 xv9.toNatClampNeg xv41) := hI.fr (L := [13]) (fr.rf.A (by decide)) (by decide)
                        obtain ⟨xv42, exv42⟩ : ∃ y : Int32, y = qy + 1 := ⟨_, rfl⟩
                        try (have txv42 := addI (a := qy) (b := 1) (by omega) (by omega); rw [← exv42] at txv42)
                        refine lv_iinc (v := xv42) (lv' := [(4, .int xv42), (0, .ref h0), (1, .int xv1), (2, .int pz), (3, .int xv9)]) hx hb dX12_measure_146 hl (k := 4) rfl (by rw [exv42]; rfl) (by decide) rfl (fun ls hl => ?_)
                        refine lv_goto (tgt := 83) hx hb dX12_measure_149 (by decide) ?_
                        have zv43 : (rA (uA Rc 13 xv9.toNatClampNeg xv41) 10 30).toInt = (rA R 10 30).toInt := by rw [hF.gA 10 (by decide)]
                        exact ih83 xv42 (uA Rc 13 xv9.toNatClampNeg xv41) _ _ _ (hF) (hI) (fun q h1 h2 => h83_2 q h1 h2) (by omega) (by omega) (lv_sub hl [1, 2, 3, 4, 0] rfl) hM
                      · have tcv40 := eqT cv40
                        refine lv_iconst (v := 1) hx hb dX12_measure_139 (by decide) ?_
                        refine lv_goto (tgt := 144) hx hb dX12_measure_140 (by decide) ?_
                        refine lv_iadd hx hb dX12_measure_144 ?_
                        refine lv_topi (fun xv44 exv44 => ?_)
                        try (have txv44 := addI (a := xv18) (b := 1) (by omega) (by omega); rw [← exv44] at txv44)
                        refine rr_stI (j := 5) (k := 13) (n := 1860) (i := xv9) (x := xv44) C hM rfl rfl rfl (inI (by omega) (by show _ < (1860 : Int); omega)) dX12_measure_145 (fun H locs hM => ?_)
                        have hM : mH D H0 (rM h0 (uA Rc 13 xv9.toNatClampNeg xv44)) kc ns H locs := hM
                        have hF : fr [12, 13] R (uA Rc 13 xv9.toNatClampNeg xv44) := hF.A (by decide)
                        have hI : RI (uA Rc 13 xv9.toNatClampNeg xv44) := hI.fr (L := [13]) (fr.rf.A (by decide)) (by decide)
                        obtain ⟨xv45, exv45⟩ : ∃ y : Int32, y = qy + 1 := ⟨_, rfl⟩
                        try (have txv45 := addI (a := qy) (b := 1) (by omega) (by omega); rw [← exv45] at txv45)
                        refine lv_iinc (v := xv45) (lv' := [(4, .int xv45), (0, .ref h0), (1, .int xv1), (2, .int pz), (3, .int xv9)]) hx hb dX12_measure_146 hl (k := 4) rfl (by rw [exv45]; rfl) (by decide) rfl (fun ls hl => ?_)
                        refine lv_goto (tgt := 83) hx hb dX12_measure_149 (by decide) ?_
                        have zv46 : (rA (uA Rc 13 xv9.toNatClampNeg xv44) 10 30).toInt = (rA R 10 30).toInt := by rw [hF.gA 10 (by decide)]
                        exact ih83 xv45 (uA Rc 13 xv9.toNatClampNeg xv44) _ _ _ (hF) (hI) (fun q h1 h2 => h83_2 q h1 h2) (by omega) (by omega) (lv_sub hl [1, 2, 3, 4, 0] rfl) hM
              have zv47 : (rA (uA Rb 13 xv9.toNatClampNeg (0 : Int32)) 10 30).toInt = (rA R 10 30).toInt := by rw [hF.gA 10 (by decide)]
              exact loop83 (((60 - (0 : Int32).toInt).toNat) + 1) 0 (uA Rb 13 xv9.toNatClampNeg (0 : Int32)) _ _ _ (hF) (hI) (fun q h1 h2 => if e : (q : Int) = pz.toInt then (PQ.here (R := Rb) (s := xv9 ) (p := pz) (by omega) (by omega) (by omega) (by omega) e : PQ Rb 30 q) else h35_2 q (by omega) h2) (by omega) (by omega) (lv_sub hl [1, 2, 3, 4, 0] rfl) hM
            · have tcv13 := leF cv13
              refine lv_aload_n hx hb dX12_measure_41 rfl (lv_at hl 0 rfl) ?_
              refine rr_getA (k := 12) (j := 4) C hM f_X12_27 rfl rfl dX12_measure_42 ?_
              refine lv_iload_n hx hb dX12_measure_45 rfl (lv_at hl 3 rfl) ?_
              refine lv_dup2_11 hx hb dX12_measure_46 rfl rfl ?_
              refine rr_ldI (j := 4) (k := 12) (n := 1860) (v := rA Rb 12 xv9.toNatClampNeg) C hM rfl rfl rfl (inI (by omega) (by show _ < (1860 : Int); omega)) rfl dX12_measure_47 ?_
              refine lv_topi (fun xv48 exv48 => ?_)
              have mxv48 : xv48.toInt = (rA Rb 12 xv9.toNatClampNeg).toInt := by rw [exv48]
              refine lv_aload_n hx hb dX12_measure_48 rfl (lv_at hl 0 rfl) ?_
              refine lv_bipush (v := 30) hx hb dX12_measure_49 (by decide) ?_
              refine lv_iload hx hb dX12_measure_51 (lv_at hl 4 rfl) ?_
              refine lv_iload_n hx hb dX12_measure_53 rfl (lv_at hl 2 rfl) ?_
              have zv49 : (rA Rb 10 30).toInt = (rA R 10 30).toInt := by rw [hF.gA 10 (by decide)]
              refine r_V (As := [.int 30, .int qz, .int pz]) (rest := [.int xv48, .int xv9, .ref (h0 + 1 + 4)]) (ci := 12) C hM (c_X12_isUnder l D H0 h0 Rb kc ns 30 qz pz hI (by omega) (PTs.fr hP hF (by decide)) (by omega) (by rw [hF.gA 10 (by decide)]; omega)) i_X12_isUnder m_X12_164 rK0 rfl rfl rfl hl.1 rfl (Nat.le_of_ble_eq_true rfl) ⟨by decide, by decide⟩ ⟨by decide, by decide⟩ dX12_measure_54 (fun xv53 Sv50 kv51 nv52 H locs pv54 hM => ?_)
              obtain ⟨rfl, rfl, rfl, hxv53⟩ := pv54
              refine W.eq (g2 := F0 m 57 ls [.int xv53, .int xv48, .int xv9, .ref (h0 + 1 + 4)]) rfl ?_
              refine lv_if_eq (tgt := 64) hx hb dX12_measure_57 (by decide) (fun cv55 => ?_) (fun cv55 => ?_)
              · have tcv55 := eqT cv55
                refine lv_iconst (v := 0) hx hb dX12_measure_64 (by decide) ?_
                refine lv_iadd hx hb dX12_measure_65 ?_
                refine lv_topi (fun xv56 exv56 => ?_)
                try (have txv56 := addI (a := xv48) (b := 0) (by omega) (by omega); rw [← exv56] at txv56)
                refine rr_stI (j := 4) (k := 12) (n := 1860) (i := xv9) (x := xv56) C hM rfl rfl rfl (inI (by omega) (by show _ < (1860 : Int); omega)) dX12_measure_66 (fun H locs hM => ?_)
                have hM : mH D H0 (rM h0 (uA Rb 12 xv9.toNatClampNeg xv56)) kc ns H locs := hM
                have hF : fr [12, 13] R (uA Rb 12 xv9.toNatClampNeg xv56) := hF.A (by decide)
                have hI : RI (uA Rb 12 xv9.toNatClampNeg xv56) := hI.st12 (cl18 (by omega))
                have hw9 : (rA (uA Rb 12 xv9.toNatClampNeg xv56) 12 xv9.toNatClampNeg).toInt = (xv56 : Int32).toInt := congrArg Int32.toInt u2e
                obtain ⟨xv57, exv57⟩ : ∃ y : Int32, y = qz + 1 := ⟨_, rfl⟩
                try (have txv57 := addI (a := qz) (b := 1) (by omega) (by omega); rw [← exv57] at txv57)
                refine lv_iinc (v := xv57) (lv' := [(4, .int xv57), (0, .ref h0), (1, .int xv1), (2, .int pz), (3, .int xv9)]) hx hb dX12_measure_67 hl (k := 4) rfl (by rw [exv57]; rfl) (by decide) rfl (fun ls hl => ?_)
                refine lv_goto (tgt := 35) hx hb dX12_measure_70 (by decide) ?_
                have zv58 : (rA (uA Rb 12 xv9.toNatClampNeg xv56) 10 30).toInt = (rA R 10 30).toInt := by rw [hF.gA 10 (by decide)]
                exact ih35 xv57 (uA Rb 12 xv9.toNatClampNeg xv56) _ _ _ (hF) (hI) (fun q h1 h2 => (h35_2 q h1 h2).st (by have h7 := clI (x := xv9 ) (by omega); omega)) (by omega) (by omega) (by omega) (lv_sub hl [1, 2, 3, 4, 0] rfl) hM
              · have tcv55 := eqF cv55
                refine lv_iconst (v := 1) hx hb dX12_measure_60 (by decide) ?_
                refine lv_goto (tgt := 65) hx hb dX12_measure_61 (by decide) ?_
                refine lv_iadd hx hb dX12_measure_65 ?_
                refine lv_topi (fun xv59 exv59 => ?_)
                try (have txv59 := addI (a := xv48) (b := 1) (by omega) (by omega); rw [← exv59] at txv59)
                refine rr_stI (j := 4) (k := 12) (n := 1860) (i := xv9) (x := xv59) C hM rfl rfl rfl (inI (by omega) (by show _ < (1860 : Int); omega)) dX12_measure_66 (fun H locs hM => ?_)
                have hM : mH D H0 (rM h0 (uA Rb 12 xv9.toNatClampNeg xv59)) kc ns H locs := hM
                have hF : fr [12, 13] R (uA Rb 12 xv9.toNatClampNeg xv59) := hF.A (by decide)
                have hI : RI (uA Rb 12 xv9.toNatClampNeg xv59) := hI.st12 (cl18 (by omega))
                have hw9 : (rA (uA Rb 12 xv9.toNatClampNeg xv59) 12 xv9.toNatClampNeg).toInt = (xv59 : Int32).toInt := congrArg Int32.toInt u2e
                obtain ⟨xv60, exv60⟩ : ∃ y : Int32, y = qz + 1 := ⟨_, rfl⟩
                try (have txv60 := addI (a := qz) (b := 1) (by omega) (by omega); rw [← exv60] at txv60)
                refine lv_iinc (v := xv60) (lv' := [(4, .int xv60), (0, .ref h0), (1, .int xv1), (2, .int pz), (3, .int xv9)]) hx hb dX12_measure_67 hl (k := 4) rfl (by rw [exv60]; rfl) (by decide) rfl (fun ls hl => ?_)
                refine lv_goto (tgt := 35) hx hb dX12_measure_70 (by decide) ?_
                have zv61 : (rA (uA Rb 12 xv9.toNatClampNeg xv59) 10 30).toInt = (rA R 10 30).toInt := by rw [hF.gA 10 (by decide)]
                exact ih35 xv60 (uA Rb 12 xv9.toNatClampNeg xv59) _ _ _ (hF) (hI) (fun q h1 h2 => (h35_2 q h1 h2).st (by have h7 := clI (x := xv9 ) (by omega); omega)) (by omega) (by omega) (by omega) (lv_sub hl [1, 2, 3, 4, 0] rfl) hM
        have zv62 : (rA (uA Ra 12 xv9.toNatClampNeg (1 : Int32)) 10 30).toInt = (rA R 10 30).toInt := by rw [hF.gA 10 (by decide)]
        exact loop35 (((60 - xv11.toInt).toNat) + 1) xv11 (uA Ra 12 xv9.toNatClampNeg (1 : Int32)) _ _ _ (hF) (hI) (fun q h1 h2 => (h12_2 q h1 h2).st (by have h7 := clI (x := xv9 ) (by omega); omega)) (by omega) (by omega) (by omega) (lv_sub hl [2, 3, 4, 1, 0] rfl) hM
  exact loop12 (((xv2.toInt + 1).toNat) + 1) xv2 R _ _ _ (hF) (hI) (fun q h1 h2 => absurd h2 (by omega)) (by omega) (by omega) (lv_sub hl [2, 1, 0] rfl) hM
