set_option maxHeartbeats 4000000 in
set_option maxRecDepth 100000 in
theorem c_X12_next (l : Launch) (D : gD) (H0 : gB) (h0 : Nat) (R : RS) (kc ns : Nat) (hI : RI R) (a0 : 0 ≤ (rI R 7).toInt) (a1 : (rI R 7).toInt ≤ 1601)  : Met l yX12_next (wsU yX12_next cX12_next 3 none) ({ frames := 1, cells := 0, slots := 0, locals := 21 } : Room) (mP D H0 (rM h0 R) kc ns [.ref h0]) (mQ D H0 gV (fun r S1 k1 n1 => kc = k1 ∧ ns = n1 ∧ ∃ R1, S1 = rM h0 R1 ∧ fr [6, 7, 8, 9] R R1 ∧ (0 ≤ (rI R1 6).toInt ∧ (rI R1 6).toInt ≤ 1600 ∧ 0 ≤ (rI R1 7).toInt ∧ (rI R1 7).toInt ≤ 1601 ∧ (¬ (rI R1 8).toInt = 3 ∨ (2 ≤ (rI R1 7).toInt - (rI R1 6).toInt ∧ (rI R1 7).toInt - (rI R1 6).toInt ≤ 18 ∧ (rI R1 7).toInt ≤ (rI R 3).toInt))))) 0 0 (mF H0) := by
  refine r_met (own := RX12) (by decide +kernel) rfl (Nat.le_of_ble_eq_true rfl) ?_
  intro p e s m args below meth c C hr hlk hnm H ls hl hM
  obtain ⟨hx, hb, hml, hown, hts, -, -⟩ := id C
  have hl : lv_has ls 3 [(0, .ref h0)] := hl
  have hF : fr [6, 7, 8, 9] R R := fr.rf
  have hI0 := hI
  have t_0 : (0 : Int32).toInt = 0 := by decide
  have t_1 : (1 : Int32).toInt = 1 := by decide
  have t_2 : (2 : Int32).toInt = 2 := by decide
  have t_3 : (3 : Int32).toInt = 3 := by decide
  have t_4 : (4 : Int32).toInt = 4 := by decide
  have t_8 : (8 : Int32).toInt = 8 := by decide
  have t_10 : (10 : Int32).toInt = 10 := by decide
  have t_16 : (16 : Int32).toInt = 16 := by decide
  have t_32 : (32 : Int32).toInt = 32 := by decide
  have t_33 : (33 : Int32).toInt = 33 := by decide
  have t_34 : (34 : Int32).toInt = 34 := by decide
  have t_35 : (35 : Int32).toInt = 35 := by decide
  have t_40 : (40 : Int32).toInt = 40 := by decide
  have t_41 : (41 : Int32).toInt = 41 := by decide
  have t_127 : (127 : Int32).toInt = 127 := by decide
  have fz := RI.size hI
  have join58 : ∀ (Rj : RS) (H : Heap) (locs : List Loc) (ls : Array Slot), (fr [6, 7, 8, 9] R Rj) → (0 ≤ (rI Rj 6).toInt ∧ (rI Rj 6).toInt ≤ 1601) → lv_has ls 3 [(0, .ref h0)] → mH D H0 (rM h0 Rj) kc ns H locs → W p l e ({ frames := 1, cells := 0, slots := 0, locals := 21 } : Room) s m args below meth c H locs 0 0 (MQ below (mQ D H0 gV (fun r S1 k1 n1 => kc = k1 ∧ ns = n1 ∧ ∃ R1, S1 = rM h0 R1 ∧ fr [6, 7, 8, 9] R R1 ∧ (0 ≤ (rI R1 6).toInt ∧ (rI R1 6).toInt ≤ 1600 ∧ 0 ≤ (rI R1 7).toInt ∧ (rI R1 7).toInt ≤ 1601 ∧ (¬ (rI R1 8).toInt = 3 ∨ (2 ≤ (rI R1 7).toInt - (rI R1 6).toInt ∧ (rI R1 7).toInt - (rI R1 6).toInt ≤ 18 ∧ (rI R1 7).toInt ≤ (rI R 3).toInt))))) args s 0 0 (mF H0)) (F0 m 58 ls []) := by
    intro Rj H locs ls h58_0 h58_1 hl hM
    have hF := h58_0
    refine lv_aload_n hx hb dX12_next_58 rfl (lv_at hl 0 rfl) ?_
    refine lv_aload_n hx hb dX12_next_59 rfl (lv_at hl 0 rfl) ?_
    refine rr_getI (k := 6) (v := rI Rj 6) C hM f_X12_119 rfl rfl dX12_next_60 ?_
    refine lv_topi (fun xv1 exv1 => ?_)
    have mxv1 : xv1.toInt = (rI Rj 6).toInt := by rw [exv1]
    have zv2 : (rI Rj 3).toInt = (rI R 3).toInt := by rw [hF.gI 3 (by decide)]
    refine r_V (As := [.int xv1]) (rest := []) (ci := 12) C hM (c_X12_sign l D H0 h0 Rj kc ns xv1 (hI0.fr hF (by decide)) (by omega)) i_X12_sign m_X12_122 rK0 rfl rfl rfl hl.1 rfl (Nat.le_of_ble_eq_true rfl) ⟨by decide, by decide⟩ ⟨by decide, by decide⟩ dX12_next_63 (fun xv6 Sv3 kv4 nv5 H locs pv7 hM => ?_)
    obtain ⟨rfl, rfl, rfl, hxv6⟩ := pv7
    refine W.eq (g2 := F0 m 66 ls [.int xv6]) rfl ?_
    refine lv_istore_n (lv' := [(1, .int xv6), (0, .ref h0)]) hx hb dX12_next_66 rfl hl (by decide) rfl (fun ls hl => ?_)
    refine lv_aload_n hx hb dX12_next_67 rfl (lv_at hl 1 rfl) ?_
    refine lv_aload_n hx hb dX12_next_68 rfl (lv_at hl 1 rfl) ?_
    refine rr_getI (k := 6) (v := xv1) C hM f_X12_119 rfl (exv1.symm) dX12_next_69 ?_
    refine lv_iconst (v := 1) hx hb dX12_next_72 (by decide) ?_
    refine lv_iadd hx hb dX12_next_73 ?_
    refine lv_topi (fun xv8 exv8 => ?_)
    try (have txv8 := addI (a := xv1) (b := 1) (by omega) (by omega); rw [← exv8] at txv8)
    refine rr_putI (k := 7) (v := xv8) C hM f_X12_116 rfl (fun r h => by cases h; rfl) rfl dX12_next_74 (fun H locs hM => ?_)
    have hM : mH D H0 (rM h0 (uI Rj 7 xv8)) kc ns H locs := hM
    have hF : fr [6, 7, 8, 9] R (uI Rj 7 xv8) := hF.I (by decide)
    refine lv_aload_n hx hb dX12_next_77 rfl (lv_at hl 1 rfl) ?_
    refine rr_getI (k := 6) (v := xv1) C hM f_X12_119 rfl (exv1.symm) dX12_next_78 ?_
    refine lv_aload_n hx hb dX12_next_81 rfl (lv_at hl 1 rfl) ?_
    refine rr_getI (k := 3) (v := rI R 3) C hM f_X12_110 rfl (hF.gI 3 (by decide)) dX12_next_82 ?_
    refine lv_topi (fun xv9 exv9 => ?_)
    have mxv9 : xv9.toInt = (rI R 3).toInt := by rw [exv9]
    have fxv9 := RI.size hI0; rw [← exv9] at fxv9
    refine lv_icmp_lt (tgt := 112) hx hb dX12_next_85 (by decide) (fun cv10 => ?_) (fun cv10 => ?_)
    · have tcv10 := ltT cv10
      refine lv_iload_n hx hb dX12_next_112 rfl (lv_at hl 0 rfl) ?_
      have zv11 : (rI (uI Rj 7 xv8) 3).toInt = (rI R 3).toInt := by rw [hF.gI 3 (by decide)]
      have zv12 : (rI (uI Rj 7 xv8) 6).toInt = (rI Rj 6).toInt := rfl
      have zv13 : (rI (uI Rj 7 xv8) 7).toInt = xv8.toInt := rfl
      have zv14 : (rI (uI Rj 7 xv8) 8).toInt = (rI Rj 8).toInt := rfl
      refine r_S (As := [.int xv6]) (rest := []) C hM (c_X12_isLetter l D H0 (rM h0 (uI Rj 7 xv8)) kc ns xv6) i_X12_isLetter m_X12_129 rfl hl.1 rfl (Nat.le_of_ble_eq_true rfl) ⟨by decide, by decide⟩ ⟨by decide, by decide⟩ dX12_next_113 (fun xv18 Sv15 kv16 nv17 H locs pv19 hM => ?_)
      obtain ⟨rfl, rfl, rfl, hxv18⟩ := pv19
      refine W.eq (g2 := F0 m 116 ls [.int xv18]) rfl ?_
      refine lv_if_eq (tgt := 225) hx hb dX12_next_116 (by decide) (fun cv20 => ?_) (fun cv20 => ?_)
      · have tcv20 := eqT cv20
        have join294 : ∀ (Re : RS) (H : Heap) (locs : List Loc) (ls : Array Slot), (fr [6, 7, 8, 9] R Re) → (0 ≤ (rI Re 6).toInt ∧ (rI Re 6).toInt < (rI R 3).toInt ∧ (rI Re 6).toInt < (rI Re 7).toInt) → ((rI Re 7).toInt ≤ (rI R 3).toInt) → lv_has ls 3 [(0, .ref h0)] → mH D H0 (rM h0 Re) kc ns H locs → W p l e ({ frames := 1, cells := 0, slots := 0, locals := 21 } : Room) s m args below meth c H locs 0 0 (MQ below (mQ D H0 gV (fun r S1 k1 n1 => kc = k1 ∧ ns = n1 ∧ ∃ R1, S1 = rM h0 R1 ∧ fr [6, 7, 8, 9] R R1 ∧ (0 ≤ (rI R1 6).toInt ∧ (rI R1 6).toInt ≤ 1600 ∧ 0 ≤ (rI R1 7).toInt ∧ (rI R1 7).toInt ≤ 1601 ∧ (¬ (rI R1 8).toInt = 3 ∨ (2 ≤ (rI R1 7).toInt - (rI R1 6).toInt ∧ (rI R1 7).toInt - (rI R1 6).toInt ≤ 18 ∧ (rI R1 7).toInt ≤ (rI R 3).toInt))))) args s 0 0 (mF H0)) (F0 m 294 ls []) := by
          intro Re H locs ls h294_0 h294_1 h294_2 hl hM
          have hF := h294_0
          refine lv_aload_n hx hb dX12_next_294 rfl (lv_at hl 0 rfl) ?_
          refine lv_aload_n hx hb dX12_next_295 rfl (lv_at hl 0 rfl) ?_
          refine rr_getI (k := 7) (v := rI Re 7) C hM f_X12_116 rfl rfl dX12_next_296 ?_
          refine lv_topi (fun xv21 exv21 => ?_)
          have mxv21 : xv21.toInt = (rI Re 7).toInt := by rw [exv21]
          refine lv_aload_n hx hb dX12_next_299 rfl (lv_at hl 0 rfl) ?_
          refine rr_getI (k := 3) (v := xv9) C hM f_X12_110 rfl ((hF.gI 3 (by decide)).trans exv9.symm) dX12_next_300 ?_
          refine lv_icmp_ge (tgt := 339) hx hb dX12_next_303 (by decide) (fun cv22 => ?_) (fun cv22 => ?_)
          · have tcv22 := leT cv22
            refine lv_iconst (v := 1) hx hb dX12_next_339 (by decide) ?_
            refine rr_putI (k := 8) (v := (1 : Int32)) C hM f_X12_126 rfl (fun r h => by cases h; rfl) rfl dX12_next_340 (fun H locs hM => ?_)
            have hM : mH D H0 (rM h0 (uI Re 8 (1 : Int32))) kc ns H locs := hM
            have hF : fr [6, 7, 8, 9] R (uI Re 8 (1 : Int32)) := hF.I (by decide)
            refine lv_aload_n hx hb dX12_next_343 rfl (lv_at hl 0 rfl) ?_
            refine lv_dup hx hb dX12_next_344 rfl ?_
            refine rr_getI (k := 7) (v := xv21) C hM f_X12_116 rfl (exv21.symm) dX12_next_345 ?_
            refine lv_iconst (v := 1) hx hb dX12_next_348 (by decide) ?_
            refine lv_iadd hx hb dX12_next_349 ?_
            refine lv_topi (fun xv23 exv23 => ?_)
            try (have txv23 := addI (a := xv21) (b := 1) (by omega) (by omega); rw [← exv23] at txv23)
            refine rr_putI (k := 7) (v := xv23) C hM f_X12_116 rfl (fun r h => by cases h; rfl) rfl dX12_next_350 (fun H locs hM => ?_)
            have hM : mH D H0 (rM h0 (uI (uI Re 8 (1 : Int32)) 7 xv23)) kc ns H locs := hM
            have hF : fr [6, 7, 8, 9] R (uI (uI Re 8 (1 : Int32)) 7 xv23) := hF.I (by decide)
            refine lv_goto (tgt := 389) hx hb dX12_next_353 (by decide) ?_
            have zv24 : (rI (uI (uI Re 8 (1 : Int32)) 7 xv23) 3).toInt = (rI R 3).toInt := by rw [hF.gI 3 (by decide)]
            have zv25 : (rI (uI (uI Re 8 (1 : Int32)) 7 xv23) 6).toInt = (rI Re 6).toInt := rfl
            have zv26 : (rI (uI (uI Re 8 (1 : Int32)) 7 xv23) 7).toInt = xv23.toInt := rfl
            have zv27 : (rI (uI (uI Re 8 (1 : Int32)) 7 xv23) 8).toInt = (1 : Int32).toInt := rfl
            exact r_retV C hr hlk hM (⟨rfl, rfl, _, rfl, hF, by omega⟩) dX12_next_389
          · have tcv22 := leF cv22
            refine lv_aload_n hx hb dX12_next_306 rfl (lv_at hl 0 rfl) ?_
            refine lv_aload_n hx hb dX12_next_307 rfl (lv_at hl 0 rfl) ?_
            refine rr_getI (k := 7) (v := xv21) C hM f_X12_116 rfl (exv21.symm) dX12_next_308 ?_
            have zv28 : (rI Re 3).toInt = (rI R 3).toInt := by rw [hF.gI 3 (by decide)]
            refine r_V (As := [.int xv21]) (rest := [.ref h0]) (ci := 12) C hM (c_X12_sign l D H0 h0 Re kc ns xv21 (hI0.fr hF (by decide)) (by omega)) i_X12_sign m_X12_122 rK0 rfl rfl rfl hl.1 rfl (Nat.le_of_ble_eq_true rfl) ⟨by decide, by decide⟩ ⟨by decide, by decide⟩ dX12_next_311 (fun xv32 Sv29 kv30 nv31 H locs pv33 hM => ?_)
            obtain ⟨rfl, rfl, rfl, hxv32⟩ := pv33
            refine W.eq (g2 := F0 m 314 ls [.int xv32, .ref h0]) rfl ?_
            refine lv_bipush (v := 34) hx hb dX12_next_314 (by decide) ?_
            refine lv_icmp_ne (tgt := 339) hx hb dX12_next_316 (by decide) (fun cv34 => ?_) (fun cv34 => ?_)
            · have tcv34 := eqF cv34
              refine lv_iconst (v := 1) hx hb dX12_next_339 (by decide) ?_
              refine rr_putI (k := 8) (v := (1 : Int32)) C hM f_X12_126 rfl (fun r h => by cases h; rfl) rfl dX12_next_340 (fun H locs hM => ?_)
              have hM : mH D H0 (rM h0 (uI Re 8 (1 : Int32))) kc ns H locs := hM
              have hF : fr [6, 7, 8, 9] R (uI Re 8 (1 : Int32)) := hF.I (by decide)
              refine lv_aload_n hx hb dX12_next_343 rfl (lv_at hl 0 rfl) ?_
              refine lv_dup hx hb dX12_next_344 rfl ?_
              refine rr_getI (k := 7) (v := xv21) C hM f_X12_116 rfl (exv21.symm) dX12_next_345 ?_
              refine lv_iconst (v := 1) hx hb dX12_next_348 (by decide) ?_
              refine lv_iadd hx hb dX12_next_349 ?_
              refine lv_topi (fun xv35 exv35 => ?_)
              try (have txv35 := addI (a := xv21) (b := 1) (by omega) (by omega); rw [← exv35] at txv35)
              refine rr_putI (k := 7) (v := xv35) C hM f_X12_116 rfl (fun r h => by cases h; rfl) rfl dX12_next_350 (fun H locs hM => ?_)
              have hM : mH D H0 (rM h0 (uI (uI Re 8 (1 : Int32)) 7 xv35)) kc ns H locs := hM
              have hF : fr [6, 7, 8, 9] R (uI (uI Re 8 (1 : Int32)) 7 xv35) := hF.I (by decide)
              refine lv_goto (tgt := 389) hx hb dX12_next_353 (by decide) ?_
              have zv36 : (rI (uI (uI Re 8 (1 : Int32)) 7 xv35) 3).toInt = (rI R 3).toInt := by rw [hF.gI 3 (by decide)]
              have zv37 : (rI (uI (uI Re 8 (1 : Int32)) 7 xv35) 6).toInt = (rI Re 6).toInt := rfl
              have zv38 : (rI (uI (uI Re 8 (1 : Int32)) 7 xv35) 7).toInt = xv35.toInt := rfl
              have zv39 : (rI (uI (uI Re 8 (1 : Int32)) 7 xv35) 8).toInt = (1 : Int32).toInt := rfl
              exact r_retV C hr hlk hM (⟨rfl, rfl, _, rfl, hF, by omega⟩) dX12_next_389
            · have tcv34 := eqT cv34
              refine lv_aload_n hx hb dX12_next_319 rfl (lv_at hl 0 rfl) ?_
              refine rr_getI (k := 7) (v := xv21) C hM f_X12_116 rfl (exv21.symm) dX12_next_320 ?_
              refine lv_aload_n hx hb dX12_next_323 rfl (lv_at hl 0 rfl) ?_
              refine rr_getI (k := 6) (v := rI Re 6) C hM f_X12_119 rfl rfl dX12_next_324 ?_
              refine lv_topi (fun xv40 exv40 => ?_)
              have mxv40 : xv40.toInt = (rI Re 6).toInt := by rw [exv40]
              refine lv_isub hx hb dX12_next_327 ?_
              refine lv_topi (fun xv41 exv41 => ?_)
              try (have txv41 := subI (a := xv21) (b := xv40) (by omega) (by omega); rw [← exv41] at txv41)
              refine lv_iconst (v := 1) hx hb dX12_next_328 (by decide) ?_
              refine lv_isub hx hb dX12_next_329 ?_
              refine lv_topi (fun xv42 exv42 => ?_)
              try (have txv42 := subI (a := xv41) (b := 1) (by omega) (by omega); rw [← exv42] at txv42)
              refine lv_bipush (v := 16) hx hb dX12_next_330 (by decide) ?_
              refine lv_icmp_gt (tgt := 339) hx hb dX12_next_332 (by decide) (fun cv43 => ?_) (fun cv43 => ?_)
              · have tcv43 := ltT cv43
                refine lv_iconst (v := 1) hx hb dX12_next_339 (by decide) ?_
                refine rr_putI (k := 8) (v := (1 : Int32)) C hM f_X12_126 rfl (fun r h => by cases h; rfl) rfl dX12_next_340 (fun H locs hM => ?_)
                have hM : mH D H0 (rM h0 (uI Re 8 (1 : Int32))) kc ns H locs := hM
                have hF : fr [6, 7, 8, 9] R (uI Re 8 (1 : Int32)) := hF.I (by decide)
                refine lv_aload_n hx hb dX12_next_343 rfl (lv_at hl 0 rfl) ?_
                refine lv_dup hx hb dX12_next_344 rfl ?_
                refine rr_getI (k := 7) (v := xv21) C hM f_X12_116 rfl (exv21.symm) dX12_next_345 ?_
                refine lv_iconst (v := 1) hx hb dX12_next_348 (by decide) ?_
                refine lv_iadd hx hb dX12_next_349 ?_
                refine lv_topi (fun xv44 exv44 => ?_)
                try (have txv44 := addI (a := xv21) (b := 1) (by omega) (by omega); rw [← exv44] at txv44)
                refine rr_putI (k := 7) (v := xv44) C hM f_X12_116 rfl (fun r h => by cases h; rfl) rfl dX12_next_350 (fun H locs hM => ?_)
                have hM : mH D H0 (rM h0 (uI (uI Re 8 (1 : Int32)) 7 xv44)) kc ns H locs := hM
                have hF : fr [6, 7, 8, 9] R (uI (uI Re 8 (1 : Int32)) 7 xv44) := hF.I (by decide)
                refine lv_goto (tgt := 389) hx hb dX12_next_353 (by decide) ?_
                have zv45 : (rI (uI (uI Re 8 (1 : Int32)) 7 xv44) 3).toInt = (rI R 3).toInt := by rw [hF.gI 3 (by decide)]
                have zv46 : (rI (uI (uI Re 8 (1 : Int32)) 7 xv44) 6).toInt = (rI Re 6).toInt := rfl
                have zv47 : (rI (uI (uI Re 8 (1 : Int32)) 7 xv44) 7).toInt = xv44.toInt := rfl
                have zv48 : (rI (uI (uI Re 8 (1 : Int32)) 7 xv44) 8).toInt = (1 : Int32).toInt := rfl
                exact r_retV C hr hlk hM (⟨rfl, rfl, _, rfl, hF, by omega⟩) dX12_next_389
              · have tcv43 := ltF cv43
                refine lv_iconst (v := 3) hx hb dX12_next_335 (by decide) ?_
                refine lv_goto (tgt := 340) hx hb dX12_next_336 (by decide) ?_
                refine rr_putI (k := 8) (v := (3 : Int32)) C hM f_X12_126 rfl (fun r h => by cases h; rfl) rfl dX12_next_340 (fun H locs hM => ?_)
                have hM : mH D H0 (rM h0 (uI Re 8 (3 : Int32))) kc ns H locs := hM
                have hF : fr [6, 7, 8, 9] R (uI Re 8 (3 : Int32)) := hF.I (by decide)
                refine lv_aload_n hx hb dX12_next_343 rfl (lv_at hl 0 rfl) ?_
                refine lv_dup hx hb dX12_next_344 rfl ?_
                refine rr_getI (k := 7) (v := xv21) C hM f_X12_116 rfl (exv21.symm) dX12_next_345 ?_
                refine lv_iconst (v := 1) hx hb dX12_next_348 (by decide) ?_
                refine lv_iadd hx hb dX12_next_349 ?_
                refine lv_topi (fun xv49 exv49 => ?_)
                try (have txv49 := addI (a := xv21) (b := 1) (by omega) (by omega); rw [← exv49] at txv49)
                refine rr_putI (k := 7) (v := xv49) C hM f_X12_116 rfl (fun r h => by cases h; rfl) rfl dX12_next_350 (fun H locs hM => ?_)
                have hM : mH D H0 (rM h0 (uI (uI Re 8 (3 : Int32)) 7 xv49)) kc ns H locs := hM
                have hF : fr [6, 7, 8, 9] R (uI (uI Re 8 (3 : Int32)) 7 xv49) := hF.I (by decide)
                refine lv_goto (tgt := 389) hx hb dX12_next_353 (by decide) ?_
                have zv50 : (rI (uI (uI Re 8 (3 : Int32)) 7 xv49) 3).toInt = (rI R 3).toInt := by rw [hF.gI 3 (by decide)]
                have zv51 : (rI (uI (uI Re 8 (3 : Int32)) 7 xv49) 6).toInt = (rI Re 6).toInt := rfl
                have zv52 : (rI (uI (uI Re 8 (3 : Int32)) 7 xv49) 7).toInt = xv49.toInt := rfl
                have zv53 : (rI (uI (uI Re 8 (3 : Int32)) 7 xv49) 8).toInt = (3 : Int32).toInt := rfl
                exact r_retV C hr hlk hM (⟨rfl, rfl, _, rfl, hF, by omega⟩) dX12_next_389
        refine lv_iload_n hx hb dX12_next_225 rfl (lv_at hl 0 rfl) ?_
        refine lv_bipush (v := 34) hx hb dX12_next_226 (by decide) ?_
        refine lv_icmp_ne (tgt := 356) hx hb dX12_next_228 (by decide) (fun cv54 => ?_) (fun cv54 => ?_)
        · have tcv54 := eqF cv54
          refine lv_aload_n hx hb dX12_next_356 rfl (lv_at hl 1 rfl) ?_
          refine lv_iload_n hx hb dX12_next_357 rfl (lv_at hl 0 rfl) ?_
          refine lv_bipush (v := 35) hx hb dX12_next_358 (by decide) ?_
          refine lv_icmp_eq (tgt := 381) hx hb dX12_next_360 (by decide) (fun cv55 => ?_) (fun cv55 => ?_)
          · have tcv55 := eqT cv55
            refine lv_iconst (v := 4) hx hb dX12_next_381 (by decide) ?_
            refine lv_goto (tgt := 386) hx hb dX12_next_382 (by decide) ?_
            refine rr_putI (k := 8) (v := (4 : Int32)) C hM f_X12_126 rfl (fun r h => by cases h; rfl) rfl dX12_next_386 (fun H locs hM => ?_)
            have hM : mH D H0 (rM h0 (uI (uI Rj 7 xv8) 8 (4 : Int32))) kc ns H locs := hM
            have hF : fr [6, 7, 8, 9] R (uI (uI Rj 7 xv8) 8 (4 : Int32)) := hF.I (by decide)
            have zv56 : (rI (uI (uI Rj 7 xv8) 8 (4 : Int32)) 3).toInt = (rI R 3).toInt := by rw [hF.gI 3 (by decide)]
            have zv57 : (rI (uI (uI Rj 7 xv8) 8 (4 : Int32)) 6).toInt = (rI Rj 6).toInt := rfl
            have zv58 : (rI (uI (uI Rj 7 xv8) 8 (4 : Int32)) 7).toInt = xv8.toInt := rfl
            have zv59 : (rI (uI (uI Rj 7 xv8) 8 (4 : Int32)) 8).toInt = (4 : Int32).toInt := rfl
            exact r_retV C hr hlk hM (⟨rfl, rfl, _, rfl, hF, by omega⟩) dX12_next_389
          · have tcv55 := eqF cv55
            refine lv_iload_n hx hb dX12_next_363 rfl (lv_at hl 0 rfl) ?_
            refine lv_bipush (v := 33) hx hb dX12_next_364 (by decide) ?_
            refine lv_icmp_eq (tgt := 381) hx hb dX12_next_366 (by decide) (fun cv60 => ?_) (fun cv60 => ?_)
            · have tcv60 := eqT cv60
              refine lv_iconst (v := 4) hx hb dX12_next_381 (by decide) ?_
              refine lv_goto (tgt := 386) hx hb dX12_next_382 (by decide) ?_
              refine rr_putI (k := 8) (v := (4 : Int32)) C hM f_X12_126 rfl (fun r h => by cases h; rfl) rfl dX12_next_386 (fun H locs hM => ?_)
              have hM : mH D H0 (rM h0 (uI (uI Rj 7 xv8) 8 (4 : Int32))) kc ns H locs := hM
              have hF : fr [6, 7, 8, 9] R (uI (uI Rj 7 xv8) 8 (4 : Int32)) := hF.I (by decide)
              have zv61 : (rI (uI (uI Rj 7 xv8) 8 (4 : Int32)) 3).toInt = (rI R 3).toInt := by rw [hF.gI 3 (by decide)]
              have zv62 : (rI (uI (uI Rj 7 xv8) 8 (4 : Int32)) 6).toInt = (rI Rj 6).toInt := rfl
              have zv63 : (rI (uI (uI Rj 7 xv8) 8 (4 : Int32)) 7).toInt = xv8.toInt := rfl
              have zv64 : (rI (uI (uI Rj 7 xv8) 8 (4 : Int32)) 8).toInt = (4 : Int32).toInt := rfl
              exact r_retV C hr hlk hM (⟨rfl, rfl, _, rfl, hF, by omega⟩) dX12_next_389
            · have tcv60 := eqF cv60
              refine lv_iload_n hx hb dX12_next_369 rfl (lv_at hl 0 rfl) ?_
              refine lv_bipush (v := 40) hx hb dX12_next_370 (by decide) ?_
              refine lv_icmp_eq (tgt := 381) hx hb dX12_next_372 (by decide) (fun cv65 => ?_) (fun cv65 => ?_)
              · have tcv65 := eqT cv65
                refine lv_iconst (v := 4) hx hb dX12_next_381 (by decide) ?_
                refine lv_goto (tgt := 386) hx hb dX12_next_382 (by decide) ?_
                refine rr_putI (k := 8) (v := (4 : Int32)) C hM f_X12_126 rfl (fun r h => by cases h; rfl) rfl dX12_next_386 (fun H locs hM => ?_)
                have hM : mH D H0 (rM h0 (uI (uI Rj 7 xv8) 8 (4 : Int32))) kc ns H locs := hM
                have hF : fr [6, 7, 8, 9] R (uI (uI Rj 7 xv8) 8 (4 : Int32)) := hF.I (by decide)
                have zv66 : (rI (uI (uI Rj 7 xv8) 8 (4 : Int32)) 3).toInt = (rI R 3).toInt := by rw [hF.gI 3 (by decide)]
                have zv67 : (rI (uI (uI Rj 7 xv8) 8 (4 : Int32)) 6).toInt = (rI Rj 6).toInt := rfl
                have zv68 : (rI (uI (uI Rj 7 xv8) 8 (4 : Int32)) 7).toInt = xv8.toInt := rfl
                have zv69 : (rI (uI (uI Rj 7 xv8) 8 (4 : Int32)) 8).toInt = (4 : Int32).toInt := rfl
                exact r_retV C hr hlk hM (⟨rfl, rfl, _, rfl, hF, by omega⟩) dX12_next_389
              · have tcv65 := eqF cv65
                refine lv_iload_n hx hb dX12_next_375 rfl (lv_at hl 0 rfl) ?_
                refine lv_bipush (v := 41) hx hb dX12_next_376 (by decide) ?_
                refine lv_icmp_ne (tgt := 385) hx hb dX12_next_378 (by decide) (fun cv70 => ?_) (fun cv70 => ?_)
                · have tcv70 := eqF cv70
                  refine lv_iconst (v := 1) hx hb dX12_next_385 (by decide) ?_
                  refine rr_putI (k := 8) (v := (1 : Int32)) C hM f_X12_126 rfl (fun r h => by cases h; rfl) rfl dX12_next_386 (fun H locs hM => ?_)
                  have hM : mH D H0 (rM h0 (uI (uI Rj 7 xv8) 8 (1 : Int32))) kc ns H locs := hM
                  have hF : fr [6, 7, 8, 9] R (uI (uI Rj 7 xv8) 8 (1 : Int32)) := hF.I (by decide)
                  have zv71 : (rI (uI (uI Rj 7 xv8) 8 (1 : Int32)) 3).toInt = (rI R 3).toInt := by rw [hF.gI 3 (by decide)]
                  have zv72 : (rI (uI (uI Rj 7 xv8) 8 (1 : Int32)) 6).toInt = (rI Rj 6).toInt := rfl
                  have zv73 : (rI (uI (uI Rj 7 xv8) 8 (1 : Int32)) 7).toInt = xv8.toInt := rfl
                  have zv74 : (rI (uI (uI Rj 7 xv8) 8 (1 : Int32)) 8).toInt = (1 : Int32).toInt := rfl
                  exact r_retV C hr hlk hM (⟨rfl, rfl, _, rfl, hF, by omega⟩) dX12_next_389
                · have tcv70 := eqT cv70
                  refine lv_iconst (v := 4) hx hb dX12_next_381 (by decide) ?_
                  refine lv_goto (tgt := 386) hx hb dX12_next_382 (by decide) ?_
                  refine rr_putI (k := 8) (v := (4 : Int32)) C hM f_X12_126 rfl (fun r h => by cases h; rfl) rfl dX12_next_386 (fun H locs hM => ?_)
                  have hM : mH D H0 (rM h0 (uI (uI Rj 7 xv8) 8 (4 : Int32))) kc ns H locs := hM
                  have hF : fr [6, 7, 8, 9] R (uI (uI Rj 7 xv8) 8 (4 : Int32)) := hF.I (by decide)
                  have zv75 : (rI (uI (uI Rj 7 xv8) 8 (4 : Int32)) 3).toInt = (rI R 3).toInt := by rw [hF.gI 3 (by decide)]
                  have zv76 : (rI (uI (uI Rj 7 xv8) 8 (4 : Int32)) 6).toInt = (rI Rj 6).toInt := rfl
                  have zv77 : (rI (uI (uI Rj 7 xv8) 8 (4 : Int32)) 7).toInt = xv8.toInt := rfl
                  have zv78 : (rI (uI (uI Rj 7 xv8) 8 (4 : Int32)) 8).toInt = (4 : Int32).toInt := rfl
                  exact r_retV C hr hlk hM (⟨rfl, rfl, _, rfl, hF, by omega⟩) dX12_next_389
        · have tcv54 := eqT cv54
          have zv79 : (rI (uI Rj 7 xv8) 3).toInt = (rI R 3).toInt := by rw [hF.gI 3 (by decide)]
          have zv80 : (rI (uI Rj 7 xv8) 6).toInt = (rI Rj 6).toInt := rfl
          have zv81 : (rI (uI Rj 7 xv8) 7).toInt = xv8.toInt := rfl
          have zv82 : (rI (uI Rj 7 xv8) 8).toInt = (rI Rj 8).toInt := rfl
          have loop231 : ∀ (fu : Nat) (Rd : RS) (H : Heap) (locs : List Loc) (ls : Array Slot), (fr [6, 7, 8, 9] R Rd) → (0 ≤ (rI Rd 6).toInt ∧ (rI Rd 6).toInt < (rI R 3).toInt ∧ (rI Rd 6).toInt < (rI Rd 7).toInt) → ((rI Rd 7).toInt ≤ (rI R 3).toInt) → (1601 - (rI Rd 7).toInt).toNat < fu → lv_has ls 3 [(0, .ref h0)] → mH D H0 (rM h0 Rd) kc ns H locs → W p l e ({ frames := 1, cells := 0, slots := 0, locals := 21 } : Room) s m args below meth c H locs 0 0 (MQ below (mQ D H0 gV (fun r S1 k1 n1 => kc = k1 ∧ ns = n1 ∧ ∃ R1, S1 = rM h0 R1 ∧ fr [6, 7, 8, 9] R R1 ∧ (0 ≤ (rI R1 6).toInt ∧ (rI R1 6).toInt ≤ 1600 ∧ 0 ≤ (rI R1 7).toInt ∧ (rI R1 7).toInt ≤ 1601 ∧ (¬ (rI R1 8).toInt = 3 ∨ (2 ≤ (rI R1 7).toInt - (rI R1 6).toInt ∧ (rI R1 7).toInt - (rI R1 6).toInt ≤ 18 ∧ (rI R1 7).toInt ≤ (rI R 3).toInt))))) args s 0 0 (mF H0)) (F0 m 231 ls []) := by
            intro fu
            induction fu with
            | zero => intro Rd H locs ls h231_0 h231_1 h231_2 hfu; exact absurd hfu (by omega)
            | succ fu ih231 =>
              intro Rd H locs ls h231_0 h231_1 h231_2 hfu hl hM
              have hF := h231_0
              refine lv_aload_n hx hb dX12_next_231 rfl (lv_at hl 0 rfl) ?_
              refine rr_getI (k := 7) (v := rI Rd 7) C hM f_X12_116 rfl rfl dX12_next_232 ?_
              refine lv_topi (fun xv83 exv83 => ?_)
              have mxv83 : xv83.toInt = (rI Rd 7).toInt := by rw [exv83]
              refine lv_aload_n hx hb dX12_next_235 rfl (lv_at hl 0 rfl) ?_
              refine rr_getI (k := 3) (v := xv9) C hM f_X12_110 rfl ((hF.gI 3 (by decide)).trans exv9.symm) dX12_next_236 ?_
              refine lv_icmp_ge (tgt := 294) hx hb dX12_next_239 (by decide) (fun cv84 => ?_) (fun cv84 => ?_)
              · have tcv84 := leT cv84
                have zv85 : (rI Rd 3).toInt = (rI R 3).toInt := by rw [hF.gI 3 (by decide)]
                exact join294 Rd _ _ _ (hF) (by omega) (by omega) (lv_sub hl [0] rfl) hM
              · have tcv84 := leF cv84
                refine lv_aload_n hx hb dX12_next_242 rfl (lv_at hl 0 rfl) ?_
                refine lv_aload_n hx hb dX12_next_243 rfl (lv_at hl 0 rfl) ?_
                refine rr_getI (k := 7) (v := xv83) C hM f_X12_116 rfl (exv83.symm) dX12_next_244 ?_
                have zv86 : (rI Rd 3).toInt = (rI R 3).toInt := by rw [hF.gI 3 (by decide)]
                refine r_V (As := [.int xv83]) (rest := []) (ci := 12) C hM (c_X12_sign l D H0 h0 Rd kc ns xv83 (hI0.fr hF (by decide)) (by omega)) i_X12_sign m_X12_122 rK0 rfl rfl rfl hl.1 rfl (Nat.le_of_ble_eq_true rfl) ⟨by decide, by decide⟩ ⟨by decide, by decide⟩ dX12_next_247 (fun xv90 Sv87 kv88 nv89 H locs pv91 hM => ?_)
                obtain ⟨rfl, rfl, rfl, hxv90⟩ := pv91
                refine W.eq (g2 := F0 m 250 ls [.int xv90]) rfl ?_
                refine lv_bipush (v := 32) hx hb dX12_next_250 (by decide) ?_
                refine lv_icmp_lt (tgt := 294) hx hb dX12_next_252 (by decide) (fun cv92 => ?_) (fun cv92 => ?_)
                · have tcv92 := ltT cv92
                  have zv93 : (rI Rd 3).toInt = (rI R 3).toInt := by rw [hF.gI 3 (by decide)]
                  exact join294 Rd _ _ _ (hF) (by omega) (by omega) (lv_sub hl [0] rfl) hM
                · have tcv92 := ltF cv92
                  refine lv_aload_n hx hb dX12_next_255 rfl (lv_at hl 0 rfl) ?_
                  refine lv_aload_n hx hb dX12_next_256 rfl (lv_at hl 0 rfl) ?_
                  refine rr_getI (k := 7) (v := xv83) C hM f_X12_116 rfl (exv83.symm) dX12_next_257 ?_
                  have zv94 : (rI Rd 3).toInt = (rI R 3).toInt := by rw [hF.gI 3 (by decide)]
                  refine r_V (As := [.int xv83]) (rest := []) (ci := 12) C hM (c_X12_sign l D H0 h0 Rd kc ns xv83 (hI0.fr hF (by decide)) (by omega)) i_X12_sign m_X12_122 rK0 rfl rfl rfl hl.1 rfl (Nat.le_of_ble_eq_true rfl) ⟨by decide, by decide⟩ ⟨by decide, by decide⟩ dX12_next_260 (fun xv98 Sv95 kv96 nv97 H locs pv99 hM => ?_)
                  obtain ⟨rfl, rfl, rfl, hxv98⟩ := pv99
                  refine W.eq (g2 := F0 m 263 ls [.int xv98]) rfl ?_
                  refine lv_bipush (v := 127) hx hb dX12_next_263 (by decide) ?_
                  refine lv_icmp_ge (tgt := 294) hx hb dX12_next_265 (by decide) (fun cv100 => ?_) (fun cv100 => ?_)
                  · have tcv100 := leT cv100
                    have zv101 : (rI Rd 3).toInt = (rI R 3).toInt := by rw [hF.gI 3 (by decide)]
                    exact join294 Rd _ _ _ (hF) (by omega) (by omega) (lv_sub hl [0] rfl) hM
                  · have tcv100 := leF cv100
                    refine lv_aload_n hx hb dX12_next_268 rfl (lv_at hl 0 rfl) ?_
                    refine lv_aload_n hx hb dX12_next_269 rfl (lv_at hl 0 rfl) ?_
                    refine rr_getI (k := 7) (v := xv83) C hM f_X12_116 rfl (exv83.symm) dX12_next_270 ?_
                    have zv102 : (rI Rd 3).toInt = (rI R 3).toInt := by rw [hF.gI 3 (by decide)]
                    refine r_V (As := [.int xv83]) (rest := []) (ci := 12) C hM (c_X12_sign l D H0 h0 Rd kc ns xv83 (hI0.fr hF (by decide)) (by omega)) i_X12_sign m_X12_122 rK0 rfl rfl rfl hl.1 rfl (Nat.le_of_ble_eq_true rfl) ⟨by decide, by decide⟩ ⟨by decide, by decide⟩ dX12_next_273 (fun xv106 Sv103 kv104 nv105 H locs pv107 hM => ?_)
                    obtain ⟨rfl, rfl, rfl, hxv106⟩ := pv107
                    refine W.eq (g2 := F0 m 276 ls [.int xv106]) rfl ?_
                    refine lv_bipush (v := 34) hx hb dX12_next_276 (by decide) ?_
                    refine lv_icmp_eq (tgt := 294) hx hb dX12_next_278 (by decide) (fun cv108 => ?_) (fun cv108 => ?_)
                    · have tcv108 := eqT cv108
                      have zv109 : (rI Rd 3).toInt = (rI R 3).toInt := by rw [hF.gI 3 (by decide)]
                      exact join294 Rd _ _ _ (hF) (by omega) (by omega) (lv_sub hl [0] rfl) hM
                    · have tcv108 := eqF cv108
                      refine lv_aload_n hx hb dX12_next_281 rfl (lv_at hl 0 rfl) ?_
                      refine lv_dup hx hb dX12_next_282 rfl ?_
                      refine rr_getI (k := 7) (v := xv83) C hM f_X12_116 rfl (exv83.symm) dX12_next_283 ?_
                      refine lv_iconst (v := 1) hx hb dX12_next_286 (by decide) ?_
                      refine lv_iadd hx hb dX12_next_287 ?_
                      refine lv_topi (fun xv110 exv110 => ?_)
                      try (have txv110 := addI (a := xv83) (b := 1) (by omega) (by omega); rw [← exv110] at txv110)
                      refine rr_putI (k := 7) (v := xv110) C hM f_X12_116 rfl (fun r h => by cases h; rfl) rfl dX12_next_288 (fun H locs hM => ?_)
                      have hM : mH D H0 (rM h0 (uI Rd 7 xv110)) kc ns H locs := hM
                      have hF : fr [6, 7, 8, 9] R (uI Rd 7 xv110) := hF.I (by decide)
                      refine lv_goto (tgt := 231) hx hb dX12_next_291 (by decide) ?_
                      have zv111 : (rI (uI Rd 7 xv110) 3).toInt = (rI R 3).toInt := by rw [hF.gI 3 (by decide)]
                      have zv112 : (rI (uI Rd 7 xv110) 6).toInt = (rI Rd 6).toInt := rfl
                      have zv113 : (rI (uI Rd 7 xv110) 7).toInt = xv110.toInt := rfl
                      have zv114 : (rI (uI Rd 7 xv110) 8).toInt = (rI Rd 8).toInt := rfl
                      exact ih231 (uI Rd 7 xv110) _ _ _ (hF) (by omega) (by omega) (by omega) (lv_sub hl [0] rfl) hM
          have zv115 : (rI (uI Rj 7 xv8) 3).toInt = (rI R 3).toInt := by rw [hF.gI 3 (by decide)]
          have zv116 : (rI (uI Rj 7 xv8) 6).toInt = (rI Rj 6).toInt := rfl
          have zv117 : (rI (uI Rj 7 xv8) 7).toInt = xv8.toInt := rfl
          have zv118 : (rI (uI Rj 7 xv8) 8).toInt = (rI Rj 8).toInt := rfl
          exact loop231 (((1601 - (rI (uI Rj 7 xv8) 7).toInt).toNat) + 1) (uI Rj 7 xv8) _ _ _ (hF) (by omega) (by omega) (by omega) (lv_sub hl [1] rfl) hM
      · have tcv20 := eqF cv20
        have zv119 : (rI (uI Rj 7 xv8) 3).toInt = (rI R 3).toInt := by rw [hF.gI 3 (by decide)]
        have zv120 : (rI (uI Rj 7 xv8) 6).toInt = (rI Rj 6).toInt := rfl
        have zv121 : (rI (uI Rj 7 xv8) 7).toInt = xv8.toInt := rfl
        have zv122 : (rI (uI Rj 7 xv8) 8).toInt = (rI Rj 8).toInt := rfl
        have loop119 : ∀ (fu : Nat) (Rb : RS) (H : Heap) (locs : List Loc) (ls : Array Slot), (fr [6, 7, 8, 9] R Rb) → (0 ≤ (rI Rb 6).toInt ∧ (rI Rb 6).toInt < (rI R 3).toInt ∧ (rI Rb 6).toInt < (rI Rb 7).toInt) → ((rI Rb 7).toInt ≤ 1600) → (1601 - (rI Rb 7).toInt).toNat < fu → lv_has ls 3 [(0, .ref h0)] → mH D H0 (rM h0 Rb) kc ns H locs → W p l e ({ frames := 1, cells := 0, slots := 0, locals := 21 } : Room) s m args below meth c H locs 0 0 (MQ below (mQ D H0 gV (fun r S1 k1 n1 => kc = k1 ∧ ns = n1 ∧ ∃ R1, S1 = rM h0 R1 ∧ fr [6, 7, 8, 9] R R1 ∧ (0 ≤ (rI R1 6).toInt ∧ (rI R1 6).toInt ≤ 1600 ∧ 0 ≤ (rI R1 7).toInt ∧ (rI R1 7).toInt ≤ 1601 ∧ (¬ (rI R1 8).toInt = 3 ∨ (2 ≤ (rI R1 7).toInt - (rI R1 6).toInt ∧ (rI R1 7).toInt - (rI R1 6).toInt ≤ 18 ∧ (rI R1 7).toInt ≤ (rI R 3).toInt))))) args s 0 0 (mF H0)) (F0 m 119 ls []) := by
          intro fu
          induction fu with
          | zero => intro Rb H locs ls h119_0 h119_1 h119_2 hfu; exact absurd hfu (by omega)
          | succ fu ih119 =>
            intro Rb H locs ls h119_0 h119_1 h119_2 hfu hl hM
            have hF := h119_0
            refine lv_aload_n hx hb dX12_next_119 rfl (lv_at hl 0 rfl) ?_
            refine lv_aload_n hx hb dX12_next_120 rfl (lv_at hl 0 rfl) ?_
            refine rr_getI (k := 7) (v := rI Rb 7) C hM f_X12_116 rfl rfl dX12_next_121 ?_
            refine lv_topi (fun xv123 exv123 => ?_)
            have mxv123 : xv123.toInt = (rI Rb 7).toInt := by rw [exv123]
            have zv124 : (rI Rb 3).toInt = (rI R 3).toInt := by rw [hF.gI 3 (by decide)]
            refine r_V (As := [.int xv123]) (rest := []) (ci := 12) C hM (c_X12_sign l D H0 h0 Rb kc ns xv123 (hI0.fr hF (by decide)) (by omega)) i_X12_sign m_X12_122 rK0 rfl rfl rfl hl.1 rfl (Nat.le_of_ble_eq_true rfl) ⟨by decide, by decide⟩ ⟨by decide, by decide⟩ dX12_next_124 (fun xv128 Sv125 kv126 nv127 H locs pv129 hM => ?_)
            obtain ⟨rfl, rfl, rfl, hxv128⟩ := pv129
            refine W.eq (g2 := F0 m 127 ls [.int xv128]) rfl ?_
            have zv130 : (rI Rb 3).toInt = (rI R 3).toInt := by rw [hF.gI 3 (by decide)]
            refine r_S (As := [.int xv128]) (rest := []) C hM (c_X12_isLetter l D H0 (rM h0 Rb) kc ns xv128) i_X12_isLetter m_X12_129 rfl hl.1 rfl (Nat.le_of_ble_eq_true rfl) ⟨by decide, by decide⟩ ⟨by decide, by decide⟩ dX12_next_127 (fun xv134 Sv131 kv132 nv133 H locs pv135 hM => ?_)
            obtain ⟨rfl, rfl, rfl, hxv134⟩ := pv135
            refine W.eq (g2 := F0 m 130 ls [.int xv134]) rfl ?_
            refine lv_if_eq (tgt := 146) hx hb dX12_next_130 (by decide) (fun cv136 => ?_) (fun cv136 => ?_)
            · have tcv136 := eqT cv136
              refine lv_aload_n hx hb dX12_next_146 rfl (lv_at hl 0 rfl) ?_
              refine lv_lconst (v := 0) hx hb dX12_next_147 (by decide) ?_
              refine rr_putL (k := 9) (v := 0) C hM f_X12_133 rfl (fun r h => by cases h; rfl) rfl dX12_next_148 (fun H locs hM => ?_)
              have hM : mH D H0 (rM h0 (uL Rb 9 (0 : Int64))) kc ns H locs := hM
              have hF : fr [6, 7, 8, 9] R (uL Rb 9 (0 : Int64)) := hF.J (by decide)
              refine lv_aload_n hx hb dX12_next_151 rfl (lv_at hl 0 rfl) ?_
              refine rr_getI (k := 6) (v := rI Rb 6) C hM f_X12_119 rfl rfl dX12_next_152 ?_
              refine lv_topi (fun xv137 exv137 => ?_)
              have mxv137 : xv137.toInt = (rI Rb 6).toInt := by rw [exv137]
              refine lv_istore_n (lv' := [(2, .int xv137), (0, .ref h0)]) hx hb dX12_next_155 rfl hl (by decide) rfl (fun ls hl => ?_)
              have zv138 : (rI (uL Rb 9 (0 : Int64)) 3).toInt = (rI R 3).toInt := by rw [hF.gI 3 (by decide)]
              have zv139 : (rI (uL Rb 9 (0 : Int64)) 6).toInt = (rI Rb 6).toInt := rfl
              have zv140 : (rI (uL Rb 9 (0 : Int64)) 7).toInt = (rI Rb 7).toInt := rfl
              have zv141 : (rI (uL Rb 9 (0 : Int64)) 8).toInt = (rI Rb 8).toInt := rfl
              have loop156 : ∀ (fu : Nat) (kz : Int32) (Rc : RS) (H : Heap) (locs : List Loc) (ls : Array Slot), (fr [6, 7, 8, 9] R Rc) → (0 ≤ (rI Rc 6).toInt ∧ (rI Rc 6).toInt < (rI R 3).toInt ∧ (rI Rc 6).toInt < (rI Rc 7).toInt) → ((rI Rc 7).toInt ≤ 1600) → (0 ≤ kz.toInt ∧ kz.toInt ≤ 1601) → (1602 - kz.toInt).toNat < fu → lv_has ls 3 [(0, .ref h0), (2, .int kz)] → mH D H0 (rM h0 Rc) kc ns H locs → W p l e ({ frames := 1, cells := 0, slots := 0, locals := 21 } : Room) s m args below meth c H locs 0 0 (MQ below (mQ D H0 gV (fun r S1 k1 n1 => kc = k1 ∧ ns = n1 ∧ ∃ R1, S1 = rM h0 R1 ∧ fr [6, 7, 8, 9] R R1 ∧ (0 ≤ (rI R1 6).toInt ∧ (rI R1 6).toInt ≤ 1600 ∧ 0 ≤ (rI R1 7).toInt ∧ (rI R1 7).toInt ≤ 1601 ∧ (¬ (rI R1 8).toInt = 3 ∨ (2 ≤ (rI R1 7).toInt - (rI R1 6).toInt ∧ (rI R1 7).toInt - (rI R1 6).toInt ≤ 18 ∧ (rI R1 7).toInt ≤ (rI R 3).toInt))))) args s 0 0 (mF H0)) (F0 m 156 ls []) := by
                intro fu
                induction fu with
                | zero => intro kz Rc H locs ls h156_0 h156_1 h156_2 h156_3 hfu; exact absurd hfu (by omega)
                | succ fu ih156 =>
                  intro kz Rc H locs ls h156_0 h156_1 h156_2 h156_3 hfu hl hM
                  have hF := h156_0
                  refine lv_iload_n hx hb dX12_next_156 rfl (lv_at hl 1 rfl) ?_
                  refine lv_aload_n hx hb dX12_next_157 rfl (lv_at hl 0 rfl) ?_
                  refine rr_getI (k := 7) (v := rI Rc 7) C hM f_X12_116 rfl rfl dX12_next_158 ?_
                  refine lv_topi (fun xv142 exv142 => ?_)
                  have mxv142 : xv142.toInt = (rI Rc 7).toInt := by rw [exv142]
                  refine lv_icmp_ge (tgt := 199) hx hb dX12_next_161 (by decide) (fun cv143 => ?_) (fun cv143 => ?_)
                  · have tcv143 := leT cv143
                    refine lv_aload_n hx hb dX12_next_199 rfl (lv_at hl 0 rfl) ?_
                    refine lv_aload_n hx hb dX12_next_200 rfl (lv_at hl 0 rfl) ?_
                    refine rr_getI (k := 7) (v := xv142) C hM f_X12_116 rfl (exv142.symm) dX12_next_201 ?_
                    refine lv_aload_n hx hb dX12_next_204 rfl (lv_at hl 0 rfl) ?_
                    refine rr_getI (k := 6) (v := rI Rc 6) C hM f_X12_119 rfl rfl dX12_next_205 ?_
                    refine lv_topi (fun xv144 exv144 => ?_)
                    have mxv144 : xv144.toInt = (rI Rc 6).toInt := by rw [exv144]
                    refine lv_isub hx hb dX12_next_208 ?_
                    refine lv_topi (fun xv145 exv145 => ?_)
                    try (have txv145 := subI (a := xv142) (b := xv144) (by omega) (by omega); rw [← exv145] at txv145)
                    refine lv_bipush (v := 8) hx hb dX12_next_209 (by decide) ?_
                    refine lv_icmp_le (tgt := 218) hx hb dX12_next_211 (by decide) (fun cv146 => ?_) (fun cv146 => ?_)
                    · have tcv146 := leT cv146
                      refine lv_iconst (v := 2) hx hb dX12_next_218 (by decide) ?_
                      refine rr_putI (k := 8) (v := (2 : Int32)) C hM f_X12_126 rfl (fun r h => by cases h; rfl) rfl dX12_next_219 (fun H locs hM => ?_)
                      have hM : mH D H0 (rM h0 (uI Rc 8 (2 : Int32))) kc ns H locs := hM
                      have hF : fr [6, 7, 8, 9] R (uI Rc 8 (2 : Int32)) := hF.I (by decide)
                      refine lv_goto (tgt := 389) hx hb dX12_next_222 (by decide) ?_
                      have zv147 : (rI (uI Rc 8 (2 : Int32)) 3).toInt = (rI R 3).toInt := by rw [hF.gI 3 (by decide)]
                      have zv148 : (rI (uI Rc 8 (2 : Int32)) 6).toInt = (rI Rc 6).toInt := rfl
                      have zv149 : (rI (uI Rc 8 (2 : Int32)) 7).toInt = (rI Rc 7).toInt := rfl
                      have zv150 : (rI (uI Rc 8 (2 : Int32)) 8).toInt = (2 : Int32).toInt := rfl
                      exact r_retV C hr hlk hM (⟨rfl, rfl, _, rfl, hF, by omega⟩) dX12_next_389
                    · have tcv146 := leF cv146
                      refine lv_iconst (v := 1) hx hb dX12_next_214 (by decide) ?_
                      refine lv_goto (tgt := 219) hx hb dX12_next_215 (by decide) ?_
                      refine rr_putI (k := 8) (v := (1 : Int32)) C hM f_X12_126 rfl (fun r h => by cases h; rfl) rfl dX12_next_219 (fun H locs hM => ?_)
                      have hM : mH D H0 (rM h0 (uI Rc 8 (1 : Int32))) kc ns H locs := hM
                      have hF : fr [6, 7, 8, 9] R (uI Rc 8 (1 : Int32)) := hF.I (by decide)
                      refine lv_goto (tgt := 389) hx hb dX12_next_222 (by decide) ?_
                      have zv151 : (rI (uI Rc 8 (1 : Int32)) 3).toInt = (rI R 3).toInt := by rw [hF.gI 3 (by decide)]
                      have zv152 : (rI (uI Rc 8 (1 : Int32)) 6).toInt = (rI Rc 6).toInt := rfl
                      have zv153 : (rI (uI Rc 8 (1 : Int32)) 7).toInt = (rI Rc 7).toInt := rfl
                      have zv154 : (rI (uI Rc 8 (1 : Int32)) 8).toInt = (1 : Int32).toInt := rfl
                      exact r_retV C hr hlk hM (⟨rfl, rfl, _, rfl, hF, by omega⟩) dX12_next_389
                  · have tcv143 := leF cv143
                    refine lv_iload_n hx hb dX12_next_164 rfl (lv_at hl 1 rfl) ?_
                    refine lv_aload_n hx hb dX12_next_165 rfl (lv_at hl 0 rfl) ?_
                    refine rr_getI (k := 6) (v := rI Rc 6) C hM f_X12_119 rfl rfl dX12_next_166 ?_
                    refine lv_topi (fun xv155 exv155 => ?_)
                    have mxv155 : xv155.toInt = (rI Rc 6).toInt := by rw [exv155]
                    refine lv_bipush (v := 8) hx hb dX12_next_169 (by decide) ?_
                    refine lv_iadd hx hb dX12_next_171 ?_
                    refine lv_topi (fun xv156 exv156 => ?_)
                    try (have txv156 := addI (a := xv155) (b := 8) (by omega) (by omega); rw [← exv156] at txv156)
                    refine lv_icmp_ge (tgt := 199) hx hb dX12_next_172 (by decide) (fun cv157 => ?_) (fun cv157 => ?_)
                    · have tcv157 := leT cv157
                      refine lv_aload_n hx hb dX12_next_199 rfl (lv_at hl 0 rfl) ?_
                      refine lv_aload_n hx hb dX12_next_200 rfl (lv_at hl 0 rfl) ?_
                      refine rr_getI (k := 7) (v := xv142) C hM f_X12_116 rfl (exv142.symm) dX12_next_201 ?_
                      refine lv_aload_n hx hb dX12_next_204 rfl (lv_at hl 0 rfl) ?_
                      refine rr_getI (k := 6) (v := xv155) C hM f_X12_119 rfl (exv155.symm) dX12_next_205 ?_
                      refine lv_isub hx hb dX12_next_208 ?_
                      refine lv_topi (fun xv158 exv158 => ?_)
                      try (have txv158 := subI (a := xv142) (b := xv155) (by omega) (by omega); rw [← exv158] at txv158)
                      refine lv_bipush (v := 8) hx hb dX12_next_209 (by decide) ?_
                      refine lv_icmp_le (tgt := 218) hx hb dX12_next_211 (by decide) (fun cv159 => ?_) (fun cv159 => ?_)
                      · have tcv159 := leT cv159
                        refine lv_iconst (v := 2) hx hb dX12_next_218 (by decide) ?_
                        refine rr_putI (k := 8) (v := (2 : Int32)) C hM f_X12_126 rfl (fun r h => by cases h; rfl) rfl dX12_next_219 (fun H locs hM => ?_)
                        have hM : mH D H0 (rM h0 (uI Rc 8 (2 : Int32))) kc ns H locs := hM
                        have hF : fr [6, 7, 8, 9] R (uI Rc 8 (2 : Int32)) := hF.I (by decide)
                        refine lv_goto (tgt := 389) hx hb dX12_next_222 (by decide) ?_
                        have zv160 : (rI (uI Rc 8 (2 : Int32)) 3).toInt = (rI R 3).toInt := by rw [hF.gI 3 (by decide)]
                        have zv161 : (rI (uI Rc 8 (2 : Int32)) 6).toInt = (rI Rc 6).toInt := rfl
                        have zv162 : (rI (uI Rc 8 (2 : Int32)) 7).toInt = (rI Rc 7).toInt := rfl
                        have zv163 : (rI (uI Rc 8 (2 : Int32)) 8).toInt = (2 : Int32).toInt := rfl
                        exact r_retV C hr hlk hM (⟨rfl, rfl, _, rfl, hF, by omega⟩) dX12_next_389
                      · have tcv159 := leF cv159
                        refine lv_iconst (v := 1) hx hb dX12_next_214 (by decide) ?_
                        refine lv_goto (tgt := 219) hx hb dX12_next_215 (by decide) ?_
                        refine rr_putI (k := 8) (v := (1 : Int32)) C hM f_X12_126 rfl (fun r h => by cases h; rfl) rfl dX12_next_219 (fun H locs hM => ?_)
                        have hM : mH D H0 (rM h0 (uI Rc 8 (1 : Int32))) kc ns H locs := hM
                        have hF : fr [6, 7, 8, 9] R (uI Rc 8 (1 : Int32)) := hF.I (by decide)
                        refine lv_goto (tgt := 389) hx hb dX12_next_222 (by decide) ?_
                        have zv164 : (rI (uI Rc 8 (1 : Int32)) 3).toInt = (rI R 3).toInt := by rw [hF.gI 3 (by decide)]
                        have zv165 : (rI (uI Rc 8 (1 : Int32)) 6).toInt = (rI Rc 6).toInt := rfl
                        have zv166 : (rI (uI Rc 8 (1 : Int32)) 7).toInt = (rI Rc 7).toInt := rfl
                        have zv167 : (rI (uI Rc 8 (1 : Int32)) 8).toInt = (1 : Int32).toInt := rfl
                        exact r_retV C hr hlk hM (⟨rfl, rfl, _, rfl, hF, by omega⟩) dX12_next_389
                    · have tcv157 := leF cv157
                      refine lv_aload_n hx hb dX12_next_175 rfl (lv_at hl 0 rfl) ?_
                      refine lv_aload_n hx hb dX12_next_176 rfl (lv_at hl 0 rfl) ?_
                      refine rr_getL (k := 9) (v := rL Rc 9) C hM f_X12_133 rfl rfl dX12_next_177 ?_
                      refine lv_topl (fun lv168 elv168 => ?_)
                      refine lv_bipush (v := 8) hx hb dX12_next_180 (by decide) ?_
                      refine lv_lshl hx hb dX12_next_182 rfl ?_
                      refine lv_topl (fun lv169 elv169 => ?_)
                      refine lv_aload_n hx hb dX12_next_183 rfl (lv_at hl 0 rfl) ?_
                      refine lv_iload_n hx hb dX12_next_184 rfl (lv_at hl 1 rfl) ?_
                      have zv170 : (rI Rc 3).toInt = (rI R 3).toInt := by rw [hF.gI 3 (by decide)]
                      refine r_V (As := [.int kz]) (rest := [.long lv169, .ref h0]) (ci := 12) C hM (c_X12_sign l D H0 h0 Rc kc ns kz (hI0.fr hF (by decide)) (by omega)) i_X12_sign m_X12_122 rK0 rfl rfl rfl hl.1 rfl (Nat.le_of_ble_eq_true rfl) ⟨by decide, by decide⟩ ⟨by decide, by decide⟩ dX12_next_185 (fun xv174 Sv171 kv172 nv173 H locs pv175 hM => ?_)
                      obtain ⟨rfl, rfl, rfl, hxv174⟩ := pv175
                      refine W.eq (g2 := F0 m 188 ls [.int xv174, .long lv169, .ref h0]) rfl ?_
                      refine lv_i2l hx hb dX12_next_188 rfl ?_
                      refine lv_topl (fun lv176 elv176 => ?_)
                      refine lv_lor hx hb dX12_next_189 ?_
                      refine lv_topl (fun lv177 elv177 => ?_)
                      refine rr_putL (k := 9) (v := lv177) C hM f_X12_133 rfl (fun r h => by cases h; rfl) rfl dX12_next_190 (fun H locs hM => ?_)
                      have hM : mH D H0 (rM h0 (uL Rc 9 (lv177 : Int64))) kc ns H locs := hM
                      have hF : fr [6, 7, 8, 9] R (uL Rc 9 (lv177 : Int64)) := hF.J (by decide)
                      obtain ⟨xv178, exv178⟩ : ∃ y : Int32, y = kz + 1 := ⟨_, rfl⟩
                      try (have txv178 := addI (a := kz) (b := 1) (by omega) (by omega); rw [← exv178] at txv178)
                      refine lv_iinc (v := xv178) (lv' := [(2, .int xv178), (0, .ref h0)]) hx hb dX12_next_193 hl (k := 1) rfl (by rw [exv178]; rfl) (by decide) rfl (fun ls hl => ?_)
                      refine lv_goto (tgt := 156) hx hb dX12_next_196 (by decide) ?_
                      have zv179 : (rI (uL Rc 9 (lv177 : Int64)) 3).toInt = (rI R 3).toInt := by rw [hF.gI 3 (by decide)]
                      have zv180 : (rI (uL Rc 9 (lv177 : Int64)) 6).toInt = (rI Rc 6).toInt := rfl
                      have zv181 : (rI (uL Rc 9 (lv177 : Int64)) 7).toInt = (rI Rc 7).toInt := rfl
                      have zv182 : (rI (uL Rc 9 (lv177 : Int64)) 8).toInt = (rI Rc 8).toInt := rfl
                      exact ih156 xv178 (uL Rc 9 (lv177 : Int64)) _ _ _ (hF) (by omega) (by omega) (by omega) (by omega) (lv_sub hl [1, 0] rfl) hM
              have zv183 : (rI (uL Rb 9 (0 : Int64)) 3).toInt = (rI R 3).toInt := by rw [hF.gI 3 (by decide)]
              have zv184 : (rI (uL Rb 9 (0 : Int64)) 6).toInt = (rI Rb 6).toInt := rfl
              have zv185 : (rI (uL Rb 9 (0 : Int64)) 7).toInt = (rI Rb 7).toInt := rfl
              have zv186 : (rI (uL Rb 9 (0 : Int64)) 8).toInt = (rI Rb 8).toInt := rfl
              exact loop156 (((1602 - xv137.toInt).toNat) + 1) xv137 (uL Rb 9 (0 : Int64)) _ _ _ (hF) (by omega) (by omega) (by omega) (by omega) (lv_sub hl [1, 0] rfl) hM
            · have tcv136 := eqF cv136
              refine lv_aload_n hx hb dX12_next_133 rfl (lv_at hl 0 rfl) ?_
              refine lv_dup hx hb dX12_next_134 rfl ?_
              refine rr_getI (k := 7) (v := xv123) C hM f_X12_116 rfl (exv123.symm) dX12_next_135 ?_
              refine lv_iconst (v := 1) hx hb dX12_next_138 (by decide) ?_
              refine lv_iadd hx hb dX12_next_139 ?_
              refine lv_topi (fun xv187 exv187 => ?_)
              try (have txv187 := addI (a := xv123) (b := 1) (by omega) (by omega); rw [← exv187] at txv187)
              refine rr_putI (k := 7) (v := xv187) C hM f_X12_116 rfl (fun r h => by cases h; rfl) rfl dX12_next_140 (fun H locs hM => ?_)
              have hM : mH D H0 (rM h0 (uI Rb 7 xv187)) kc ns H locs := hM
              have hF : fr [6, 7, 8, 9] R (uI Rb 7 xv187) := hF.I (by decide)
              refine lv_goto (tgt := 119) hx hb dX12_next_143 (by decide) ?_
              have zv188 : (rI (uI Rb 7 xv187) 3).toInt = (rI R 3).toInt := by rw [hF.gI 3 (by decide)]
              have zv189 : (rI (uI Rb 7 xv187) 6).toInt = (rI Rb 6).toInt := rfl
              have zv190 : (rI (uI Rb 7 xv187) 7).toInt = xv187.toInt := rfl
              have zv191 : (rI (uI Rb 7 xv187) 8).toInt = (rI Rb 8).toInt := rfl
              exact ih119 (uI Rb 7 xv187) _ _ _ (hF) (by omega) (by omega) (by omega) (lv_sub hl [0] rfl) hM
        have zv192 : (rI (uI Rj 7 xv8) 3).toInt = (rI R 3).toInt := by rw [hF.gI 3 (by decide)]
        have zv193 : (rI (uI Rj 7 xv8) 6).toInt = (rI Rj 6).toInt := rfl
        have zv194 : (rI (uI Rj 7 xv8) 7).toInt = xv8.toInt := rfl
        have zv195 : (rI (uI Rj 7 xv8) 8).toInt = (rI Rj 8).toInt := rfl
        exact loop119 (((1601 - (rI (uI Rj 7 xv8) 7).toInt).toNat) + 1) (uI Rj 7 xv8) _ _ _ (hF) (by omega) (by omega) (by omega) (lv_sub hl [1] rfl) hM
    · have tcv10 := ltF cv10
      refine lv_aload_n hx hb dX12_next_88 rfl (lv_at hl 1 rfl) ?_
      refine lv_iconst (v := 0) hx hb dX12_next_89 (by decide) ?_
      refine rr_putI (k := 8) (v := (0 : Int32)) C hM f_X12_126 rfl (fun r h => by cases h; rfl) rfl dX12_next_90 (fun H locs hM => ?_)
      have hM : mH D H0 (rM h0 (uI (uI Rj 7 xv8) 8 (0 : Int32))) kc ns H locs := hM
      have hF : fr [6, 7, 8, 9] R (uI (uI Rj 7 xv8) 8 (0 : Int32)) := hF.I (by decide)
      refine lv_aload_n hx hb dX12_next_93 rfl (lv_at hl 1 rfl) ?_
      refine lv_aload_n hx hb dX12_next_94 rfl (lv_at hl 1 rfl) ?_
      refine rr_getI (k := 3) (v := xv9) C hM f_X12_110 rfl ((hF.gI 3 (by decide)).trans exv9.symm) dX12_next_95 ?_
      refine rr_putI (k := 6) (v := xv9) C hM f_X12_119 rfl (fun r h => by cases h; rfl) rfl dX12_next_98 (fun H locs hM => ?_)
      have hM : mH D H0 (rM h0 (uI (uI (uI Rj 7 xv8) 8 (0 : Int32)) 6 xv9)) kc ns H locs := hM
      have hF : fr [6, 7, 8, 9] R (uI (uI (uI Rj 7 xv8) 8 (0 : Int32)) 6 xv9) := hF.I (by decide)
      refine lv_aload_n hx hb dX12_next_101 rfl (lv_at hl 1 rfl) ?_
      refine lv_aload_n hx hb dX12_next_102 rfl (lv_at hl 1 rfl) ?_
      refine rr_getI (k := 3) (v := xv9) C hM f_X12_110 rfl ((hF.gI 3 (by decide)).trans exv9.symm) dX12_next_103 ?_
      refine rr_putI (k := 7) (v := xv9) C hM f_X12_116 rfl (fun r h => by cases h; rfl) rfl dX12_next_106 (fun H locs hM => ?_)
      have hM : mH D H0 (rM h0 (uI (uI (uI (uI Rj 7 xv8) 8 (0 : Int32)) 6 xv9) 7 xv9)) kc ns H locs := hM
      have hF : fr [6, 7, 8, 9] R (uI (uI (uI (uI Rj 7 xv8) 8 (0 : Int32)) 6 xv9) 7 xv9) := hF.I (by decide)
      refine lv_goto (tgt := 389) hx hb dX12_next_109 (by decide) ?_
      have zv196 : (rI (uI (uI (uI (uI Rj 7 xv8) 8 (0 : Int32)) 6 xv9) 7 xv9) 3).toInt = (rI R 3).toInt := by rw [hF.gI 3 (by decide)]
      have zv197 : (rI (uI (uI (uI (uI Rj 7 xv8) 8 (0 : Int32)) 6 xv9) 7 xv9) 6).toInt = xv9.toInt := rfl
      have zv198 : (rI (uI (uI (uI (uI Rj 7 xv8) 8 (0 : Int32)) 6 xv9) 7 xv9) 7).toInt = xv9.toInt := rfl
      have zv199 : (rI (uI (uI (uI (uI Rj 7 xv8) 8 (0 : Int32)) 6 xv9) 7 xv9) 8).toInt = (0 : Int32).toInt := rfl
      exact r_retV C hr hlk hM (⟨rfl, rfl, _, rfl, hF, by omega⟩) dX12_next_389
  refine lv_aload_n hx hb dX12_next_0 rfl (lv_at hl 0 rfl) ?_
  refine lv_aload_n hx hb dX12_next_1 rfl (lv_at hl 0 rfl) ?_
  refine rr_getI (k := 7) (v := rI R 7) C hM f_X12_116 rfl rfl dX12_next_2 ?_
  refine lv_topi (fun xv200 exv200 => ?_)
  have mxv200 : xv200.toInt = (rI R 7).toInt := by rw [exv200]
  refine rr_putI (k := 6) (v := xv200) C hM f_X12_119 rfl (fun r h => by cases h; rfl) rfl dX12_next_5 (fun H locs hM => ?_)
  have hM : mH D H0 (rM h0 (uI R 6 xv200)) kc ns H locs := hM
  have hF : fr [6, 7, 8, 9] R (uI R 6 xv200) := hF.I (by decide)
  have zv201 : (rI (uI R 6 xv200) 3).toInt = (rI R 3).toInt := by rw [hF.gI 3 (by decide)]
  have zv202 : (rI (uI R 6 xv200) 6).toInt = xv200.toInt := rfl
  have zv203 : (rI (uI R 6 xv200) 7).toInt = (rI R 7).toInt := rfl
  have zv204 : (rI (uI R 6 xv200) 8).toInt = (rI R 8).toInt := rfl
  have loop8 : ∀ (fu : Nat) (Ra : RS) (H : Heap) (locs : List Loc) (ls : Array Slot), (fr [6, 7, 8, 9] R Ra) → (0 ≤ (rI Ra 6).toInt ∧ (rI Ra 6).toInt ≤ 1601) → (1601 - (rI Ra 6).toInt).toNat < fu → lv_has ls 3 [(0, .ref h0)] → mH D H0 (rM h0 Ra) kc ns H locs → W p l e ({ frames := 1, cells := 0, slots := 0, locals := 21 } : Room) s m args below meth c H locs 0 0 (MQ below (mQ D H0 gV (fun r S1 k1 n1 => kc = k1 ∧ ns = n1 ∧ ∃ R1, S1 = rM h0 R1 ∧ fr [6, 7, 8, 9] R R1 ∧ (0 ≤ (rI R1 6).toInt ∧ (rI R1 6).toInt ≤ 1600 ∧ 0 ≤ (rI R1 7).toInt ∧ (rI R1 7).toInt ≤ 1601 ∧ (¬ (rI R1 8).toInt = 3 ∨ (2 ≤ (rI R1 7).toInt - (rI R1 6).toInt ∧ (rI R1 7).toInt - (rI R1 6).toInt ≤ 18 ∧ (rI R1 7).toInt ≤ (rI R 3).toInt))))) args s 0 0 (mF H0)) (F0 m 8 ls []) := by
    intro fu
    induction fu with
    | zero => intro Ra H locs ls h8_0 h8_1 hfu; exact absurd hfu (by omega)
    | succ fu ih8 =>
      intro Ra H locs ls h8_0 h8_1 hfu hl hM
      have hF := h8_0
      refine lv_aload_n hx hb dX12_next_8 rfl (lv_at hl 0 rfl) ?_
      refine rr_getI (k := 6) (v := rI Ra 6) C hM f_X12_119 rfl rfl dX12_next_9 ?_
      refine lv_topi (fun xv205 exv205 => ?_)
      have mxv205 : xv205.toInt = (rI Ra 6).toInt := by rw [exv205]
      refine lv_aload_n hx hb dX12_next_12 rfl (lv_at hl 0 rfl) ?_
      refine rr_getI (k := 3) (v := rI R 3) C hM f_X12_110 rfl (hF.gI 3 (by decide)) dX12_next_13 ?_
      refine lv_topi (fun xv206 exv206 => ?_)
      have mxv206 : xv206.toInt = (rI R 3).toInt := by rw [exv206]
      have fxv206 := RI.size hI0; rw [← exv206] at fxv206
      refine lv_icmp_ge (tgt := 58) hx hb dX12_next_16 (by decide) (fun cv207 => ?_) (fun cv207 => ?_)
      · have tcv207 := leT cv207
        have zv208 : (rI Ra 3).toInt = (rI R 3).toInt := by rw [hF.gI 3 (by decide)]
        exact join58 Ra _ _ _ (hF) (by omega) (lv_sub hl [0] rfl) hM
      · have tcv207 := leF cv207
        refine lv_aload_n hx hb dX12_next_19 rfl (lv_at hl 0 rfl) ?_
        refine lv_aload_n hx hb dX12_next_20 rfl (lv_at hl 0 rfl) ?_
        refine rr_getI (k := 6) (v := xv205) C hM f_X12_119 rfl (exv205.symm) dX12_next_21 ?_
        have zv209 : (rI Ra 3).toInt = (rI R 3).toInt := by rw [hF.gI 3 (by decide)]
        refine r_V (As := [.int xv205]) (rest := []) (ci := 12) C hM (c_X12_sign l D H0 h0 Ra kc ns xv205 (hI0.fr hF (by decide)) (by omega)) i_X12_sign m_X12_122 rK0 rfl rfl rfl hl.1 rfl (Nat.le_of_ble_eq_true rfl) ⟨by decide, by decide⟩ ⟨by decide, by decide⟩ dX12_next_24 (fun xv213 Sv210 kv211 nv212 H locs pv214 hM => ?_)
        obtain ⟨rfl, rfl, rfl, hxv213⟩ := pv214
        refine W.eq (g2 := F0 m 27 ls [.int xv213]) rfl ?_
        refine lv_bipush (v := 32) hx hb dX12_next_27 (by decide) ?_
        refine lv_icmp_eq (tgt := 45) hx hb dX12_next_29 (by decide) (fun cv215 => ?_) (fun cv215 => ?_)
        · have tcv215 := eqT cv215
          refine lv_aload_n hx hb dX12_next_45 rfl (lv_at hl 0 rfl) ?_
          refine lv_dup hx hb dX12_next_46 rfl ?_
          refine rr_getI (k := 6) (v := xv205) C hM f_X12_119 rfl (exv205.symm) dX12_next_47 ?_
          refine lv_iconst (v := 1) hx hb dX12_next_50 (by decide) ?_
          refine lv_iadd hx hb dX12_next_51 ?_
          refine lv_topi (fun xv216 exv216 => ?_)
          try (have txv216 := addI (a := xv205) (b := 1) (by omega) (by omega); rw [← exv216] at txv216)
          refine rr_putI (k := 6) (v := xv216) C hM f_X12_119 rfl (fun r h => by cases h; rfl) rfl dX12_next_52 (fun H locs hM => ?_)
          have hM : mH D H0 (rM h0 (uI Ra 6 xv216)) kc ns H locs := hM
          have hF : fr [6, 7, 8, 9] R (uI Ra 6 xv216) := hF.I (by decide)
          refine lv_goto (tgt := 8) hx hb dX12_next_55 (by decide) ?_
          have zv217 : (rI (uI Ra 6 xv216) 3).toInt = (rI R 3).toInt := by rw [hF.gI 3 (by decide)]
          have zv218 : (rI (uI Ra 6 xv216) 6).toInt = xv216.toInt := rfl
          have zv219 : (rI (uI Ra 6 xv216) 7).toInt = (rI Ra 7).toInt := rfl
          have zv220 : (rI (uI Ra 6 xv216) 8).toInt = (rI Ra 8).toInt := rfl
          exact ih8 (uI Ra 6 xv216) _ _ _ (hF) (by omega) (by omega) (lv_sub hl [0] rfl) hM
        · have tcv215 := eqF cv215
          refine lv_aload_n hx hb dX12_next_32 rfl (lv_at hl 0 rfl) ?_
          refine lv_aload_n hx hb dX12_next_33 rfl (lv_at hl 0 rfl) ?_
          refine rr_getI (k := 6) (v := xv205) C hM f_X12_119 rfl (exv205.symm) dX12_next_34 ?_
          have zv221 : (rI Ra 3).toInt = (rI R 3).toInt := by rw [hF.gI 3 (by decide)]
          refine r_V (As := [.int xv205]) (rest := []) (ci := 12) C hM (c_X12_sign l D H0 h0 Ra kc ns xv205 (hI0.fr hF (by decide)) (by omega)) i_X12_sign m_X12_122 rK0 rfl rfl rfl hl.1 rfl (Nat.le_of_ble_eq_true rfl) ⟨by decide, by decide⟩ ⟨by decide, by decide⟩ dX12_next_37 (fun xv225 Sv222 kv223 nv224 H locs pv226 hM => ?_)
          obtain ⟨rfl, rfl, rfl, hxv225⟩ := pv226
          refine W.eq (g2 := F0 m 40 ls [.int xv225]) rfl ?_
          refine lv_bipush (v := 10) hx hb dX12_next_40 (by decide) ?_
          refine lv_icmp_ne (tgt := 58) hx hb dX12_next_42 (by decide) (fun cv227 => ?_) (fun cv227 => ?_)
          · have tcv227 := eqF cv227
            have zv228 : (rI Ra 3).toInt = (rI R 3).toInt := by rw [hF.gI 3 (by decide)]
            exact join58 Ra _ _ _ (hF) (by omega) (lv_sub hl [0] rfl) hM
          · have tcv227 := eqT cv227
            refine lv_aload_n hx hb dX12_next_45 rfl (lv_at hl 0 rfl) ?_
            refine lv_dup hx hb dX12_next_46 rfl ?_
            refine rr_getI (k := 6) (v := xv205) C hM f_X12_119 rfl (exv205.symm) dX12_next_47 ?_
            refine lv_iconst (v := 1) hx hb dX12_next_50 (by decide) ?_
            refine lv_iadd hx hb dX12_next_51 ?_
            refine lv_topi (fun xv229 exv229 => ?_)
            try (have txv229 := addI (a := xv205) (b := 1) (by omega) (by omega); rw [← exv229] at txv229)
            refine rr_putI (k := 6) (v := xv229) C hM f_X12_119 rfl (fun r h => by cases h; rfl) rfl dX12_next_52 (fun H locs hM => ?_)
            have hM : mH D H0 (rM h0 (uI Ra 6 xv229)) kc ns H locs := hM
            have hF : fr [6, 7, 8, 9] R (uI Ra 6 xv229) := hF.I (by decide)
            refine lv_goto (tgt := 8) hx hb dX12_next_55 (by decide) ?_
            have zv230 : (rI (uI Ra 6 xv229) 3).toInt = (rI R 3).toInt := by rw [hF.gI 3 (by decide)]
            have zv231 : (rI (uI Ra 6 xv229) 6).toInt = xv229.toInt := rfl
            have zv232 : (rI (uI Ra 6 xv229) 7).toInt = (rI Ra 7).toInt := rfl
            have zv233 : (rI (uI Ra 6 xv229) 8).toInt = (rI Ra 8).toInt := rfl
            exact ih8 (uI Ra 6 xv229) _ _ _ (hF) (by omega) (by omega) (lv_sub hl [0] rfl) hM
  have zv234 : (rI (uI R 6 xv200) 3).toInt = (rI R 3).toInt := by rw [hF.gI 3 (by decide)]
  have zv235 : (rI (uI R 6 xv200) 6).toInt = xv200.toInt := rfl
  have zv236 : (rI (uI R 6 xv200) 7).toInt = (rI R 7).toInt := rfl
  have zv237 : (rI (uI R 6 xv200) 8).toInt = (rI R 8).toInt := rfl
  exact loop8 (((1601 - (rI (uI R 6 xv200) 6).toInt).toNat) + 1) (uI R 6 xv200) _ _ _ (hF) (by omega) (by omega) (lv_sub hl [0] rfl) hM
set_option maxHeartbeats 4000000 in
set_option maxRecDepth 100000 in
theorem c_X12_fails (l : Launch) (D : gD) (H0 : gB) (h0 : Nat) (R : RS) (kc ns : Nat) (i0 i1 : Int32)  : Met l yX12_fails (wsU yX12_fails cX12_fails 3 none) ({ frames := 0, cells := 0, slots := 0, locals := 0 } : Room) (mP D H0 (rM h0 R) kc ns [.ref h0, .int i0, .int i1]) (mQ D H0 gV (fun r S1 k1 n1 => kc = k1 ∧ ns = n1 ∧ ∃ R1, S1 = rM h0 R1 ∧ fr [4, 5] R R1 ∧ (¬ 0 < i0.toInt ∨ 0 < (rI R1 4).toInt))) 0 0 (mF H0) := by
  refine r_met (own := RX12) (by decide +kernel) rfl (Nat.le_of_ble_eq_true rfl) ?_
  intro p e s m args below meth c C hr hlk hnm H ls hl hM
  obtain ⟨hx, hb, hml, hown, hts, -, -⟩ := id C
  have hl : lv_has ls 3 [(0, .ref h0), (1, .int i0), (2, .int i1)] := hl
  have hF : fr [4, 5] R R := fr.rf
  have t_0 : (0 : Int32).toInt = 0 := by decide
  refine lv_aload_n hx hb dX12_fails_0 rfl (lv_at hl 0 rfl) ?_
  refine rr_getI (k := 4) (v := rI R 4) C hM f_X12_113 rfl rfl dX12_fails_1 ?_
  refine lv_topi (fun xv1 exv1 => ?_)
  have mxv1 : xv1.toInt = (rI R 4).toInt := by rw [exv1]
  refine lv_if_le (tgt := 8) hx hb dX12_fails_4 (by decide) (fun cv2 => ?_) (fun cv2 => ?_)
  · have tcv2 := leT cv2
    refine lv_aload_n hx hb dX12_fails_8 rfl (lv_at hl 0 rfl) ?_
    refine lv_iload_n hx hb dX12_fails_9 rfl (lv_at hl 1 rfl) ?_
    refine rr_putI (k := 4) (v := i0) C hM f_X12_113 rfl (fun r h => by cases h; rfl) rfl dX12_fails_10 (fun H locs hM => ?_)
    have hM : mH D H0 (rM h0 (uI R 4 i0)) kc ns H locs := hM
    have hF : fr [4, 5] R (uI R 4 i0) := hF.I (by decide)
    refine lv_aload_n hx hb dX12_fails_13 rfl (lv_at hl 0 rfl) ?_
    refine lv_iload_n hx hb dX12_fails_14 rfl (lv_at hl 2 rfl) ?_
    refine rr_putI (k := 5) (v := i1) C hM f_X12_16 rfl (fun r h => by cases h; rfl) rfl dX12_fails_15 (fun H locs hM => ?_)
    have hM : mH D H0 (rM h0 (uI (uI R 4 i0) 5 i1)) kc ns H locs := hM
    have hF : fr [4, 5] R (uI (uI R 4 i0) 5 i1) := hF.I (by decide)
    have zv3 : (rI (uI (uI R 4 i0) 5 i1) 4).toInt = i0.toInt := rfl
    exact r_retV C hr hlk hM (⟨rfl, rfl, _, rfl, hF, by omega⟩) dX12_fails_18
  · have tcv2 := leF cv2
    exact r_retV C hr hlk hM (⟨rfl, rfl, _, rfl, hF, by omega⟩) dX12_fails_7
set_option maxHeartbeats 4000000 in
set_option maxRecDepth 100000 in
theorem c_X12_wrong (l : Launch) (D : gD) (H0 : gB) (h0 : Nat) (R : RS) (kc ns : Nat)  : Met l yX12_wrong (wsU yX12_wrong cX12_wrong 1 none) ({ frames := 1, cells := 0, slots := 0, locals := 22 } : Room) (mP D H0 (rM h0 R) kc ns [.ref h0]) (mQ D H0 gV (fun r S1 k1 n1 => kc = k1 ∧ ns = n1 ∧ ∃ R1, S1 = rM h0 R1 ∧ fr [4, 5] R R1 ∧ (0 < (rI R1 4).toInt))) 0 0 (mF H0) := by
  refine r_met (own := RX12) (by decide +kernel) rfl (Nat.le_of_ble_eq_true rfl) ?_
  intro p e s m args below meth c C hr hlk hnm H ls hl hM
  obtain ⟨hx, hb, hml, hown, hts, -, -⟩ := id C
  have hl : lv_has ls 1 [(0, .ref h0)] := hl
  have hF : fr [4, 5] R R := fr.rf
  have t_0 : (0 : Int32).toInt = 0 := by decide
  have t_1 : (1 : Int32).toInt = 1 := by decide
  have t_2 : (2 : Int32).toInt = 2 := by decide
  refine lv_aload_n hx hb dX12_wrong_0 rfl (lv_at hl 0 rfl) ?_
  refine lv_aload_n hx hb dX12_wrong_1 rfl (lv_at hl 0 rfl) ?_
  refine rr_getI (k := 8) (v := rI R 8) C hM f_X12_126 rfl (hF.gI 8 (by decide)) dX12_wrong_2 ?_
  refine lv_topi (fun xv1 exv1 => ?_)
  have mxv1 : xv1.toInt = (rI R 8).toInt := by rw [exv1]
  refine lv_iconst (v := 1) hx hb dX12_wrong_5 (by decide) ?_
  refine lv_icmp_ne (tgt := 13) hx hb dX12_wrong_6 (by decide) (fun cv2 => ?_) (fun cv2 => ?_)
  · have tcv2 := eqF cv2
    refine lv_iconst (v := 2) hx hb dX12_wrong_13 (by decide) ?_
    refine lv_aload_n hx hb dX12_wrong_14 rfl (lv_at hl 0 rfl) ?_
    refine rr_getI (k := 6) (v := rI R 6) C hM f_X12_119 rfl (hF.gI 6 (by decide)) dX12_wrong_15 ?_
    refine lv_topi (fun xv3 exv3 => ?_)
    have mxv3 : xv3.toInt = (rI R 6).toInt := by rw [exv3]
    refine r_V (As := [.int 2, .int xv3]) (rest := []) (ci := 12) C hM (c_X12_fails l D H0 h0 R kc ns 2 xv3) i_X12_fails m_X12_137 rK0 rfl rfl rfl hl.1 rfl (Nat.le_of_ble_eq_true rfl) ⟨by decide, by decide⟩ ⟨by decide, by decide⟩ dX12_wrong_18 (fun uv7 Sv4 kv5 nv6 H locs pv8 hM => ?_)
    obtain ⟨rfl, rfl, Rv9, rfl, hf9, huv7⟩ := pv8
    have hF : fr [4, 5] R Rv9 := hF.trans hf9 (by decide)
    refine W.eq (g2 := F0 m 21 ls []) rfl ?_
    exact r_retV C hr hlk hM (⟨rfl, rfl, _, rfl, hF, by omega⟩) dX12_wrong_21
  · have tcv2 := eqT cv2
    refine lv_iconst (v := 1) hx hb dX12_wrong_9 (by decide) ?_
    refine lv_goto (tgt := 14) hx hb dX12_wrong_10 (by decide) ?_
    refine lv_aload_n hx hb dX12_wrong_14 rfl (lv_at hl 0 rfl) ?_
    refine rr_getI (k := 6) (v := rI R 6) C hM f_X12_119 rfl (hF.gI 6 (by decide)) dX12_wrong_15 ?_
    refine lv_topi (fun xv10 exv10 => ?_)
    have mxv10 : xv10.toInt = (rI R 6).toInt := by rw [exv10]
    refine r_V (As := [.int 1, .int xv10]) (rest := []) (ci := 12) C hM (c_X12_fails l D H0 h0 R kc ns 1 xv10) i_X12_fails m_X12_137 rK0 rfl rfl rfl hl.1 rfl (Nat.le_of_ble_eq_true rfl) ⟨by decide, by decide⟩ ⟨by decide, by decide⟩ dX12_wrong_18 (fun uv14 Sv11 kv12 nv13 H locs pv15 hM => ?_)
    obtain ⟨rfl, rfl, Rv16, rfl, hf9, huv14⟩ := pv15
    have hF : fr [4, 5] R Rv16 := hF.trans hf9 (by decide)
    refine W.eq (g2 := F0 m 21 ls []) rfl ?_
    exact r_retV C hr hlk hM (⟨rfl, rfl, _, rfl, hF, by omega⟩) dX12_wrong_21
set_option maxHeartbeats 4000000 in
set_option maxRecDepth 100000 in
theorem c_X12_readPart (l : Launch) (D : gD) (H0 : gB) (h0 : Nat) (R : RS) (kc ns : Nat) (hI : RI R) (hR : RR R) (a0 : 0 ≤ (rI R 6).toInt) (a1 : 0 ≤ (rI R 7).toInt) (a2 : (rI R 7).toInt ≤ 1601)  : Met l yX12_readPart (wsU yX12_readPart cX12_readPart 4 none) ({ frames := 2, cells := 0, slots := 0, locals := 43 } : Room) (mP D H0 (rM h0 R) kc ns [.ref h0]) (mQ D H0 gV (fun r S1 k1 n1 => kc = k1 ∧ ns = n1 ∧ ∃ R1, S1 = rM h0 R1 ∧ fr [4, 5, 6, 7, 8, 9, 10, 11, 14, 15, 16, 17, 18, 19, 20, 21, 22] R R1 ∧ RI R1 ∧ RR R1 ∧ (0 ≤ (rI R1 6).toInt ∧ 0 ≤ (rI R1 7).toInt ∧ (rI R1 7).toInt ≤ 1601) ∧ ((rI R1 4).toInt ≠ 0 ∨ ((rA R1 10 30).toInt = (rA R 10 30).toInt + 1 ∧ (rI R1 22).toInt = (rI R 22).toInt + 1)))) 0 0 (mF H0) := by
  refine r_met (own := RX12) (by decide +kernel) rfl (Nat.le_of_ble_eq_true rfl) ?_
  intro p e s m args below meth c C hr hlk hnm H ls hl hM
  obtain ⟨hx, hb, hml, hown, hts, -, -⟩ := id C
  have hl : lv_has ls 4 [(0, .ref h0)] := hl
  have hF : fr [4, 5, 6, 7, 8, 9, 10, 11, 14, 15, 16, 17, 18, 19, 20, 21, 22] R R := fr.rf
  have hI0 := hI
  have t_m1 : (-1 : Int32).toInt = -1 := by decide
  have t_0 : (0 : Int32).toInt = 0 := by decide
  have t_1 : (1 : Int32).toInt = 1 := by decide
  have t_2 : (2 : Int32).toInt = 2 := by decide
  have t_3 : (3 : Int32).toInt = 3 := by decide
  have t_12 : (12 : Int32).toInt = 12 := by decide
  have t_16 : (16 : Int32).toInt = 16 := by decide
  have t_30 : (30 : Int32).toInt = 30 := by decide
  have t_33 : (33 : Int32).toInt = 33 := by decide
  have t_35 : (35 : Int32).toInt = 35 := by decide
  have t_60 : (60 : Int32).toInt = 60 := by decide
  have fz := RI.size hI
  have fR := hR.1
  have join33 : ∀ (Ra : RS) (H : Heap) (locs : List Loc) (ls : Array Slot), (fr [4, 5, 6, 7, 8, 9, 10, 11, 14, 15, 16, 17, 18, 19, 20, 21, 22] R Ra) → (RI Ra) → (RR Ra) → ((0 ≤ (rI Ra 6).toInt ∧ 0 ≤ (rI Ra 7).toInt ∧ (rI Ra 7).toInt ≤ 1601) ∧ (rA Ra 10 30).toInt = (rA R 10 30).toInt ∧ (rI Ra 22).toInt = (rI R 22).toInt) → ((rI Ra 4).toInt ≠ 0 ∨ ((rA R 10 30).toInt ≠ 60 ∧ (rI R 22).toInt ≠ 12)) → lv_has ls 4 [(0, .ref h0)] → mH D H0 (rM h0 Ra) kc ns H locs → W p l e ({ frames := 2, cells := 0, slots := 0, locals := 43 } : Room) s m args below meth c H locs 0 0 (MQ below (mQ D H0 gV (fun r S1 k1 n1 => kc = k1 ∧ ns = n1 ∧ ∃ R1, S1 = rM h0 R1 ∧ fr [4, 5, 6, 7, 8, 9, 10, 11, 14, 15, 16, 17, 18, 19, 20, 21, 22] R R1 ∧ RI R1 ∧ RR R1 ∧ (0 ≤ (rI R1 6).toInt ∧ 0 ≤ (rI R1 7).toInt ∧ (rI R1 7).toInt ≤ 1601) ∧ ((rI R1 4).toInt ≠ 0 ∨ ((rA R1 10 30).toInt = (rA R 10 30).toInt + 1 ∧ (rI R1 22).toInt = (rI R 22).toInt + 1)))) args s 0 0 (mF H0)) (F0 m 33 ls []) := by
    intro Ra H locs ls h33_0 h33_1 h33_2 h33_3 h33_4 hl hM
    have hF := h33_0
    have hI := h33_1
    have hR := h33_2
    have fm := RI.many hI 30
    refine lv_aload_n hx hb dX12_readPart_33 rfl (lv_at hl 0 rfl) ?_
    have zv1 : (rI Ra 3).toInt = (rI R 3).toInt := by rw [hF.gI 3 (by decide)]
    refine r_V (As := []) (rest := []) (ci := 12) C hM (c_X12_isGood l D H0 h0 Ra kc ns ) i_X12_isGood m_X12_147 rK0 rfl rfl rfl hl.1 rfl (Nat.le_of_ble_eq_true rfl) ⟨by decide, by decide⟩ ⟨by decide, by decide⟩ dX12_readPart_34 (fun xv6 Sv3 kv4 nv5 H locs pv7 hM => ?_)
    obtain ⟨rfl, rfl, rfl, hxv6⟩ := pv7
    refine W.eq (g2 := F0 m 37 ls [.int xv6]) rfl ?_
    refine lv_if_ne (tgt := 41) hx hb dX12_readPart_37 (by decide) (fun cv8 => ?_) (fun cv8 => ?_)
    · have tcv8 := eqF cv8
      refine lv_aload_n hx hb dX12_readPart_41 rfl (lv_at hl 0 rfl) ?_
      refine rr_getA (k := 10) (j := 2) C hM f_X12_20 rfl rfl dX12_readPart_42 ?_
      refine lv_bipush (v := 30) hx hb dX12_readPart_45 (by decide) ?_
      refine rr_ldI (j := 2) (k := 10) (n := 31) (v := rA Ra 10 30) C hM rfl rfl rfl (inI (by omega) (by show _ < (31 : Int); omega)) rfl dX12_readPart_47 ?_
      refine lv_topi (fun xv9 exv9 => ?_)
      have mxv9 : xv9.toInt = (rA Ra 10 30).toInt := by rw [exv9]
      refine lv_istore_n (lv' := [(1, .int xv9), (0, .ref h0)]) hx hb dX12_readPart_48 rfl hl (by decide) rfl (fun ls hl => ?_)
      refine lv_bipush (v := 30) hx hb dX12_readPart_49 (by decide) ?_
      refine lv_iload_n hx hb dX12_readPart_51 rfl (lv_at hl 0 rfl) ?_
      have zv10 : (rI Ra 3).toInt = (rI R 3).toInt := by rw [hF.gI 3 (by decide)]
      refine r_S (As := [.int 30, .int xv9]) (rest := []) C hM (c_X12_spot l D H0 (rM h0 Ra) kc ns 30 xv9 (by omega) (by omega) (by omega) (by omega)) i_X12_spot m_X12_151 rfl hl.1 rfl (Nat.le_of_ble_eq_true rfl) ⟨by decide, by decide⟩ ⟨by decide, by decide⟩ dX12_readPart_52 (fun xv15 Sv12 kv13 nv14 H locs pv16 hM => ?_)
      obtain ⟨rfl, rfl, rfl, hxv15⟩ := pv16
      refine W.eq (g2 := F0 m 55 ls [.int xv15]) rfl ?_
      refine lv_istore_n (lv' := [(2, .int xv15), (1, .int xv9), (0, .ref h0)]) hx hb dX12_readPart_55 rfl hl (by decide) rfl (fun ls hl => ?_)
      refine lv_aload_n hx hb dX12_readPart_56 rfl (lv_at hl 2 rfl) ?_
      refine rr_getA (k := 17) (j := 9) C hM f_X12_42 rfl rfl dX12_readPart_57 ?_
      refine lv_iload_n hx hb dX12_readPart_60 rfl (lv_at hl 0 rfl) ?_
      refine lv_aload_n hx hb dX12_readPart_61 rfl (lv_at hl 2 rfl) ?_
      refine rr_getL (k := 9) (v := rL Ra 9) C hM f_X12_133 rfl rfl dX12_readPart_62 ?_
      refine lv_topl (fun lv17 elv17 => ?_)
      refine rr_stJ (j := 9) (k := 17) (n := 1860) (i := xv15) (x := (lv17 : Int64)) C hM rfl rfl rfl (inI (by omega) (by show _ < (1860 : Int); omega)) dX12_readPart_65 (fun H locs hM => ?_)
      have hM : mH D H0 (rM h0 (uB Ra 17 xv15.toNatClampNeg (lv17 : Int64))) kc ns H locs := hM
      have hF : fr [4, 5, 6, 7, 8, 9, 10, 11, 14, 15, 16, 17, 18, 19, 20, 21, 22] R (uB Ra 17 xv15.toNatClampNeg (lv17 : Int64)) := hF.B (by decide)
      have hI : RI (uB Ra 17 xv15.toNatClampNeg (lv17 : Int64)) := hI.fr (L := [17]) (fr.rf.B (by decide)) (by decide)
      refine lv_aload_n hx hb dX12_readPart_66 rfl (lv_at hl 2 rfl) ?_
      refine rr_getA (k := 18) (j := 10) C hM f_X12_46 rfl rfl dX12_readPart_67 ?_
      refine lv_iload_n hx hb dX12_readPart_70 rfl (lv_at hl 0 rfl) ?_
      refine lv_lconst (v := 0) hx hb dX12_readPart_71 (by decide) ?_
      refine rr_stJ (j := 10) (k := 18) (n := 1860) (i := xv15) (x := (0 : Int64)) C hM rfl rfl rfl (inI (by omega) (by show _ < (1860 : Int); omega)) dX12_readPart_72 (fun H locs hM => ?_)
      have hM : mH D H0 (rM h0 (uB (uB Ra 17 xv15.toNatClampNeg (lv17 : Int64)) 18 xv15.toNatClampNeg (0 : Int64))) kc ns H locs := hM
      have hF : fr [4, 5, 6, 7, 8, 9, 10, 11, 14, 15, 16, 17, 18, 19, 20, 21, 22] R (uB (uB Ra 17 xv15.toNatClampNeg (lv17 : Int64)) 18 xv15.toNatClampNeg (0 : Int64)) := hF.B (by decide)
      have hI : RI (uB (uB Ra 17 xv15.toNatClampNeg (lv17 : Int64)) 18 xv15.toNatClampNeg (0 : Int64)) := hI.fr (L := [18]) (fr.rf.B (by decide)) (by decide)
      refine lv_aload_n hx hb dX12_readPart_73 rfl (lv_at hl 2 rfl) ?_
      refine rr_getA (k := 15) (j := 7) C hM f_X12_36 rfl rfl dX12_readPart_74 ?_
      refine lv_iload_n hx hb dX12_readPart_77 rfl (lv_at hl 0 rfl) ?_
      refine lv_iconst (v := -1) hx hb dX12_readPart_78 (by decide) ?_
      refine rr_stI (j := 7) (k := 15) (n := 1860) (i := xv15) (x := (-1 : Int32)) C hM rfl rfl rfl (inI (by omega) (by show _ < (1860 : Int); omega)) dX12_readPart_79 (fun H locs hM => ?_)
      have hM : mH D H0 (rM h0 (uA (uB (uB Ra 17 xv15.toNatClampNeg (lv17 : Int64)) 18 xv15.toNatClampNeg (0 : Int64)) 15 xv15.toNatClampNeg (-1 : Int32))) kc ns H locs := hM
      have hF : fr [4, 5, 6, 7, 8, 9, 10, 11, 14, 15, 16, 17, 18, 19, 20, 21, 22] R (uA (uB (uB Ra 17 xv15.toNatClampNeg (lv17 : Int64)) 18 xv15.toNatClampNeg (0 : Int64)) 15 xv15.toNatClampNeg (-1 : Int32)) := hF.A (by decide)
      have hI : RI (uA (uB (uB Ra 17 xv15.toNatClampNeg (lv17 : Int64)) 18 xv15.toNatClampNeg (0 : Int64)) 15 xv15.toNatClampNeg (-1 : Int32)) := hI.st15 (by decide)
      refine lv_aload_n hx hb dX12_readPart_80 rfl (lv_at hl 2 rfl) ?_
      refine rr_getA (k := 19) (j := 11) C hM f_X12_49 rfl rfl dX12_readPart_81 ?_
      refine lv_iload_n hx hb dX12_readPart_84 rfl (lv_at hl 0 rfl) ?_
      refine lv_iconst (v := 0) hx hb dX12_readPart_85 (by decide) ?_
      refine rr_stZ (j := 11) (k := 19) (n := 1860) (i := xv15) (x := (0 : Int32)) C hM rfl rfl rfl (inI (by omega) (by show _ < (1860 : Int); omega)) dX12_readPart_86 (fun H locs hM => ?_)
      have hM : mH D H0 (rM h0 (uA (uA (uB (uB Ra 17 xv15.toNatClampNeg (lv17 : Int64)) 18 xv15.toNatClampNeg (0 : Int64)) 15 xv15.toNatClampNeg (-1 : Int32)) 19 xv15.toNatClampNeg (vp_nar .boolean (0 : Int32)))) kc ns H locs := hM
      have hF : fr [4, 5, 6, 7, 8, 9, 10, 11, 14, 15, 16, 17, 18, 19, 20, 21, 22] R (uA (uA (uB (uB Ra 17 xv15.toNatClampNeg (lv17 : Int64)) 18 xv15.toNatClampNeg (0 : Int64)) 15 xv15.toNatClampNeg (-1 : Int32)) 19 xv15.toNatClampNeg (vp_nar .boolean (0 : Int32))) := hF.A (by decide)
      have hI : RI (uA (uA (uB (uB Ra 17 xv15.toNatClampNeg (lv17 : Int64)) 18 xv15.toNatClampNeg (0 : Int64)) 15 xv15.toNatClampNeg (-1 : Int32)) 19 xv15.toNatClampNeg (vp_nar .boolean (0 : Int32))) := hI.fr (L := [19]) (fr.rf.A (by decide)) (by decide)
      refine lv_aload_n hx hb dX12_readPart_87 rfl (lv_at hl 2 rfl) ?_
      refine rr_getA (k := 16) (j := 8) C hM f_X12_39 rfl rfl dX12_readPart_88 ?_
      refine lv_iload_n hx hb dX12_readPart_91 rfl (lv_at hl 0 rfl) ?_
      refine lv_iconst (v := 0) hx hb dX12_readPart_92 (by decide) ?_
      refine rr_stI (j := 8) (k := 16) (n := 1860) (i := xv15) (x := (0 : Int32)) C hM rfl rfl rfl (inI (by omega) (by show _ < (1860 : Int); omega)) dX12_readPart_93 (fun H locs hM => ?_)
      have hM : mH D H0 (rM h0 (uA (uA (uA (uB (uB Ra 17 xv15.toNatClampNeg (lv17 : Int64)) 18 xv15.toNatClampNeg (0 : Int64)) 15 xv15.toNatClampNeg (-1 : Int32)) 19 xv15.toNatClampNeg (vp_nar .boolean (0 : Int32))) 16 xv15.toNatClampNeg (0 : Int32))) kc ns H locs := hM
      have hF : fr [4, 5, 6, 7, 8, 9, 10, 11, 14, 15, 16, 17, 18, 19, 20, 21, 22] R (uA (uA (uA (uB (uB Ra 17 xv15.toNatClampNeg (lv17 : Int64)) 18 xv15.toNatClampNeg (0 : Int64)) 15 xv15.toNatClampNeg (-1 : Int32)) 19 xv15.toNatClampNeg (vp_nar .boolean (0 : Int32))) 16 xv15.toNatClampNeg (0 : Int32)) := hF.A (by decide)
      have hI : RI (uA (uA (uA (uB (uB Ra 17 xv15.toNatClampNeg (lv17 : Int64)) 18 xv15.toNatClampNeg (0 : Int64)) 15 xv15.toNatClampNeg (-1 : Int32)) 19 xv15.toNatClampNeg (vp_nar .boolean (0 : Int32))) 16 xv15.toNatClampNeg (0 : Int32)) := hI.fr (L := [16]) (fr.rf.A (by decide)) (by decide)
      have join143 : ∀ (Rm : RS) (H : Heap) (locs : List Loc) (ls : Array Slot), (fr [4, 5, 6, 7, 8, 9, 10, 11, 14, 15, 16, 17, 18, 19, 20, 21, 22] R Rm) → (RI Rm) → (RR Rm) → ((rA Rm 14 xv15.toNatClampNeg).toInt = (rI Rm 22).toInt) → ((rA Rm 10 30).toInt = (rA R 10 30).toInt + 1 ∧ (rI Rm 22).toInt = (rI R 22).toInt) → (0 ≤ (rI Rm 6).toInt ∧ 0 ≤ (rI Rm 7).toInt ∧ (rI Rm 7).toInt ≤ 1601) → lv_has ls 4 [(0, .ref h0), (1, .int xv9), (2, .int xv15)] → mH D H0 (rM h0 Rm) kc ns H locs → W p l e ({ frames := 2, cells := 0, slots := 0, locals := 43 } : Room) s m args below meth c H locs 0 0 (MQ below (mQ D H0 gV (fun r S1 k1 n1 => kc = k1 ∧ ns = n1 ∧ ∃ R1, S1 = rM h0 R1 ∧ fr [4, 5, 6, 7, 8, 9, 10, 11, 14, 15, 16, 17, 18, 19, 20, 21, 22] R R1 ∧ RI R1 ∧ RR R1 ∧ (0 ≤ (rI R1 6).toInt ∧ 0 ≤ (rI R1 7).toInt ∧ (rI R1 7).toInt ≤ 1601) ∧ ((rI R1 4).toInt ≠ 0 ∨ ((rA R1 10 30).toInt = (rA R 10 30).toInt + 1 ∧ (rI R1 22).toInt = (rI R 22).toInt + 1)))) args s 0 0 (mF H0)) (F0 m 143 ls []) := by
        intro Rm H locs ls h143_0 h143_1 h143_2 h143_3 h143_4 h143_5 hl hM
        have hF := h143_0
        have hI := h143_1
        have hG : fr [4, 5, 6, 7, 8, 9, 15, 18, 19, 20] Rm Rm := fr.rf
        have join298 : ∀ (Rd : RS) (H : Heap) (locs : List Loc) (ls : Array Slot), (fr [4, 5, 6, 7, 8, 9, 10, 11, 14, 15, 16, 17, 18, 19, 20, 21, 22] R Rd) → (RI Rd) → (fr [4, 5, 6, 7, 8, 9, 15, 18, 19, 20] Rm Rd) → (0 ≤ (rI Rd 6).toInt ∧ 0 ≤ (rI Rd 7).toInt ∧ (rI Rd 7).toInt ≤ 1601) → lv_has ls 4 [(0, .ref h0), (1, .int xv9), (2, .int xv15)] → mH D H0 (rM h0 Rd) kc ns H locs → W p l e ({ frames := 2, cells := 0, slots := 0, locals := 43 } : Room) s m args below meth c H locs 0 0 (MQ below (mQ D H0 gV (fun r S1 k1 n1 => kc = k1 ∧ ns = n1 ∧ ∃ R1, S1 = rM h0 R1 ∧ fr [4, 5, 6, 7, 8, 9, 10, 11, 14, 15, 16, 17, 18, 19, 20, 21, 22] R R1 ∧ RI R1 ∧ RR R1 ∧ (0 ≤ (rI R1 6).toInt ∧ 0 ≤ (rI R1 7).toInt ∧ (rI R1 7).toInt ≤ 1601) ∧ ((rI R1 4).toInt ≠ 0 ∨ ((rA R1 10 30).toInt = (rA R 10 30).toInt + 1 ∧ (rI R1 22).toInt = (rI R 22).toInt + 1)))) args s 0 0 (mF H0)) (F0 m 298 ls []) := by
          intro Rd H locs ls h298_0 h298_1 h298_2 h298_3 hl hM
          have hF := h298_0
          have hI := h298_1
          have hG := h298_2
          have z22 : (rI Rd 22).toInt = (rI Rm 22).toInt := by rw [hG.gI 22 (by decide)]
          have z10 : (rA Rd 10 30).toInt = (rA Rm 10 30).toInt := by rw [hG.gA 10 (by decide)]
          have hR : RR Rd := h143_2.fr hG (by decide)
          have hd : (rA Rd 14 xv15.toNatClampNeg).toInt = (rI Rd 22).toInt := by rw [hG.gA 14 (by decide), hG.gI 22 (by decide)]; exact h143_3
          refine lv_aload_n hx hb dX12_readPart_298 rfl (lv_at hl 0 rfl) ?_
          refine rr_getA (k := 21) (j := 13) C hM f_X12_56 rfl rfl dX12_readPart_299 ?_
          refine lv_aload_n hx hb dX12_readPart_302 rfl (lv_at hl 0 rfl) ?_
          refine rr_getI (k := 22) (v := rI Rd 22) C hM f_X12_141 rfl rfl dX12_readPart_303 ?_
          refine lv_topi (fun xv18 exv18 => ?_)
          have mxv18 : xv18.toInt = (rI Rd 22).toInt := by rw [exv18]
          refine lv_iload_n hx hb dX12_readPart_306 rfl (lv_at hl 1 rfl) ?_
          refine rr_stI (j := 13) (k := 21) (n := 13) (i := xv18) (x := xv9) C hM rfl rfl rfl (inI (by omega) (by show _ < (13 : Int); omega)) dX12_readPart_307 (fun H locs hM => ?_)
          have hM : mH D H0 (rM h0 (uA Rd 21 xv18.toNatClampNeg xv9)) kc ns H locs := hM
          have hF : fr [4, 5, 6, 7, 8, 9, 10, 11, 14, 15, 16, 17, 18, 19, 20, 21, 22] R (uA Rd 21 xv18.toNatClampNeg xv9) := hF.A (by decide)
          have hI : RI (uA Rd 21 xv18.toNatClampNeg xv9) := hI.fr (L := [21]) (fr.rf.A (by decide)) (by decide)
          refine lv_aload_n hx hb dX12_readPart_308 rfl (lv_at hl 0 rfl) ?_
          refine lv_dup hx hb dX12_readPart_309 rfl ?_
          refine rr_getI (k := 22) (v := xv18) C hM f_X12_141 rfl (exv18.symm) dX12_readPart_310 ?_
          refine lv_iconst (v := 1) hx hb dX12_readPart_313 (by decide) ?_
          refine lv_iadd hx hb dX12_readPart_314 ?_
          refine lv_topi (fun xv19 exv19 => ?_)
          try (have txv19 := addI (a := xv18) (b := 1) (by omega) (by omega); rw [← exv19] at txv19)
          refine rr_putI (k := 22) (v := xv19) C hM f_X12_141 rfl (fun r h => by cases h; rfl) rfl dX12_readPart_315 (fun H locs hM => ?_)
          have hM : mH D H0 (rM h0 (uI (uA Rd 21 xv18.toNatClampNeg xv9) 22 xv19)) kc ns H locs := hM
          have hF : fr [4, 5, 6, 7, 8, 9, 10, 11, 14, 15, 16, 17, 18, 19, 20, 21, 22] R (uI (uA Rd 21 xv18.toNatClampNeg xv9) 22 xv19) := hF.I (by decide)
          have hI : RI (uI (uA Rd 21 xv18.toNatClampNeg xv9) 22 xv19) := hI.fr (L := [22]) (fr.rf.I (by decide)) (by decide)
          have hR : RR (uI (uA Rd 21 xv18.toNatClampNeg xv9) 22 xv19) := RR.push2 (R := Rd) (o := xv18.toNatClampNeg) hR (by have h7 := clI (x := xv18) (by omega); omega) (by omega) (by omega) (by rw [show 1800 + xv9.toInt.toNat = xv15.toNatClampNeg by (have h7 := clI (x := xv15 ) (by omega); omega)]; exact hd) (by omega)
          have zv20 : (rI (uI (uA Rd 21 xv18.toNatClampNeg xv9) 22 xv19) 3).toInt = (rI R 3).toInt := by rw [hF.gI 3 (by decide)]
          have zv21 : (rI (uI (uA Rd 21 xv18.toNatClampNeg xv9) 22 xv19) 4).toInt = (rI Rd 4).toInt := rfl
          have zv22 : (rI (uI (uA Rd 21 xv18.toNatClampNeg xv9) 22 xv19) 6).toInt = (rI Rd 6).toInt := rfl
          have zv23 : (rI (uI (uA Rd 21 xv18.toNatClampNeg xv9) 22 xv19) 7).toInt = (rI Rd 7).toInt := rfl
          have zv24 : (rI (uI (uA Rd 21 xv18.toNatClampNeg xv9) 22 xv19) 8).toInt = (rI Rd 8).toInt := rfl
          have zv25 : (rI (uI (uA Rd 21 xv18.toNatClampNeg xv9) 22 xv19) 22).toInt = xv19.toInt := rfl
          have zv26 : (rA (uI (uA Rd 21 xv18.toNatClampNeg xv9) 22 xv19) 10 30).toInt = (rA Rd 10 30).toInt := rfl
          have zv27 : (rA (uI (uA Rd 21 xv18.toNatClampNeg xv9) 22 xv19) 15 xv15.toNatClampNeg).toInt = (rA Rd 15 xv15.toNatClampNeg).toInt := rfl
          exact r_retV C hr hlk hM (⟨rfl, rfl, _, rfl, hF, hI, hR, by omega, by omega⟩) dX12_readPart_318
        have join271 : ∀ (Rc : RS) (H : Heap) (locs : List Loc) (ls : Array Slot), (fr [4, 5, 6, 7, 8, 9, 10, 11, 14, 15, 16, 17, 18, 19, 20, 21, 22] R Rc) → (RI Rc) → (fr [4, 5, 6, 7, 8, 9, 15, 18, 19, 20] Rm Rc) → (0 ≤ (rI Rc 6).toInt ∧ 0 ≤ (rI Rc 7).toInt ∧ (rI Rc 7).toInt ≤ 1601) → lv_has ls 4 [(0, .ref h0), (1, .int xv9), (2, .int xv15)] → mH D H0 (rM h0 Rc) kc ns H locs → W p l e ({ frames := 2, cells := 0, slots := 0, locals := 43 } : Room) s m args below meth c H locs 0 0 (MQ below (mQ D H0 gV (fun r S1 k1 n1 => kc = k1 ∧ ns = n1 ∧ ∃ R1, S1 = rM h0 R1 ∧ fr [4, 5, 6, 7, 8, 9, 10, 11, 14, 15, 16, 17, 18, 19, 20, 21, 22] R R1 ∧ RI R1 ∧ RR R1 ∧ (0 ≤ (rI R1 6).toInt ∧ 0 ≤ (rI R1 7).toInt ∧ (rI R1 7).toInt ≤ 1601) ∧ ((rI R1 4).toInt ≠ 0 ∨ ((rA R1 10 30).toInt = (rA R 10 30).toInt + 1 ∧ (rI R1 22).toInt = (rI R 22).toInt + 1)))) args s 0 0 (mF H0)) (F0 m 271 ls []) := by
          intro Rc H locs ls h271_0 h271_1 h271_2 h271_3 hl hM
          have hF := h271_0
          have hI := h271_1
          have hG := h271_2
          refine lv_aload_n hx hb dX12_readPart_271 rfl (lv_at hl 0 rfl) ?_
          have zv28 : (rI Rc 3).toInt = (rI R 3).toInt := by rw [hF.gI 3 (by decide)]
          refine r_V (As := []) (rest := []) (ci := 12) C hM (c_X12_isGood l D H0 h0 Rc kc ns ) i_X12_isGood m_X12_147 rK0 rfl rfl rfl hl.1 rfl (Nat.le_of_ble_eq_true rfl) ⟨by decide, by decide⟩ ⟨by decide, by decide⟩ dX12_readPart_272 (fun xv34 Sv31 kv32 nv33 H locs pv35 hM => ?_)
          obtain ⟨rfl, rfl, rfl, hxv34⟩ := pv35
          refine W.eq (g2 := F0 m 275 ls [.int xv34]) rfl ?_
          refine lv_if_eq (tgt := 298) hx hb dX12_readPart_275 (by decide) (fun cv36 => ?_) (fun cv36 => ?_)
          · have tcv36 := eqT cv36
            have zv37 : (rI Rc 3).toInt = (rI R 3).toInt := by rw [hF.gI 3 (by decide)]
            exact join298 Rc _ _ _ (hF) (hI) (hG) (by omega) (lv_sub hl [0, 1, 2] rfl) hM
          · have tcv36 := eqF cv36
            refine lv_aload_n hx hb dX12_readPart_278 rfl (lv_at hl 0 rfl) ?_
            refine lv_bipush (v := 33) hx hb dX12_readPart_279 (by decide) ?_
            have zv40 : (rI Rc 3).toInt = (rI R 3).toInt := by rw [hF.gI 3 (by decide)]
            refine r_V (As := [.int 33]) (rest := []) (ci := 12) C hM (c_X12_is l D H0 h0 Rc kc ns 33 hI (by omega)) i_X12_is m_X12_158 rK0 rfl rfl rfl hl.1 rfl (Nat.le_of_ble_eq_true rfl) ⟨by decide, by decide⟩ ⟨by decide, by decide⟩ dX12_readPart_281 (fun xv46 Sv43 kv44 nv45 H locs pv47 hM => ?_)
            obtain ⟨rfl, rfl, rfl, hxv46⟩ := pv47
            refine W.eq (g2 := F0 m 284 ls [.int xv46]) rfl ?_
            refine lv_if_eq (tgt := 298) hx hb dX12_readPart_284 (by decide) (fun cv48 => ?_) (fun cv48 => ?_)
            · have tcv48 := eqT cv48
              have zv49 : (rI Rc 3).toInt = (rI R 3).toInt := by rw [hF.gI 3 (by decide)]
              exact join298 Rc _ _ _ (hF) (hI) (hG) (by omega) (lv_sub hl [0, 1, 2] rfl) hM
            · have tcv48 := eqF cv48
              refine lv_aload_n hx hb dX12_readPart_287 rfl (lv_at hl 0 rfl) ?_
              refine rr_getA (k := 19) (j := 11) C hM f_X12_49 rfl rfl dX12_readPart_288 ?_
              refine lv_iload_n hx hb dX12_readPart_291 rfl (lv_at hl 2 rfl) ?_
              refine lv_iconst (v := 1) hx hb dX12_readPart_292 (by decide) ?_
              refine rr_stZ (j := 11) (k := 19) (n := 1860) (i := xv15) (x := (1 : Int32)) C hM rfl rfl rfl (inI (by omega) (by show _ < (1860 : Int); omega)) dX12_readPart_293 (fun H locs hM => ?_)
              have hM : mH D H0 (rM h0 (uA Rc 19 xv15.toNatClampNeg (vp_nar .boolean (1 : Int32)))) kc ns H locs := hM
              have hF : fr [4, 5, 6, 7, 8, 9, 10, 11, 14, 15, 16, 17, 18, 19, 20, 21, 22] R (uA Rc 19 xv15.toNatClampNeg (vp_nar .boolean (1 : Int32))) := hF.A (by decide)
              have hG : fr [4, 5, 6, 7, 8, 9, 15, 18, 19, 20] Rm (uA Rc 19 xv15.toNatClampNeg (vp_nar .boolean (1 : Int32))) := hG.A (by decide)
              have hI : RI (uA Rc 19 xv15.toNatClampNeg (vp_nar .boolean (1 : Int32))) := hI.fr (L := [19]) (fr.rf.A (by decide)) (by decide)
              refine lv_aload_n hx hb dX12_readPart_294 rfl (lv_at hl 0 rfl) ?_
              have zv52 : (rI (uA Rc 19 xv15.toNatClampNeg (vp_nar .boolean (1 : Int32))) 3).toInt = (rI R 3).toInt := by rw [hF.gI 3 (by decide)]
              have zv53 : (rI (uA Rc 19 xv15.toNatClampNeg (vp_nar .boolean (1 : Int32))) 4).toInt = (rI Rc 4).toInt := rfl
              have zv54 : (rI (uA Rc 19 xv15.toNatClampNeg (vp_nar .boolean (1 : Int32))) 6).toInt = (rI Rc 6).toInt := rfl
              have zv55 : (rI (uA Rc 19 xv15.toNatClampNeg (vp_nar .boolean (1 : Int32))) 7).toInt = (rI Rc 7).toInt := rfl
              have zv56 : (rI (uA Rc 19 xv15.toNatClampNeg (vp_nar .boolean (1 : Int32))) 8).toInt = (rI Rc 8).toInt := rfl
              have zv57 : (rI (uA Rc 19 xv15.toNatClampNeg (vp_nar .boolean (1 : Int32))) 22).toInt = (rI Rc 22).toInt := rfl
              have zv58 : (rA (uA Rc 19 xv15.toNatClampNeg (vp_nar .boolean (1 : Int32))) 10 30).toInt = (rA Rc 10 30).toInt := rfl
              have zv59 : (rA (uA Rc 19 xv15.toNatClampNeg (vp_nar .boolean (1 : Int32))) 15 xv15.toNatClampNeg).toInt = (rA Rc 15 xv15.toNatClampNeg).toInt := rfl
              refine r_V (As := []) (rest := []) (ci := 12) C hM (c_X12_next l D H0 h0 (uA Rc 19 xv15.toNatClampNeg (vp_nar .boolean (1 : Int32))) kc ns hI (by omega) (by omega)) i_X12_next m_X12_155 rK0 rfl rfl rfl hl.1 rfl (Nat.le_of_ble_eq_true rfl) ⟨by decide, by decide⟩ ⟨by decide, by decide⟩ dX12_readPart_295 (fun uv63 Sv60 kv61 nv62 H locs pv64 hM => ?_)
              obtain ⟨rfl, rfl, Rv65, rfl, hf9, huv63⟩ := pv64
              have hF : fr [4, 5, 6, 7, 8, 9, 10, 11, 14, 15, 16, 17, 18, 19, 20, 21, 22] R Rv65 := hF.trans hf9 (by decide)
              have hG : fr [4, 5, 6, 7, 8, 9, 15, 18, 19, 20] Rm Rv65 := hG.trans hf9 (by decide)
              have hI : RI Rv65 := hI.fr hf9 (by decide)
              have zv66 : (rI Rv65 3).toInt = (rI (uA Rc 19 xv15.toNatClampNeg (vp_nar .boolean (1 : Int32))) 3).toInt := by rw [hf9.gI 3 (by decide)]
              have zv67 : (rI Rv65 4).toInt = (rI (uA Rc 19 xv15.toNatClampNeg (vp_nar .boolean (1 : Int32))) 4).toInt := by rw [hf9.gI 4 (by decide)]
              have zv68 : (rI Rv65 22).toInt = (rI (uA Rc 19 xv15.toNatClampNeg (vp_nar .boolean (1 : Int32))) 22).toInt := by rw [hf9.gI 22 (by decide)]
              have zv69 : (rA Rv65 10 30).toInt = (rA (uA Rc 19 xv15.toNatClampNeg (vp_nar .boolean (1 : Int32))) 10 30).toInt := by rw [hf9.gA 10 (by decide)]
              have zv70 : (rA Rv65 15 xv15.toNatClampNeg).toInt = (rA (uA Rc 19 xv15.toNatClampNeg (vp_nar .boolean (1 : Int32))) 15 xv15.toNatClampNeg).toInt := by rw [hf9.gA 15 (by decide)]
              refine W.eq (g2 := F0 m 298 ls []) rfl ?_
              have zv71 : (rI Rv65 3).toInt = (rI R 3).toInt := by rw [hF.gI 3 (by decide)]
              exact join298 Rv65 _ _ _ (hF) (hI) (hG) (by omega) (lv_sub hl [0, 1, 2] rfl) hM
        have join193 : ∀ (Rb : RS) (H : Heap) (locs : List Loc) (ls : Array Slot), (fr [4, 5, 6, 7, 8, 9, 10, 11, 14, 15, 16, 17, 18, 19, 20, 21, 22] R Rb) → (RI Rb) → (fr [4, 5, 6, 7, 8, 9, 15, 18, 19, 20] Rm Rb) → (0 ≤ (rI Rb 6).toInt ∧ 0 ≤ (rI Rb 7).toInt ∧ (rI Rb 7).toInt ≤ 1601) → (¬ (rI Rb 8).toInt = 3 ∨ (2 ≤ (rI Rb 7).toInt - (rI Rb 6).toInt ∧ (rI Rb 7).toInt - (rI Rb 6).toInt ≤ 18 ∧ (rI Rb 7).toInt ≤ (rI R 3).toInt)) → lv_has ls 4 [(0, .ref h0), (1, .int xv9), (2, .int xv15)] → mH D H0 (rM h0 Rb) kc ns H locs → W p l e ({ frames := 2, cells := 0, slots := 0, locals := 43 } : Room) s m args below meth c H locs 0 0 (MQ below (mQ D H0 gV (fun r S1 k1 n1 => kc = k1 ∧ ns = n1 ∧ ∃ R1, S1 = rM h0 R1 ∧ fr [4, 5, 6, 7, 8, 9, 10, 11, 14, 15, 16, 17, 18, 19, 20, 21, 22] R R1 ∧ RI R1 ∧ RR R1 ∧ (0 ≤ (rI R1 6).toInt ∧ 0 ≤ (rI R1 7).toInt ∧ (rI R1 7).toInt ≤ 1601) ∧ ((rI R1 4).toInt ≠ 0 ∨ ((rA R1 10 30).toInt = (rA R 10 30).toInt + 1 ∧ (rI R1 22).toInt = (rI R 22).toInt + 1)))) args s 0 0 (mF H0)) (F0 m 193 ls []) := by
          intro Rb H locs ls h193_0 h193_1 h193_2 h193_3 h193_4 hl hM
          have hF := h193_0
          have hI := h193_1
          have hG := h193_2
          refine lv_aload_n hx hb dX12_readPart_193 rfl (lv_at hl 0 rfl) ?_
          have zv74 : (rI Rb 3).toInt = (rI R 3).toInt := by rw [hF.gI 3 (by decide)]
          refine r_V (As := []) (rest := []) (ci := 12) C hM (c_X12_isGood l D H0 h0 Rb kc ns ) i_X12_isGood m_X12_147 rK0 rfl rfl rfl hl.1 rfl (Nat.le_of_ble_eq_true rfl) ⟨by decide, by decide⟩ ⟨by decide, by decide⟩ dX12_readPart_194 (fun xv80 Sv77 kv78 nv79 H locs pv81 hM => ?_)
          obtain ⟨rfl, rfl, rfl, hxv80⟩ := pv81
          refine W.eq (g2 := F0 m 197 ls [.int xv80]) rfl ?_
          refine lv_if_eq (tgt := 271) hx hb dX12_readPart_197 (by decide) (fun cv82 => ?_) (fun cv82 => ?_)
          · have tcv82 := eqT cv82
            have zv83 : (rI Rb 3).toInt = (rI R 3).toInt := by rw [hF.gI 3 (by decide)]
            exact join271 Rb _ _ _ (hF) (hI) (hG) (by omega) (lv_sub hl [0, 1, 2] rfl) hM
          · have tcv82 := eqF cv82
            refine lv_aload_n hx hb dX12_readPart_200 rfl (lv_at hl 0 rfl) ?_
            refine rr_getI (k := 8) (v := rI Rb 8) C hM f_X12_126 rfl rfl dX12_readPart_201 ?_
            refine lv_topi (fun xv86 exv86 => ?_)
            have mxv86 : xv86.toInt = (rI Rb 8).toInt := by rw [exv86]
            refine lv_iconst (v := 3) hx hb dX12_readPart_204 (by decide) ?_
            refine lv_icmp_ne (tgt := 271) hx hb dX12_readPart_205 (by decide) (fun cv87 => ?_) (fun cv87 => ?_)
            · have tcv87 := eqF cv87
              have zv88 : (rI Rb 3).toInt = (rI R 3).toInt := by rw [hF.gI 3 (by decide)]
              exact join271 Rb _ _ _ (hF) (hI) (hG) (by omega) (lv_sub hl [0, 1, 2] rfl) hM
            · have tcv87 := eqT cv87
              refine lv_aload_n hx hb dX12_readPart_208 rfl (lv_at hl 0 rfl) ?_
              refine rr_getA (k := 15) (j := 7) C hM f_X12_36 rfl rfl dX12_readPart_209 ?_
              refine lv_iload_n hx hb dX12_readPart_212 rfl (lv_at hl 2 rfl) ?_
              refine lv_aload_n hx hb dX12_readPart_213 rfl (lv_at hl 0 rfl) ?_
              refine rr_getI (k := 7) (v := rI Rb 7) C hM f_X12_116 rfl rfl dX12_readPart_214 ?_
              refine lv_topi (fun xv91 exv91 => ?_)
              have mxv91 : xv91.toInt = (rI Rb 7).toInt := by rw [exv91]
              refine lv_aload_n hx hb dX12_readPart_217 rfl (lv_at hl 0 rfl) ?_
              refine rr_getI (k := 6) (v := rI Rb 6) C hM f_X12_119 rfl rfl dX12_readPart_218 ?_
              refine lv_topi (fun xv92 exv92 => ?_)
              have mxv92 : xv92.toInt = (rI Rb 6).toInt := by rw [exv92]
              refine lv_isub hx hb dX12_readPart_221 ?_
              refine lv_topi (fun xv93 exv93 => ?_)
              try (have txv93 := subI (a := xv91) (b := xv92) (by omega) (by omega); rw [← exv93] at txv93)
              refine lv_iconst (v := 2) hx hb dX12_readPart_222 (by decide) ?_
              refine lv_isub hx hb dX12_readPart_223 ?_
              refine lv_topi (fun xv94 exv94 => ?_)
              try (have txv94 := subI (a := xv93) (b := 2) (by omega) (by omega); rw [← exv94] at txv94)
              refine rr_stI (j := 7) (k := 15) (n := 1860) (i := xv15) (x := xv94) C hM rfl rfl rfl (inI (by omega) (by show _ < (1860 : Int); omega)) dX12_readPart_224 (fun H locs hM => ?_)
              have hM : mH D H0 (rM h0 (uA Rb 15 xv15.toNatClampNeg xv94)) kc ns H locs := hM
              have hF : fr [4, 5, 6, 7, 8, 9, 10, 11, 14, 15, 16, 17, 18, 19, 20, 21, 22] R (uA Rb 15 xv15.toNatClampNeg xv94) := hF.A (by decide)
              have hG : fr [4, 5, 6, 7, 8, 9, 15, 18, 19, 20] Rm (uA Rb 15 xv15.toNatClampNeg xv94) := hG.A (by decide)
              have hI : RI (uA Rb 15 xv15.toNatClampNeg xv94) := hI.st15 (by omega)
              have hw9 : (rA (uA Rb 15 xv15.toNatClampNeg xv94) 15 xv15.toNatClampNeg).toInt = xv94.toInt := congrArg Int32.toInt u2e
              refine lv_iconst (v := 0) hx hb dX12_readPart_225 (by decide) ?_
              refine lv_istore_n (lv' := [(3, .int 0), (0, .ref h0), (1, .int xv9), (2, .int xv15)]) hx hb dX12_readPart_226 rfl hl (by decide) rfl (fun ls hl => ?_)
              have zv95 : (rI (uA Rb 15 xv15.toNatClampNeg xv94) 3).toInt = (rI R 3).toInt := by rw [hF.gI 3 (by decide)]
              have zv96 : (rI (uA Rb 15 xv15.toNatClampNeg xv94) 4).toInt = (rI Rb 4).toInt := rfl
              have zv97 : (rI (uA Rb 15 xv15.toNatClampNeg xv94) 6).toInt = (rI Rb 6).toInt := rfl
              have zv98 : (rI (uA Rb 15 xv15.toNatClampNeg xv94) 7).toInt = (rI Rb 7).toInt := rfl
              have zv99 : (rI (uA Rb 15 xv15.toNatClampNeg xv94) 8).toInt = (rI Rb 8).toInt := rfl
              have zv100 : (rI (uA Rb 15 xv15.toNatClampNeg xv94) 22).toInt = (rI Rb 22).toInt := rfl
              have zv101 : (rA (uA Rb 15 xv15.toNatClampNeg xv94) 10 30).toInt = (rA Rb 10 30).toInt := rfl
              have loop227 : ∀ (fu : Nat) (kz : Int32) (Rw : RS) (H : Heap) (locs : List Loc) (ls : Array Slot), (fr [4, 5, 6, 7, 8, 9, 10, 11, 14, 15, 16, 17, 18, 19, 20, 21, 22] R Rw) → (RI Rw) → (fr [4, 5, 6, 7, 8, 9, 15, 18, 19, 20] Rm Rw) → (0 ≤ kz.toInt ∧ kz.toInt ≤ 16) → ((rA Rw 15 xv15.toNatClampNeg).toInt ≤ (rI Rw 7).toInt - (rI Rw 6).toInt - 2) → (2 ≤ (rI Rw 7).toInt - (rI Rw 6).toInt ∧ (rI Rw 7).toInt - (rI Rw 6).toInt ≤ 18 ∧ (rI Rw 7).toInt ≤ (rI R 3).toInt) → (0 ≤ (rI Rw 6).toInt ∧ 0 ≤ (rI Rw 7).toInt ∧ (rI Rw 7).toInt ≤ 1601) → (16 - kz.toInt).toNat < fu → lv_has ls 4 [(0, .ref h0), (1, .int xv9), (2, .int xv15), (3, .int kz)] → mH D H0 (rM h0 Rw) kc ns H locs → W p l e ({ frames := 2, cells := 0, slots := 0, locals := 43 } : Room) s m args below meth c H locs 0 0 (MQ below (mQ D H0 gV (fun r S1 k1 n1 => kc = k1 ∧ ns = n1 ∧ ∃ R1, S1 = rM h0 R1 ∧ fr [4, 5, 6, 7, 8, 9, 10, 11, 14, 15, 16, 17, 18, 19, 20, 21, 22] R R1 ∧ RI R1 ∧ RR R1 ∧ (0 ≤ (rI R1 6).toInt ∧ 0 ≤ (rI R1 7).toInt ∧ (rI R1 7).toInt ≤ 1601) ∧ ((rI R1 4).toInt ≠ 0 ∨ ((rA R1 10 30).toInt = (rA R 10 30).toInt + 1 ∧ (rI R1 22).toInt = (rI R 22).toInt + 1)))) args s 0 0 (mF H0)) (F0 m 227 ls []) := by
                intro fu
                induction fu with
                | zero => intro kz Rw H locs ls h227_0 h227_1 h227_2 h227_3 h227_4 h227_5 h227_6 hfu; exact absurd hfu (by omega)
                | succ fu ih227 =>
                  intro kz Rw H locs ls h227_0 h227_1 h227_2 h227_3 h227_4 h227_5 h227_6 hfu hl hM
                  have hF := h227_0
                  have hI := h227_1
                  have hG := h227_2
                  refine lv_iload_n hx hb dX12_readPart_227 rfl (lv_at hl 3 rfl) ?_
                  refine lv_aload_n hx hb dX12_readPart_228 rfl (lv_at hl 0 rfl) ?_
                  refine rr_getA (k := 15) (j := 7) C hM f_X12_36 rfl rfl dX12_readPart_229 ?_
                  refine lv_iload_n hx hb dX12_readPart_232 rfl (lv_at hl 2 rfl) ?_
                  refine rr_ldI (j := 7) (k := 15) (n := 1860) (v := rA Rw 15 xv15.toNatClampNeg) C hM rfl rfl rfl (inI (by omega) (by show _ < (1860 : Int); omega)) rfl dX12_readPart_233 ?_
                  refine lv_topi (fun xv103 exv103 => ?_)
                  have mxv103 : xv103.toInt = (rA Rw 15 xv15.toNatClampNeg).toInt := by rw [exv103]
                  refine lv_icmp_ge (tgt := 267) hx hb dX12_readPart_234 (by decide) (fun cv104 => ?_) (fun cv104 => ?_)
                  · have tcv104 := leT cv104
                    refine lv_aload_n hx hb dX12_readPart_267 rfl (lv_at hl 0 rfl) ?_
                    have zv105 : (rI Rw 3).toInt = (rI R 3).toInt := by rw [hF.gI 3 (by decide)]
                    refine r_V (As := []) (rest := []) (ci := 12) C hM (c_X12_next l D H0 h0 Rw kc ns hI (by omega) (by omega)) i_X12_next m_X12_155 rK0 rfl rfl rfl hl.1 rfl (Nat.le_of_ble_eq_true rfl) ⟨by decide, by decide⟩ ⟨by decide, by decide⟩ dX12_readPart_268 (fun uv111 Sv108 kv109 nv110 H locs pv112 hM => ?_)
                    obtain ⟨rfl, rfl, Rv113, rfl, hf9, huv111⟩ := pv112
                    have hF : fr [4, 5, 6, 7, 8, 9, 10, 11, 14, 15, 16, 17, 18, 19, 20, 21, 22] R Rv113 := hF.trans hf9 (by decide)
                    have hG : fr [4, 5, 6, 7, 8, 9, 15, 18, 19, 20] Rm Rv113 := hG.trans hf9 (by decide)
                    have hI : RI Rv113 := hI.fr hf9 (by decide)
                    have zv114 : (rI Rv113 3).toInt = (rI Rw 3).toInt := by rw [hf9.gI 3 (by decide)]
                    have zv115 : (rI Rv113 4).toInt = (rI Rw 4).toInt := by rw [hf9.gI 4 (by decide)]
                    have zv116 : (rI Rv113 22).toInt = (rI Rw 22).toInt := by rw [hf9.gI 22 (by decide)]
                    have zv117 : (rA Rv113 10 30).toInt = (rA Rw 10 30).toInt := by rw [hf9.gA 10 (by decide)]
                    have zv118 : (rA Rv113 15 xv15.toNatClampNeg).toInt = (rA Rw 15 xv15.toNatClampNeg).toInt := by rw [hf9.gA 15 (by decide)]
                    have vv119 : rA Rv113 15 xv15.toNatClampNeg = xv103 := (congrFun (hf9.gA 15 (by decide)) _).trans (exv103.symm)
                    refine W.eq (g2 := F0 m 271 ls []) rfl ?_
                    have zv120 : (rI Rv113 3).toInt = (rI R 3).toInt := by rw [hF.gI 3 (by decide)]
                    exact join271 Rv113 _ _ _ (hF) (hI) (hG) (by omega) (lv_sub hl [0, 1, 2] rfl) hM
                  · have tcv104 := leF cv104
                    refine lv_aload_n hx hb dX12_readPart_237 rfl (lv_at hl 0 rfl) ?_
                    refine rr_getA (k := 20) (j := 12) C hM f_X12_53 rfl rfl dX12_readPart_238 ?_
                    refine lv_bipush (v := 16) hx hb dX12_readPart_241 (by decide) ?_
                    refine lv_iload_n hx hb dX12_readPart_243 rfl (lv_at hl 2 rfl) ?_
                    refine lv_imul hx hb dX12_readPart_244 ?_
                    refine lv_topi (fun xv123 exv123 => ?_)
                    try (have txv123 := mulD (a := xv15) (k := 16) (n := 16) (by decide) (by omega) (by omega); rw [← exv123] at txv123)
                    refine lv_iload_n hx hb dX12_readPart_245 rfl (lv_at hl 3 rfl) ?_
                    refine lv_iadd hx hb dX12_readPart_246 ?_
                    refine lv_topi (fun xv124 exv124 => ?_)
                    try (have txv124 := addI (a := xv123) (b := kz) (by omega) (by omega); rw [← exv124] at txv124)
                    refine lv_aload_n hx hb dX12_readPart_247 rfl (lv_at hl 0 rfl) ?_
                    refine rr_getA (k := 1) (j := 1) C hM f_X12_13 rfl rfl dX12_readPart_248 ?_
                    refine lv_aload_n hx hb dX12_readPart_251 rfl (lv_at hl 0 rfl) ?_
                    refine rr_getI (k := 6) (v := rI Rw 6) C hM f_X12_119 rfl rfl dX12_readPart_252 ?_
                    refine lv_topi (fun xv125 exv125 => ?_)
                    have mxv125 : xv125.toInt = (rI Rw 6).toInt := by rw [exv125]
                    refine lv_iconst (v := 1) hx hb dX12_readPart_255 (by decide) ?_
                    refine lv_iadd hx hb dX12_readPart_256 ?_
                    refine lv_topi (fun xv126 exv126 => ?_)
                    try (have txv126 := addI (a := xv125) (b := 1) (by omega) (by omega); rw [← exv126] at txv126)
                    refine lv_iload_n hx hb dX12_readPart_257 rfl (lv_at hl 3 rfl) ?_
                    refine lv_iadd hx hb dX12_readPart_258 ?_
                    refine lv_topi (fun xv127 exv127 => ?_)
                    try (have txv127 := addI (a := xv126) (b := kz) (by omega) (by omega); rw [← exv127] at txv127)
                    refine rr_ldB (j := 1) (k := 1) (n := 1600) (v := rA R 1 xv127.toNatClampNeg) C hM rfl rfl rfl (inI (by omega) (by show _ < (1600 : Int); omega)) (congrFun (hF.gA 1 (by decide)) xv127.toNatClampNeg) dX12_readPart_259 ?_
                    refine lv_topi (fun xv128 exv128 => ?_)
                    refine rr_stB (j := 12) (k := 20) (n := 29760) (i := xv124) (x := xv128) C hM rfl rfl rfl (inI (by omega) (by show _ < (29760 : Int); omega)) dX12_readPart_260 (fun H locs hM => ?_)
                    have hM : mH D H0 (rM h0 (uA Rw 20 xv124.toNatClampNeg (vp_nar .byte xv128))) kc ns H locs := hM
                    have hF : fr [4, 5, 6, 7, 8, 9, 10, 11, 14, 15, 16, 17, 18, 19, 20, 21, 22] R (uA Rw 20 xv124.toNatClampNeg (vp_nar .byte xv128)) := hF.A (by decide)
                    have hG : fr [4, 5, 6, 7, 8, 9, 15, 18, 19, 20] Rm (uA Rw 20 xv124.toNatClampNeg (vp_nar .byte xv128)) := hG.A (by decide)
                    have hI : RI (uA Rw 20 xv124.toNatClampNeg (vp_nar .byte xv128)) := hI.fr (L := [20]) (fr.rf.A (by decide)) (by decide)
                    obtain ⟨xv129, exv129⟩ : ∃ y : Int32, y = kz + 1 := ⟨_, rfl⟩
                    try (have txv129 := addI (a := kz) (b := 1) (by omega) (by omega); rw [← exv129] at txv129)
                    refine lv_iinc (v := xv129) (lv' := [(3, .int xv129), (0, .ref h0), (1, .int xv9), (2, .int xv15)]) hx hb dX12_readPart_261 hl (k := 3) rfl (by rw [exv129]; rfl) (by decide) rfl (fun ls hl => ?_)
                    refine lv_goto (tgt := 227) hx hb dX12_readPart_264 (by decide) ?_
                    have zv130 : (rI (uA Rw 20 xv124.toNatClampNeg (vp_nar .byte xv128)) 3).toInt = (rI R 3).toInt := by rw [hF.gI 3 (by decide)]
                    have zv131 : (rI (uA Rw 20 xv124.toNatClampNeg (vp_nar .byte xv128)) 4).toInt = (rI Rw 4).toInt := rfl
                    have zv132 : (rI (uA Rw 20 xv124.toNatClampNeg (vp_nar .byte xv128)) 6).toInt = (rI Rw 6).toInt := rfl
                    have zv133 : (rI (uA Rw 20 xv124.toNatClampNeg (vp_nar .byte xv128)) 7).toInt = (rI Rw 7).toInt := rfl
                    have zv134 : (rI (uA Rw 20 xv124.toNatClampNeg (vp_nar .byte xv128)) 8).toInt = (rI Rw 8).toInt := rfl
                    have zv135 : (rI (uA Rw 20 xv124.toNatClampNeg (vp_nar .byte xv128)) 22).toInt = (rI Rw 22).toInt := rfl
                    have zv136 : (rA (uA Rw 20 xv124.toNatClampNeg (vp_nar .byte xv128)) 10 30).toInt = (rA Rw 10 30).toInt := rfl
                    have zv137 : (rA (uA Rw 20 xv124.toNatClampNeg (vp_nar .byte xv128)) 15 xv15.toNatClampNeg).toInt = (rA Rw 15 xv15.toNatClampNeg).toInt := rfl
                    exact ih227 xv129 (uA Rw 20 xv124.toNatClampNeg (vp_nar .byte xv128)) _ _ _ (hF) (hI) (hG) (by omega) (by omega) (by omega) (by omega) (by omega) (lv_sub hl [1, 2, 3, 0] rfl) hM
              have zv138 : (rI (uA Rb 15 xv15.toNatClampNeg xv94) 3).toInt = (rI R 3).toInt := by rw [hF.gI 3 (by decide)]
              have zv139 : (rI (uA Rb 15 xv15.toNatClampNeg xv94) 4).toInt = (rI Rb 4).toInt := rfl
              have zv140 : (rI (uA Rb 15 xv15.toNatClampNeg xv94) 6).toInt = (rI Rb 6).toInt := rfl
              have zv141 : (rI (uA Rb 15 xv15.toNatClampNeg xv94) 7).toInt = (rI Rb 7).toInt := rfl
              have zv142 : (rI (uA Rb 15 xv15.toNatClampNeg xv94) 8).toInt = (rI Rb 8).toInt := rfl
              have zv143 : (rI (uA Rb 15 xv15.toNatClampNeg xv94) 22).toInt = (rI Rb 22).toInt := rfl
              have zv144 : (rA (uA Rb 15 xv15.toNatClampNeg xv94) 10 30).toInt = (rA Rb 10 30).toInt := rfl
              exact loop227 (((16 - (0 : Int32).toInt).toNat) + 1) 0 (uA Rb 15 xv15.toNatClampNeg xv94) _ _ _ (hF) (hI) (hG) (by omega) (by omega) (by omega) (by omega) (by omega) (lv_sub hl [1, 2, 3, 0] rfl) hM
        refine lv_aload_n hx hb dX12_readPart_143 rfl (lv_at hl 0 rfl) ?_
        have zv146 : (rI Rm 3).toInt = (rI R 3).toInt := by rw [hF.gI 3 (by decide)]
        refine r_V (As := []) (rest := []) (ci := 12) C hM (c_X12_next l D H0 h0 Rm kc ns hI (by omega) (by omega)) i_X12_next m_X12_155 rK0 rfl rfl rfl hl.1 rfl (Nat.le_of_ble_eq_true rfl) ⟨by decide, by decide⟩ ⟨by decide, by decide⟩ dX12_readPart_144 (fun uv152 Sv149 kv150 nv151 H locs pv153 hM => ?_)
        obtain ⟨rfl, rfl, Rv154, rfl, hf9, huv152⟩ := pv153
        have hF : fr [4, 5, 6, 7, 8, 9, 10, 11, 14, 15, 16, 17, 18, 19, 20, 21, 22] R Rv154 := hF.trans hf9 (by decide)
        have hG : fr [4, 5, 6, 7, 8, 9, 15, 18, 19, 20] Rm Rv154 := hG.trans hf9 (by decide)
        have hI : RI Rv154 := hI.fr hf9 (by decide)
        have zv155 : (rI Rv154 3).toInt = (rI Rm 3).toInt := by rw [hf9.gI 3 (by decide)]
        have zv156 : (rI Rv154 4).toInt = (rI Rm 4).toInt := by rw [hf9.gI 4 (by decide)]
        have zv157 : (rI Rv154 22).toInt = (rI Rm 22).toInt := by rw [hf9.gI 22 (by decide)]
        have zv158 : (rA Rv154 10 30).toInt = (rA Rm 10 30).toInt := by rw [hf9.gA 10 (by decide)]
        have zv159 : (rA Rv154 15 xv15.toNatClampNeg).toInt = (rA Rm 15 xv15.toNatClampNeg).toInt := by rw [hf9.gA 15 (by decide)]
        refine W.eq (g2 := F0 m 147 ls []) rfl ?_
        refine lv_aload_n hx hb dX12_readPart_147 rfl (lv_at hl 0 rfl) ?_
        refine lv_bipush (v := 35) hx hb dX12_readPart_148 (by decide) ?_
        have zv160 : (rI Rv154 3).toInt = (rI R 3).toInt := by rw [hF.gI 3 (by decide)]
        refine r_V (As := [.int 35]) (rest := []) (ci := 12) C hM (c_X12_is l D H0 h0 Rv154 kc ns 35 hI (by omega)) i_X12_is m_X12_158 rK0 rfl rfl rfl hl.1 rfl (Nat.le_of_ble_eq_true rfl) ⟨by decide, by decide⟩ ⟨by decide, by decide⟩ dX12_readPart_150 (fun xv166 Sv163 kv164 nv165 H locs pv167 hM => ?_)
        obtain ⟨rfl, rfl, rfl, hxv166⟩ := pv167
        refine W.eq (g2 := F0 m 153 ls [.int xv166]) rfl ?_
        refine lv_if_eq (tgt := 193) hx hb dX12_readPart_153 (by decide) (fun cv168 => ?_) (fun cv168 => ?_)
        · have tcv168 := eqT cv168
          have zv169 : (rI Rv154 3).toInt = (rI R 3).toInt := by rw [hF.gI 3 (by decide)]
          exact join193 Rv154 _ _ _ (hF) (hI) (hG) (by omega) (by omega) (lv_sub hl [0, 1, 2] rfl) hM
        · have tcv168 := eqF cv168
          refine lv_aload_n hx hb dX12_readPart_156 rfl (lv_at hl 0 rfl) ?_
          have zv172 : (rI Rv154 3).toInt = (rI R 3).toInt := by rw [hF.gI 3 (by decide)]
          refine r_V (As := []) (rest := []) (ci := 12) C hM (c_X12_next l D H0 h0 Rv154 kc ns hI (by omega) (by omega)) i_X12_next m_X12_155 rK0 rfl rfl rfl hl.1 rfl (Nat.le_of_ble_eq_true rfl) ⟨by decide, by decide⟩ ⟨by decide, by decide⟩ dX12_readPart_157 (fun uv178 Sv175 kv176 nv177 H locs pv179 hM => ?_)
          obtain ⟨rfl, rfl, Rv180, rfl, hf9, huv178⟩ := pv179
          have hF : fr [4, 5, 6, 7, 8, 9, 10, 11, 14, 15, 16, 17, 18, 19, 20, 21, 22] R Rv180 := hF.trans hf9 (by decide)
          have hG : fr [4, 5, 6, 7, 8, 9, 15, 18, 19, 20] Rm Rv180 := hG.trans hf9 (by decide)
          have hI : RI Rv180 := hI.fr hf9 (by decide)
          have zv181 : (rI Rv180 3).toInt = (rI Rv154 3).toInt := by rw [hf9.gI 3 (by decide)]
          have zv182 : (rI Rv180 4).toInt = (rI Rv154 4).toInt := by rw [hf9.gI 4 (by decide)]
          have zv183 : (rI Rv180 22).toInt = (rI Rv154 22).toInt := by rw [hf9.gI 22 (by decide)]
          have zv184 : (rA Rv180 10 30).toInt = (rA Rv154 10 30).toInt := by rw [hf9.gA 10 (by decide)]
          have zv185 : (rA Rv180 15 xv15.toNatClampNeg).toInt = (rA Rv154 15 xv15.toNatClampNeg).toInt := by rw [hf9.gA 15 (by decide)]
          refine W.eq (g2 := F0 m 160 ls []) rfl ?_
          refine lv_aload_n hx hb dX12_readPart_160 rfl (lv_at hl 0 rfl) ?_
          refine rr_getI (k := 8) (v := rI Rv180 8) C hM f_X12_126 rfl rfl dX12_readPart_161 ?_
          refine lv_topi (fun xv186 exv186 => ?_)
          have mxv186 : xv186.toInt = (rI Rv180 8).toInt := by rw [exv186]
          refine lv_iconst (v := 2) hx hb dX12_readPart_164 (by decide) ?_
          refine lv_icmp_eq (tgt := 172) hx hb dX12_readPart_165 (by decide) (fun cv187 => ?_) (fun cv187 => ?_)
          · have tcv187 := eqT cv187
            refine lv_aload_n hx hb dX12_readPart_172 rfl (lv_at hl 0 rfl) ?_
            refine rr_getA (k := 18) (j := 10) C hM f_X12_46 rfl rfl dX12_readPart_173 ?_
            refine lv_iload_n hx hb dX12_readPart_176 rfl (lv_at hl 2 rfl) ?_
            refine lv_aload_n hx hb dX12_readPart_177 rfl (lv_at hl 0 rfl) ?_
            refine rr_getL (k := 9) (v := rL Rv180 9) C hM f_X12_133 rfl rfl dX12_readPart_178 ?_
            refine lv_topl (fun lv188 elv188 => ?_)
            refine rr_stJ (j := 10) (k := 18) (n := 1860) (i := xv15) (x := (lv188 : Int64)) C hM rfl rfl rfl (inI (by omega) (by show _ < (1860 : Int); omega)) dX12_readPart_181 (fun H locs hM => ?_)
            have hM : mH D H0 (rM h0 (uB Rv180 18 xv15.toNatClampNeg (lv188 : Int64))) kc ns H locs := hM
            have hF : fr [4, 5, 6, 7, 8, 9, 10, 11, 14, 15, 16, 17, 18, 19, 20, 21, 22] R (uB Rv180 18 xv15.toNatClampNeg (lv188 : Int64)) := hF.B (by decide)
            have hG : fr [4, 5, 6, 7, 8, 9, 15, 18, 19, 20] Rm (uB Rv180 18 xv15.toNatClampNeg (lv188 : Int64)) := hG.B (by decide)
            have hI : RI (uB Rv180 18 xv15.toNatClampNeg (lv188 : Int64)) := hI.fr (L := [18]) (fr.rf.B (by decide)) (by decide)
            refine lv_aload_n hx hb dX12_readPart_182 rfl (lv_at hl 0 rfl) ?_
            have zv189 : (rI (uB Rv180 18 xv15.toNatClampNeg (lv188 : Int64)) 3).toInt = (rI R 3).toInt := by rw [hF.gI 3 (by decide)]
            have zv190 : (rI (uB Rv180 18 xv15.toNatClampNeg (lv188 : Int64)) 4).toInt = (rI Rv180 4).toInt := rfl
            have zv191 : (rI (uB Rv180 18 xv15.toNatClampNeg (lv188 : Int64)) 6).toInt = (rI Rv180 6).toInt := rfl
            have zv192 : (rI (uB Rv180 18 xv15.toNatClampNeg (lv188 : Int64)) 7).toInt = (rI Rv180 7).toInt := rfl
            have zv193 : (rI (uB Rv180 18 xv15.toNatClampNeg (lv188 : Int64)) 8).toInt = (rI Rv180 8).toInt := rfl
            have zv194 : (rI (uB Rv180 18 xv15.toNatClampNeg (lv188 : Int64)) 22).toInt = (rI Rv180 22).toInt := rfl
            have zv195 : (rA (uB Rv180 18 xv15.toNatClampNeg (lv188 : Int64)) 10 30).toInt = (rA Rv180 10 30).toInt := rfl
            have zv196 : (rA (uB Rv180 18 xv15.toNatClampNeg (lv188 : Int64)) 15 xv15.toNatClampNeg).toInt = (rA Rv180 15 xv15.toNatClampNeg).toInt := rfl
            refine r_V (As := []) (rest := []) (ci := 12) C hM (c_X12_isGood l D H0 h0 (uB Rv180 18 xv15.toNatClampNeg (lv188 : Int64)) kc ns ) i_X12_isGood m_X12_147 rK0 rfl rfl rfl hl.1 rfl (Nat.le_of_ble_eq_true rfl) ⟨by decide, by decide⟩ ⟨by decide, by decide⟩ dX12_readPart_183 (fun xv200 Sv197 kv198 nv199 H locs pv201 hM => ?_)
            obtain ⟨rfl, rfl, rfl, hxv200⟩ := pv201
            refine W.eq (g2 := F0 m 186 ls [.int xv200]) rfl ?_
            refine lv_if_eq (tgt := 193) hx hb dX12_readPart_186 (by decide) (fun cv202 => ?_) (fun cv202 => ?_)
            · have tcv202 := eqT cv202
              have zv203 : (rI (uB Rv180 18 xv15.toNatClampNeg (lv188 : Int64)) 3).toInt = (rI R 3).toInt := by rw [hF.gI 3 (by decide)]
              have zv204 : (rI (uB Rv180 18 xv15.toNatClampNeg (lv188 : Int64)) 4).toInt = (rI Rv180 4).toInt := rfl
              have zv205 : (rI (uB Rv180 18 xv15.toNatClampNeg (lv188 : Int64)) 6).toInt = (rI Rv180 6).toInt := rfl
              have zv206 : (rI (uB Rv180 18 xv15.toNatClampNeg (lv188 : Int64)) 7).toInt = (rI Rv180 7).toInt := rfl
              have zv207 : (rI (uB Rv180 18 xv15.toNatClampNeg (lv188 : Int64)) 8).toInt = (rI Rv180 8).toInt := rfl
              have zv208 : (rI (uB Rv180 18 xv15.toNatClampNeg (lv188 : Int64)) 22).toInt = (rI Rv180 22).toInt := rfl
              have zv209 : (rA (uB Rv180 18 xv15.toNatClampNeg (lv188 : Int64)) 10 30).toInt = (rA Rv180 10 30).toInt := rfl
              have zv210 : (rA (uB Rv180 18 xv15.toNatClampNeg (lv188 : Int64)) 15 xv15.toNatClampNeg).toInt = (rA Rv180 15 xv15.toNatClampNeg).toInt := rfl
              exact join193 (uB Rv180 18 xv15.toNatClampNeg (lv188 : Int64)) _ _ _ (hF) (hI) (hG) (by omega) (by omega) (lv_sub hl [0, 1, 2] rfl) hM
            · have tcv202 := eqF cv202
              refine lv_aload_n hx hb dX12_readPart_189 rfl (lv_at hl 0 rfl) ?_
              have zv211 : (rI (uB Rv180 18 xv15.toNatClampNeg (lv188 : Int64)) 3).toInt = (rI R 3).toInt := by rw [hF.gI 3 (by decide)]
              have zv212 : (rI (uB Rv180 18 xv15.toNatClampNeg (lv188 : Int64)) 4).toInt = (rI Rv180 4).toInt := rfl
              have zv213 : (rI (uB Rv180 18 xv15.toNatClampNeg (lv188 : Int64)) 6).toInt = (rI Rv180 6).toInt := rfl
              have zv214 : (rI (uB Rv180 18 xv15.toNatClampNeg (lv188 : Int64)) 7).toInt = (rI Rv180 7).toInt := rfl
              have zv215 : (rI (uB Rv180 18 xv15.toNatClampNeg (lv188 : Int64)) 8).toInt = (rI Rv180 8).toInt := rfl
              have zv216 : (rI (uB Rv180 18 xv15.toNatClampNeg (lv188 : Int64)) 22).toInt = (rI Rv180 22).toInt := rfl
              have zv217 : (rA (uB Rv180 18 xv15.toNatClampNeg (lv188 : Int64)) 10 30).toInt = (rA Rv180 10 30).toInt := rfl
              have zv218 : (rA (uB Rv180 18 xv15.toNatClampNeg (lv188 : Int64)) 15 xv15.toNatClampNeg).toInt = (rA Rv180 15 xv15.toNatClampNeg).toInt := rfl
              refine r_V (As := []) (rest := []) (ci := 12) C hM (c_X12_next l D H0 h0 (uB Rv180 18 xv15.toNatClampNeg (lv188 : Int64)) kc ns hI (by omega) (by omega)) i_X12_next m_X12_155 rK0 rfl rfl rfl hl.1 rfl (Nat.le_of_ble_eq_true rfl) ⟨by decide, by decide⟩ ⟨by decide, by decide⟩ dX12_readPart_190 (fun uv222 Sv219 kv220 nv221 H locs pv223 hM => ?_)
              obtain ⟨rfl, rfl, Rv224, rfl, hf9, huv222⟩ := pv223
              have hF : fr [4, 5, 6, 7, 8, 9, 10, 11, 14, 15, 16, 17, 18, 19, 20, 21, 22] R Rv224 := hF.trans hf9 (by decide)
              have hG : fr [4, 5, 6, 7, 8, 9, 15, 18, 19, 20] Rm Rv224 := hG.trans hf9 (by decide)
              have hI : RI Rv224 := hI.fr hf9 (by decide)
              have zv225 : (rI Rv224 3).toInt = (rI (uB Rv180 18 xv15.toNatClampNeg (lv188 : Int64)) 3).toInt := by rw [hf9.gI 3 (by decide)]
              have zv226 : (rI Rv224 4).toInt = (rI (uB Rv180 18 xv15.toNatClampNeg (lv188 : Int64)) 4).toInt := by rw [hf9.gI 4 (by decide)]
              have zv227 : (rI Rv224 22).toInt = (rI (uB Rv180 18 xv15.toNatClampNeg (lv188 : Int64)) 22).toInt := by rw [hf9.gI 22 (by decide)]
              have zv228 : (rA Rv224 10 30).toInt = (rA (uB Rv180 18 xv15.toNatClampNeg (lv188 : Int64)) 10 30).toInt := by rw [hf9.gA 10 (by decide)]
              have zv229 : (rA Rv224 15 xv15.toNatClampNeg).toInt = (rA (uB Rv180 18 xv15.toNatClampNeg (lv188 : Int64)) 15 xv15.toNatClampNeg).toInt := by rw [hf9.gA 15 (by decide)]
              refine W.eq (g2 := F0 m 193 ls []) rfl ?_
              have zv230 : (rI Rv224 3).toInt = (rI R 3).toInt := by rw [hF.gI 3 (by decide)]
              exact join193 Rv224 _ _ _ (hF) (hI) (hG) (by omega) (by omega) (lv_sub hl [0, 1, 2] rfl) hM
          · have tcv187 := eqF cv187
            refine lv_aload_n hx hb dX12_readPart_168 rfl (lv_at hl 0 rfl) ?_
            have zv233 : (rI Rv180 3).toInt = (rI R 3).toInt := by rw [hF.gI 3 (by decide)]
            refine r_V (As := []) (rest := []) (ci := 12) C hM (c_X12_wrong l D H0 h0 Rv180 kc ns ) i_X12_wrong m_X12_144 rK0 rfl rfl rfl hl.1 rfl (Nat.le_of_ble_eq_true rfl) ⟨by decide, by decide⟩ ⟨by decide, by decide⟩ dX12_readPart_169 (fun uv239 Sv236 kv237 nv238 H locs pv240 hM => ?_)
            obtain ⟨rfl, rfl, Rv241, rfl, hf9, huv239⟩ := pv240
            have hF : fr [4, 5, 6, 7, 8, 9, 10, 11, 14, 15, 16, 17, 18, 19, 20, 21, 22] R Rv241 := hF.trans hf9 (by decide)
            have hG : fr [4, 5, 6, 7, 8, 9, 15, 18, 19, 20] Rm Rv241 := hG.trans hf9 (by decide)
            have hI : RI Rv241 := hI.fr hf9 (by decide)
            have zv242 : (rI Rv241 3).toInt = (rI Rv180 3).toInt := by rw [hf9.gI 3 (by decide)]
            have zv243 : (rI Rv241 6).toInt = (rI Rv180 6).toInt := by rw [hf9.gI 6 (by decide)]
            have zv244 : (rI Rv241 7).toInt = (rI Rv180 7).toInt := by rw [hf9.gI 7 (by decide)]
            have zv245 : (rI Rv241 8).toInt = (rI Rv180 8).toInt := by rw [hf9.gI 8 (by decide)]
            have zv246 : (rI Rv241 22).toInt = (rI Rv180 22).toInt := by rw [hf9.gI 22 (by decide)]
            have zv247 : (rA Rv241 10 30).toInt = (rA Rv180 10 30).toInt := by rw [hf9.gA 10 (by decide)]
            have zv248 : (rA Rv241 15 xv15.toNatClampNeg).toInt = (rA Rv180 15 xv15.toNatClampNeg).toInt := by rw [hf9.gA 15 (by decide)]
            have vv249 : rI Rv241 8 = xv186 := (hf9.gI 8 (by decide)).trans (exv186.symm)
            have hRw : ∀ {Q : RS}, Q = Rv180 → RR Q → RR Rv241 := fun e h => by subst e; exact h.fr hf9 (by decide)
            refine W.eq (g2 := F0 m 172 ls []) rfl ?_
            refine lv_aload_n hx hb dX12_readPart_172 rfl (lv_at hl 0 rfl) ?_
            refine rr_getA (k := 18) (j := 10) C hM f_X12_46 rfl rfl dX12_readPart_173 ?_
            refine lv_iload_n hx hb dX12_readPart_176 rfl (lv_at hl 2 rfl) ?_
            refine lv_aload_n hx hb dX12_readPart_177 rfl (lv_at hl 0 rfl) ?_
            refine rr_getL (k := 9) (v := rL Rv241 9) C hM f_X12_133 rfl rfl dX12_readPart_178 ?_
            refine lv_topl (fun lv250 elv250 => ?_)
            refine rr_stJ (j := 10) (k := 18) (n := 1860) (i := xv15) (x := (lv250 : Int64)) C hM rfl rfl rfl (inI (by omega) (by show _ < (1860 : Int); omega)) dX12_readPart_181 (fun H locs hM => ?_)
            have hM : mH D H0 (rM h0 (uB Rv241 18 xv15.toNatClampNeg (lv250 : Int64))) kc ns H locs := hM
            have hF : fr [4, 5, 6, 7, 8, 9, 10, 11, 14, 15, 16, 17, 18, 19, 20, 21, 22] R (uB Rv241 18 xv15.toNatClampNeg (lv250 : Int64)) := hF.B (by decide)
            have hG : fr [4, 5, 6, 7, 8, 9, 15, 18, 19, 20] Rm (uB Rv241 18 xv15.toNatClampNeg (lv250 : Int64)) := hG.B (by decide)
            have hI : RI (uB Rv241 18 xv15.toNatClampNeg (lv250 : Int64)) := hI.fr (L := [18]) (fr.rf.B (by decide)) (by decide)
            refine lv_aload_n hx hb dX12_readPart_182 rfl (lv_at hl 0 rfl) ?_
            have zv251 : (rI (uB Rv241 18 xv15.toNatClampNeg (lv250 : Int64)) 3).toInt = (rI R 3).toInt := by rw [hF.gI 3 (by decide)]
            have zv252 : (rI (uB Rv241 18 xv15.toNatClampNeg (lv250 : Int64)) 4).toInt = (rI Rv241 4).toInt := rfl
            have zv253 : (rI (uB Rv241 18 xv15.toNatClampNeg (lv250 : Int64)) 6).toInt = (rI Rv241 6).toInt := rfl
            have zv254 : (rI (uB Rv241 18 xv15.toNatClampNeg (lv250 : Int64)) 7).toInt = (rI Rv241 7).toInt := rfl
            have zv255 : (rI (uB Rv241 18 xv15.toNatClampNeg (lv250 : Int64)) 8).toInt = (rI Rv241 8).toInt := rfl
            have zv256 : (rI (uB Rv241 18 xv15.toNatClampNeg (lv250 : Int64)) 22).toInt = (rI Rv241 22).toInt := rfl
            have zv257 : (rA (uB Rv241 18 xv15.toNatClampNeg (lv250 : Int64)) 10 30).toInt = (rA Rv241 10 30).toInt := rfl
            have zv258 : (rA (uB Rv241 18 xv15.toNatClampNeg (lv250 : Int64)) 15 xv15.toNatClampNeg).toInt = (rA Rv241 15 xv15.toNatClampNeg).toInt := rfl
            refine r_V (As := []) (rest := []) (ci := 12) C hM (c_X12_isGood l D H0 h0 (uB Rv241 18 xv15.toNatClampNeg (lv250 : Int64)) kc ns ) i_X12_isGood m_X12_147 rK0 rfl rfl rfl hl.1 rfl (Nat.le_of_ble_eq_true rfl) ⟨by decide, by decide⟩ ⟨by decide, by decide⟩ dX12_readPart_183 (fun xv262 Sv259 kv260 nv261 H locs pv263 hM => ?_)
            obtain ⟨rfl, rfl, rfl, hxv262⟩ := pv263
            refine W.eq (g2 := F0 m 186 ls [.int xv262]) rfl ?_
            refine lv_if_eq (tgt := 193) hx hb dX12_readPart_186 (by decide) (fun cv264 => ?_) (fun cv264 => ?_)
            · have tcv264 := eqT cv264
              have zv265 : (rI (uB Rv241 18 xv15.toNatClampNeg (lv250 : Int64)) 3).toInt = (rI R 3).toInt := by rw [hF.gI 3 (by decide)]
              have zv266 : (rI (uB Rv241 18 xv15.toNatClampNeg (lv250 : Int64)) 4).toInt = (rI Rv241 4).toInt := rfl
              have zv267 : (rI (uB Rv241 18 xv15.toNatClampNeg (lv250 : Int64)) 6).toInt = (rI Rv241 6).toInt := rfl
              have zv268 : (rI (uB Rv241 18 xv15.toNatClampNeg (lv250 : Int64)) 7).toInt = (rI Rv241 7).toInt := rfl
              have zv269 : (rI (uB Rv241 18 xv15.toNatClampNeg (lv250 : Int64)) 8).toInt = (rI Rv241 8).toInt := rfl
              have zv270 : (rI (uB Rv241 18 xv15.toNatClampNeg (lv250 : Int64)) 22).toInt = (rI Rv241 22).toInt := rfl
              have zv271 : (rA (uB Rv241 18 xv15.toNatClampNeg (lv250 : Int64)) 10 30).toInt = (rA Rv241 10 30).toInt := rfl
              have zv272 : (rA (uB Rv241 18 xv15.toNatClampNeg (lv250 : Int64)) 15 xv15.toNatClampNeg).toInt = (rA Rv241 15 xv15.toNatClampNeg).toInt := rfl
              exact join193 (uB Rv241 18 xv15.toNatClampNeg (lv250 : Int64)) _ _ _ (hF) (hI) (hG) (by omega) (by omega) (lv_sub hl [0, 1, 2] rfl) hM
            · have tcv264 := eqF cv264
              refine lv_aload_n hx hb dX12_readPart_189 rfl (lv_at hl 0 rfl) ?_
              have zv273 : (rI (uB Rv241 18 xv15.toNatClampNeg (lv250 : Int64)) 3).toInt = (rI R 3).toInt := by rw [hF.gI 3 (by decide)]
              have zv274 : (rI (uB Rv241 18 xv15.toNatClampNeg (lv250 : Int64)) 4).toInt = (rI Rv241 4).toInt := rfl
              have zv275 : (rI (uB Rv241 18 xv15.toNatClampNeg (lv250 : Int64)) 6).toInt = (rI Rv241 6).toInt := rfl
              have zv276 : (rI (uB Rv241 18 xv15.toNatClampNeg (lv250 : Int64)) 7).toInt = (rI Rv241 7).toInt := rfl
              have zv277 : (rI (uB Rv241 18 xv15.toNatClampNeg (lv250 : Int64)) 8).toInt = (rI Rv241 8).toInt := rfl
              have zv278 : (rI (uB Rv241 18 xv15.toNatClampNeg (lv250 : Int64)) 22).toInt = (rI Rv241 22).toInt := rfl
              have zv279 : (rA (uB Rv241 18 xv15.toNatClampNeg (lv250 : Int64)) 10 30).toInt = (rA Rv241 10 30).toInt := rfl
              have zv280 : (rA (uB Rv241 18 xv15.toNatClampNeg (lv250 : Int64)) 15 xv15.toNatClampNeg).toInt = (rA Rv241 15 xv15.toNatClampNeg).toInt := rfl
              refine r_V (As := []) (rest := []) (ci := 12) C hM (c_X12_next l D H0 h0 (uB Rv241 18 xv15.toNatClampNeg (lv250 : Int64)) kc ns hI (by omega) (by omega)) i_X12_next m_X12_155 rK0 rfl rfl rfl hl.1 rfl (Nat.le_of_ble_eq_true rfl) ⟨by decide, by decide⟩ ⟨by decide, by decide⟩ dX12_readPart_190 (fun uv284 Sv281 kv282 nv283 H locs pv285 hM => ?_)
              obtain ⟨rfl, rfl, Rv286, rfl, hf9, huv284⟩ := pv285
              have hF : fr [4, 5, 6, 7, 8, 9, 10, 11, 14, 15, 16, 17, 18, 19, 20, 21, 22] R Rv286 := hF.trans hf9 (by decide)
              have hG : fr [4, 5, 6, 7, 8, 9, 15, 18, 19, 20] Rm Rv286 := hG.trans hf9 (by decide)
              have hI : RI Rv286 := hI.fr hf9 (by decide)
              have zv287 : (rI Rv286 3).toInt = (rI (uB Rv241 18 xv15.toNatClampNeg (lv250 : Int64)) 3).toInt := by rw [hf9.gI 3 (by decide)]
              have zv288 : (rI Rv286 4).toInt = (rI (uB Rv241 18 xv15.toNatClampNeg (lv250 : Int64)) 4).toInt := by rw [hf9.gI 4 (by decide)]
              have zv289 : (rI Rv286 22).toInt = (rI (uB Rv241 18 xv15.toNatClampNeg (lv250 : Int64)) 22).toInt := by rw [hf9.gI 22 (by decide)]
              have zv290 : (rA Rv286 10 30).toInt = (rA (uB Rv241 18 xv15.toNatClampNeg (lv250 : Int64)) 10 30).toInt := by rw [hf9.gA 10 (by decide)]
              have zv291 : (rA Rv286 15 xv15.toNatClampNeg).toInt = (rA (uB Rv241 18 xv15.toNatClampNeg (lv250 : Int64)) 15 xv15.toNatClampNeg).toInt := by rw [hf9.gA 15 (by decide)]
              refine W.eq (g2 := F0 m 193 ls []) rfl ?_
              have zv292 : (rI Rv286 3).toInt = (rI R 3).toInt := by rw [hF.gI 3 (by decide)]
              exact join193 Rv286 _ _ _ (hF) (hI) (hG) (by omega) (by omega) (lv_sub hl [0, 1, 2] rfl) hM
      refine lv_aload_n hx hb dX12_readPart_94 rfl (lv_at hl 2 rfl) ?_
      refine rr_getA (k := 11) (j := 3) C hM f_X12_24 rfl rfl dX12_readPart_95 ?_
      refine lv_iload_n hx hb dX12_readPart_98 rfl (lv_at hl 0 rfl) ?_
      refine lv_aload_n hx hb dX12_readPart_99 rfl (lv_at hl 2 rfl) ?_
      refine rr_getI (k := 22) (v := rI Ra 22) C hM f_X12_141 rfl rfl dX12_readPart_100 ?_
      refine lv_topi (fun xv295 exv295 => ?_)
      have mxv295 : xv295.toInt = (rI Ra 22).toInt := by rw [exv295]
      refine lv_if_ne (tgt := 110) hx hb dX12_readPart_103 (by decide) (fun cv296 => ?_) (fun cv296 => ?_)
      · have tcv296 := eqF cv296
        refine lv_aload_n hx hb dX12_readPart_110 rfl (lv_at hl 2 rfl) ?_
        refine rr_getA (k := 21) (j := 13) C hM f_X12_56 rfl rfl dX12_readPart_111 ?_
        refine lv_aload_n hx hb dX12_readPart_114 rfl (lv_at hl 2 rfl) ?_
        refine rr_getI (k := 22) (v := xv295) C hM f_X12_141 rfl (exv295.symm) dX12_readPart_115 ?_
        refine lv_iconst (v := 1) hx hb dX12_readPart_118 (by decide) ?_
        refine lv_isub hx hb dX12_readPart_119 ?_
        refine lv_topi (fun xv297 exv297 => ?_)
        try (have txv297 := subI (a := xv295) (b := 1) (by omega) (by omega); rw [← exv297] at txv297)
        refine rr_ldI (j := 13) (k := 21) (n := 13) (v := rA Ra 21 xv297.toNatClampNeg) C hM rfl rfl rfl (inI (by omega) (by show _ < (13 : Int); omega)) rfl dX12_readPart_120 ?_
        refine lv_topi (fun xv298 exv298 => ?_)
        have hpx : (0 < xv295.toInt ∧ xv298 = rA Ra 21 (xv295.toInt - 1).toNat) := ⟨by omega, exv298.trans (congrArg (rA Ra 21) (by have h7 := clI (x := xv297) (by omega); omega))⟩
        refine rr_stI (j := 3) (k := 11) (n := 1860) (i := xv15) (x := xv298) C hM rfl rfl rfl (inI (by omega) (by show _ < (1860 : Int); omega)) dX12_readPart_121 (fun H locs hM => ?_)
        have hM : mH D H0 (rM h0 (uA (uA (uA (uA (uB (uB Ra 17 xv15.toNatClampNeg (lv17 : Int64)) 18 xv15.toNatClampNeg (0 : Int64)) 15 xv15.toNatClampNeg (-1 : Int32)) 19 xv15.toNatClampNeg (vp_nar .boolean (0 : Int32))) 16 xv15.toNatClampNeg (0 : Int32)) 11 xv15.toNatClampNeg xv298)) kc ns H locs := hM
        have hF : fr [4, 5, 6, 7, 8, 9, 10, 11, 14, 15, 16, 17, 18, 19, 20, 21, 22] R (uA (uA (uA (uA (uB (uB Ra 17 xv15.toNatClampNeg (lv17 : Int64)) 18 xv15.toNatClampNeg (0 : Int64)) 15 xv15.toNatClampNeg (-1 : Int32)) 19 xv15.toNatClampNeg (vp_nar .boolean (0 : Int32))) 16 xv15.toNatClampNeg (0 : Int32)) 11 xv15.toNatClampNeg xv298) := hF.A (by decide)
        have hI : RI (uA (uA (uA (uA (uB (uB Ra 17 xv15.toNatClampNeg (lv17 : Int64)) 18 xv15.toNatClampNeg (0 : Int64)) 15 xv15.toNatClampNeg (-1 : Int32)) 19 xv15.toNatClampNeg (vp_nar .boolean (0 : Int32))) 16 xv15.toNatClampNeg (0 : Int32)) 11 xv15.toNatClampNeg xv298) := hI.st11 (cl18 (by omega))
        refine lv_aload_n hx hb dX12_readPart_122 rfl (lv_at hl 2 rfl) ?_
        refine rr_getA (k := 14) (j := 6) C hM f_X12_33 rfl rfl dX12_readPart_123 ?_
        refine lv_iload_n hx hb dX12_readPart_126 rfl (lv_at hl 0 rfl) ?_
        refine lv_aload_n hx hb dX12_readPart_127 rfl (lv_at hl 2 rfl) ?_
        refine rr_getI (k := 22) (v := xv295) C hM f_X12_141 rfl (exv295.symm) dX12_readPart_128 ?_
        refine rr_stI (j := 6) (k := 14) (n := 1860) (i := xv15) (x := xv295) C hM rfl rfl rfl (inI (by omega) (by show _ < (1860 : Int); omega)) dX12_readPart_131 (fun H locs hM => ?_)
        have hM : mH D H0 (rM h0 (uA (uA (uA (uA (uA (uB (uB Ra 17 xv15.toNatClampNeg (lv17 : Int64)) 18 xv15.toNatClampNeg (0 : Int64)) 15 xv15.toNatClampNeg (-1 : Int32)) 19 xv15.toNatClampNeg (vp_nar .boolean (0 : Int32))) 16 xv15.toNatClampNeg (0 : Int32)) 11 xv15.toNatClampNeg xv298) 14 xv15.toNatClampNeg xv295)) kc ns H locs := hM
        have hF : fr [4, 5, 6, 7, 8, 9, 10, 11, 14, 15, 16, 17, 18, 19, 20, 21, 22] R (uA (uA (uA (uA (uA (uB (uB Ra 17 xv15.toNatClampNeg (lv17 : Int64)) 18 xv15.toNatClampNeg (0 : Int64)) 15 xv15.toNatClampNeg (-1 : Int32)) 19 xv15.toNatClampNeg (vp_nar .boolean (0 : Int32))) 16 xv15.toNatClampNeg (0 : Int32)) 11 xv15.toNatClampNeg xv298) 14 xv15.toNatClampNeg xv295) := hF.A (by decide)
        have hI : RI (uA (uA (uA (uA (uA (uB (uB Ra 17 xv15.toNatClampNeg (lv17 : Int64)) 18 xv15.toNatClampNeg (0 : Int64)) 15 xv15.toNatClampNeg (-1 : Int32)) 19 xv15.toNatClampNeg (vp_nar .boolean (0 : Int32))) 16 xv15.toNatClampNeg (0 : Int32)) 11 xv15.toNatClampNeg xv298) 14 xv15.toNatClampNeg xv295) := hI.st14 (cl18 (by omega))
        refine lv_aload_n hx hb dX12_readPart_132 rfl (lv_at hl 2 rfl) ?_
        refine rr_getA (k := 10) (j := 2) C hM f_X12_20 rfl rfl dX12_readPart_133 ?_
        refine lv_bipush (v := 30) hx hb dX12_readPart_136 (by decide) ?_
        refine lv_dup2_11 hx hb dX12_readPart_138 rfl rfl ?_
        refine rr_ldI (j := 2) (k := 10) (n := 31) (v := xv9) C hM rfl rfl rfl (inI (by omega) (by show _ < (31 : Int); omega)) (exv9.symm) dX12_readPart_139 ?_
        refine lv_iconst (v := 1) hx hb dX12_readPart_140 (by decide) ?_
        refine lv_iadd hx hb dX12_readPart_141 ?_
        refine lv_topi (fun xv299 exv299 => ?_)
        try (have txv299 := addI (a := xv9) (b := 1) (by omega) (by omega); rw [← exv299] at txv299)
        refine rr_stI (j := 2) (k := 10) (n := 31) (i := (30 : Int32)) (x := xv299) C hM rfl rfl rfl (inI (by omega) (by show _ < (31 : Int); omega)) dX12_readPart_142 (fun H locs hM => ?_)
        have hM : mH D H0 (rM h0 (uA (uA (uA (uA (uA (uA (uB (uB Ra 17 xv15.toNatClampNeg (lv17 : Int64)) 18 xv15.toNatClampNeg (0 : Int64)) 15 xv15.toNatClampNeg (-1 : Int32)) 19 xv15.toNatClampNeg (vp_nar .boolean (0 : Int32))) 16 xv15.toNatClampNeg (0 : Int32)) 11 xv15.toNatClampNeg xv298) 14 xv15.toNatClampNeg xv295) 10 30 xv299)) kc ns H locs := hM
        have hF : fr [4, 5, 6, 7, 8, 9, 10, 11, 14, 15, 16, 17, 18, 19, 20, 21, 22] R (uA (uA (uA (uA (uA (uA (uB (uB Ra 17 xv15.toNatClampNeg (lv17 : Int64)) 18 xv15.toNatClampNeg (0 : Int64)) 15 xv15.toNatClampNeg (-1 : Int32)) 19 xv15.toNatClampNeg (vp_nar .boolean (0 : Int32))) 16 xv15.toNatClampNeg (0 : Int32)) 11 xv15.toNatClampNeg xv298) 14 xv15.toNatClampNeg xv295) 10 30 xv299) := hF.A (by decide)
        have hI : RI (uA (uA (uA (uA (uA (uA (uB (uB Ra 17 xv15.toNatClampNeg (lv17 : Int64)) 18 xv15.toNatClampNeg (0 : Int64)) 15 xv15.toNatClampNeg (-1 : Int32)) 19 xv15.toNatClampNeg (vp_nar .boolean (0 : Int32))) 16 xv15.toNatClampNeg (0 : Int32)) 11 xv15.toNatClampNeg xv298) 14 xv15.toNatClampNeg xv295) 10 30 xv299) := hI.st10 (by omega)
        obtain ⟨hR, hd9⟩ := RR.push1 (R := Ra) (R1 := (uA (uA (uA (uA (uA (uA (uB (uB Ra 17 xv15.toNatClampNeg (lv17 : Int64)) 18 xv15.toNatClampNeg (0 : Int64)) 15 xv15.toNatClampNeg (-1 : Int32)) 19 xv15.toNatClampNeg (vp_nar .boolean (0 : Int32))) 16 xv15.toNatClampNeg (0 : Int32)) 11 xv15.toNatClampNeg xv298) 14 xv15.toNatClampNeg xv295) 10 30 xv299)) (x := xv298) (y := xv299) (o := xv295) (s := xv15.toNatClampNeg) (p := xv9.toNatClampNeg) hR (by have h7 := clI (x := xv9 ) (by omega); omega) (by have h7 := clI (x := xv9 ) (by omega); have h8 := clI (x := xv15 ) (by omega); omega) exv295 (by omega) (by omega) (by first | exact Or.inl ⟨by omega, by decide⟩ | exact Or.inr hpx) rfl rfl rfl rfl rfl
        have z10 : (rA (uA (uA (uA (uA (uA (uA (uB (uB Ra 17 xv15.toNatClampNeg (lv17 : Int64)) 18 xv15.toNatClampNeg (0 : Int64)) 15 xv15.toNatClampNeg (-1 : Int32)) 19 xv15.toNatClampNeg (vp_nar .boolean (0 : Int32))) 16 xv15.toNatClampNeg (0 : Int32)) 11 xv15.toNatClampNeg xv298) 14 xv15.toNatClampNeg xv295) 10 30 xv299) 10 30).toInt = xv299.toInt := rfl
        have zv300 : (rI (uA (uA (uA (uA (uA (uA (uB (uB Ra 17 xv15.toNatClampNeg (lv17 : Int64)) 18 xv15.toNatClampNeg (0 : Int64)) 15 xv15.toNatClampNeg (-1 : Int32)) 19 xv15.toNatClampNeg (vp_nar .boolean (0 : Int32))) 16 xv15.toNatClampNeg (0 : Int32)) 11 xv15.toNatClampNeg xv298) 14 xv15.toNatClampNeg xv295) 10 30 xv299) 3).toInt = (rI R 3).toInt := by rw [hF.gI 3 (by decide)]
        have zv301 : (rI (uA (uA (uA (uA (uA (uA (uB (uB Ra 17 xv15.toNatClampNeg (lv17 : Int64)) 18 xv15.toNatClampNeg (0 : Int64)) 15 xv15.toNatClampNeg (-1 : Int32)) 19 xv15.toNatClampNeg (vp_nar .boolean (0 : Int32))) 16 xv15.toNatClampNeg (0 : Int32)) 11 xv15.toNatClampNeg xv298) 14 xv15.toNatClampNeg xv295) 10 30 xv299) 4).toInt = (rI Ra 4).toInt := rfl
        have zv302 : (rI (uA (uA (uA (uA (uA (uA (uB (uB Ra 17 xv15.toNatClampNeg (lv17 : Int64)) 18 xv15.toNatClampNeg (0 : Int64)) 15 xv15.toNatClampNeg (-1 : Int32)) 19 xv15.toNatClampNeg (vp_nar .boolean (0 : Int32))) 16 xv15.toNatClampNeg (0 : Int32)) 11 xv15.toNatClampNeg xv298) 14 xv15.toNatClampNeg xv295) 10 30 xv299) 6).toInt = (rI Ra 6).toInt := rfl
        have zv303 : (rI (uA (uA (uA (uA (uA (uA (uB (uB Ra 17 xv15.toNatClampNeg (lv17 : Int64)) 18 xv15.toNatClampNeg (0 : Int64)) 15 xv15.toNatClampNeg (-1 : Int32)) 19 xv15.toNatClampNeg (vp_nar .boolean (0 : Int32))) 16 xv15.toNatClampNeg (0 : Int32)) 11 xv15.toNatClampNeg xv298) 14 xv15.toNatClampNeg xv295) 10 30 xv299) 7).toInt = (rI Ra 7).toInt := rfl
        have zv304 : (rI (uA (uA (uA (uA (uA (uA (uB (uB Ra 17 xv15.toNatClampNeg (lv17 : Int64)) 18 xv15.toNatClampNeg (0 : Int64)) 15 xv15.toNatClampNeg (-1 : Int32)) 19 xv15.toNatClampNeg (vp_nar .boolean (0 : Int32))) 16 xv15.toNatClampNeg (0 : Int32)) 11 xv15.toNatClampNeg xv298) 14 xv15.toNatClampNeg xv295) 10 30 xv299) 8).toInt = (rI Ra 8).toInt := rfl
        have zv305 : (rI (uA (uA (uA (uA (uA (uA (uB (uB Ra 17 xv15.toNatClampNeg (lv17 : Int64)) 18 xv15.toNatClampNeg (0 : Int64)) 15 xv15.toNatClampNeg (-1 : Int32)) 19 xv15.toNatClampNeg (vp_nar .boolean (0 : Int32))) 16 xv15.toNatClampNeg (0 : Int32)) 11 xv15.toNatClampNeg xv298) 14 xv15.toNatClampNeg xv295) 10 30 xv299) 22).toInt = (rI Ra 22).toInt := rfl
        exact join143 (uA (uA (uA (uA (uA (uA (uB (uB Ra 17 xv15.toNatClampNeg (lv17 : Int64)) 18 xv15.toNatClampNeg (0 : Int64)) 15 xv15.toNatClampNeg (-1 : Int32)) 19 xv15.toNatClampNeg (vp_nar .boolean (0 : Int32))) 16 xv15.toNatClampNeg (0 : Int32)) 11 xv15.toNatClampNeg xv298) 14 xv15.toNatClampNeg xv295) 10 30 xv299) _ _ _ (hF) (hI) (hR) (hd9) (by omega) (by omega) (lv_sub hl [2, 1, 0] rfl) hM
      · have tcv296 := eqT cv296
        refine lv_iconst (v := -1) hx hb dX12_readPart_106 (by decide) ?_
        refine lv_goto (tgt := 121) hx hb dX12_readPart_107 (by decide) ?_
        refine rr_stI (j := 3) (k := 11) (n := 1860) (i := xv15) (x := (-1 : Int32)) C hM rfl rfl rfl (inI (by omega) (by show _ < (1860 : Int); omega)) dX12_readPart_121 (fun H locs hM => ?_)
        have hM : mH D H0 (rM h0 (uA (uA (uA (uA (uB (uB Ra 17 xv15.toNatClampNeg (lv17 : Int64)) 18 xv15.toNatClampNeg (0 : Int64)) 15 xv15.toNatClampNeg (-1 : Int32)) 19 xv15.toNatClampNeg (vp_nar .boolean (0 : Int32))) 16 xv15.toNatClampNeg (0 : Int32)) 11 xv15.toNatClampNeg (-1 : Int32))) kc ns H locs := hM
        have hF : fr [4, 5, 6, 7, 8, 9, 10, 11, 14, 15, 16, 17, 18, 19, 20, 21, 22] R (uA (uA (uA (uA (uB (uB Ra 17 xv15.toNatClampNeg (lv17 : Int64)) 18 xv15.toNatClampNeg (0 : Int64)) 15 xv15.toNatClampNeg (-1 : Int32)) 19 xv15.toNatClampNeg (vp_nar .boolean (0 : Int32))) 16 xv15.toNatClampNeg (0 : Int32)) 11 xv15.toNatClampNeg (-1 : Int32)) := hF.A (by decide)
        have hI : RI (uA (uA (uA (uA (uB (uB Ra 17 xv15.toNatClampNeg (lv17 : Int64)) 18 xv15.toNatClampNeg (0 : Int64)) 15 xv15.toNatClampNeg (-1 : Int32)) 19 xv15.toNatClampNeg (vp_nar .boolean (0 : Int32))) 16 xv15.toNatClampNeg (0 : Int32)) 11 xv15.toNatClampNeg (-1 : Int32)) := hI.st11 (cl18 (by omega))
        refine lv_aload_n hx hb dX12_readPart_122 rfl (lv_at hl 2 rfl) ?_
        refine rr_getA (k := 14) (j := 6) C hM f_X12_33 rfl rfl dX12_readPart_123 ?_
        refine lv_iload_n hx hb dX12_readPart_126 rfl (lv_at hl 0 rfl) ?_
        refine lv_aload_n hx hb dX12_readPart_127 rfl (lv_at hl 2 rfl) ?_
        refine rr_getI (k := 22) (v := xv295) C hM f_X12_141 rfl (exv295.symm) dX12_readPart_128 ?_
        refine rr_stI (j := 6) (k := 14) (n := 1860) (i := xv15) (x := xv295) C hM rfl rfl rfl (inI (by omega) (by show _ < (1860 : Int); omega)) dX12_readPart_131 (fun H locs hM => ?_)
        have hM : mH D H0 (rM h0 (uA (uA (uA (uA (uA (uB (uB Ra 17 xv15.toNatClampNeg (lv17 : Int64)) 18 xv15.toNatClampNeg (0 : Int64)) 15 xv15.toNatClampNeg (-1 : Int32)) 19 xv15.toNatClampNeg (vp_nar .boolean (0 : Int32))) 16 xv15.toNatClampNeg (0 : Int32)) 11 xv15.toNatClampNeg (-1 : Int32)) 14 xv15.toNatClampNeg xv295)) kc ns H locs := hM
        have hF : fr [4, 5, 6, 7, 8, 9, 10, 11, 14, 15, 16, 17, 18, 19, 20, 21, 22] R (uA (uA (uA (uA (uA (uB (uB Ra 17 xv15.toNatClampNeg (lv17 : Int64)) 18 xv15.toNatClampNeg (0 : Int64)) 15 xv15.toNatClampNeg (-1 : Int32)) 19 xv15.toNatClampNeg (vp_nar .boolean (0 : Int32))) 16 xv15.toNatClampNeg (0 : Int32)) 11 xv15.toNatClampNeg (-1 : Int32)) 14 xv15.toNatClampNeg xv295) := hF.A (by decide)
        have hI : RI (uA (uA (uA (uA (uA (uB (uB Ra 17 xv15.toNatClampNeg (lv17 : Int64)) 18 xv15.toNatClampNeg (0 : Int64)) 15 xv15.toNatClampNeg (-1 : Int32)) 19 xv15.toNatClampNeg (vp_nar .boolean (0 : Int32))) 16 xv15.toNatClampNeg (0 : Int32)) 11 xv15.toNatClampNeg (-1 : Int32)) 14 xv15.toNatClampNeg xv295) := hI.st14 (cl18 (by omega))
        refine lv_aload_n hx hb dX12_readPart_132 rfl (lv_at hl 2 rfl) ?_
        refine rr_getA (k := 10) (j := 2) C hM f_X12_20 rfl rfl dX12_readPart_133 ?_
        refine lv_bipush (v := 30) hx hb dX12_readPart_136 (by decide) ?_
        refine lv_dup2_11 hx hb dX12_readPart_138 rfl rfl ?_
        refine rr_ldI (j := 2) (k := 10) (n := 31) (v := xv9) C hM rfl rfl rfl (inI (by omega) (by show _ < (31 : Int); omega)) (exv9.symm) dX12_readPart_139 ?_
        refine lv_iconst (v := 1) hx hb dX12_readPart_140 (by decide) ?_
        refine lv_iadd hx hb dX12_readPart_141 ?_
        refine lv_topi (fun xv308 exv308 => ?_)
        try (have txv308 := addI (a := xv9) (b := 1) (by omega) (by omega); rw [← exv308] at txv308)
        refine rr_stI (j := 2) (k := 10) (n := 31) (i := (30 : Int32)) (x := xv308) C hM rfl rfl rfl (inI (by omega) (by show _ < (31 : Int); omega)) dX12_readPart_142 (fun H locs hM => ?_)
        have hM : mH D H0 (rM h0 (uA (uA (uA (uA (uA (uA (uB (uB Ra 17 xv15.toNatClampNeg (lv17 : Int64)) 18 xv15.toNatClampNeg (0 : Int64)) 15 xv15.toNatClampNeg (-1 : Int32)) 19 xv15.toNatClampNeg (vp_nar .boolean (0 : Int32))) 16 xv15.toNatClampNeg (0 : Int32)) 11 xv15.toNatClampNeg (-1 : Int32)) 14 xv15.toNatClampNeg xv295) 10 30 xv308)) kc ns H locs := hM
        have hF : fr [4, 5, 6, 7, 8, 9, 10, 11, 14, 15, 16, 17, 18, 19, 20, 21, 22] R (uA (uA (uA (uA (uA (uA (uB (uB Ra 17 xv15.toNatClampNeg (lv17 : Int64)) 18 xv15.toNatClampNeg (0 : Int64)) 15 xv15.toNatClampNeg (-1 : Int32)) 19 xv15.toNatClampNeg (vp_nar .boolean (0 : Int32))) 16 xv15.toNatClampNeg (0 : Int32)) 11 xv15.toNatClampNeg (-1 : Int32)) 14 xv15.toNatClampNeg xv295) 10 30 xv308) := hF.A (by decide)
        have hI : RI (uA (uA (uA (uA (uA (uA (uB (uB Ra 17 xv15.toNatClampNeg (lv17 : Int64)) 18 xv15.toNatClampNeg (0 : Int64)) 15 xv15.toNatClampNeg (-1 : Int32)) 19 xv15.toNatClampNeg (vp_nar .boolean (0 : Int32))) 16 xv15.toNatClampNeg (0 : Int32)) 11 xv15.toNatClampNeg (-1 : Int32)) 14 xv15.toNatClampNeg xv295) 10 30 xv308) := hI.st10 (by omega)
        obtain ⟨hR, hd9⟩ := RR.push1 (R := Ra) (R1 := (uA (uA (uA (uA (uA (uA (uB (uB Ra 17 xv15.toNatClampNeg (lv17 : Int64)) 18 xv15.toNatClampNeg (0 : Int64)) 15 xv15.toNatClampNeg (-1 : Int32)) 19 xv15.toNatClampNeg (vp_nar .boolean (0 : Int32))) 16 xv15.toNatClampNeg (0 : Int32)) 11 xv15.toNatClampNeg (-1 : Int32)) 14 xv15.toNatClampNeg xv295) 10 30 xv308)) (x := (-1)) (y := xv308) (o := xv295) (s := xv15.toNatClampNeg) (p := xv9.toNatClampNeg) hR (by have h7 := clI (x := xv9 ) (by omega); omega) (by have h7 := clI (x := xv9 ) (by omega); have h8 := clI (x := xv15 ) (by omega); omega) exv295 (by omega) (by omega) (by first | exact Or.inl ⟨by omega, by decide⟩ | exact Or.inr hpx) rfl rfl rfl rfl rfl
        have z10 : (rA (uA (uA (uA (uA (uA (uA (uB (uB Ra 17 xv15.toNatClampNeg (lv17 : Int64)) 18 xv15.toNatClampNeg (0 : Int64)) 15 xv15.toNatClampNeg (-1 : Int32)) 19 xv15.toNatClampNeg (vp_nar .boolean (0 : Int32))) 16 xv15.toNatClampNeg (0 : Int32)) 11 xv15.toNatClampNeg (-1 : Int32)) 14 xv15.toNatClampNeg xv295) 10 30 xv308) 10 30).toInt = xv308.toInt := rfl
        have zv309 : (rI (uA (uA (uA (uA (uA (uA (uB (uB Ra 17 xv15.toNatClampNeg (lv17 : Int64)) 18 xv15.toNatClampNeg (0 : Int64)) 15 xv15.toNatClampNeg (-1 : Int32)) 19 xv15.toNatClampNeg (vp_nar .boolean (0 : Int32))) 16 xv15.toNatClampNeg (0 : Int32)) 11 xv15.toNatClampNeg (-1 : Int32)) 14 xv15.toNatClampNeg xv295) 10 30 xv308) 3).toInt = (rI R 3).toInt := by rw [hF.gI 3 (by decide)]
        have zv310 : (rI (uA (uA (uA (uA (uA (uA (uB (uB Ra 17 xv15.toNatClampNeg (lv17 : Int64)) 18 xv15.toNatClampNeg (0 : Int64)) 15 xv15.toNatClampNeg (-1 : Int32)) 19 xv15.toNatClampNeg (vp_nar .boolean (0 : Int32))) 16 xv15.toNatClampNeg (0 : Int32)) 11 xv15.toNatClampNeg (-1 : Int32)) 14 xv15.toNatClampNeg xv295) 10 30 xv308) 4).toInt = (rI Ra 4).toInt := rfl
        have zv311 : (rI (uA (uA (uA (uA (uA (uA (uB (uB Ra 17 xv15.toNatClampNeg (lv17 : Int64)) 18 xv15.toNatClampNeg (0 : Int64)) 15 xv15.toNatClampNeg (-1 : Int32)) 19 xv15.toNatClampNeg (vp_nar .boolean (0 : Int32))) 16 xv15.toNatClampNeg (0 : Int32)) 11 xv15.toNatClampNeg (-1 : Int32)) 14 xv15.toNatClampNeg xv295) 10 30 xv308) 6).toInt = (rI Ra 6).toInt := rfl
        have zv312 : (rI (uA (uA (uA (uA (uA (uA (uB (uB Ra 17 xv15.toNatClampNeg (lv17 : Int64)) 18 xv15.toNatClampNeg (0 : Int64)) 15 xv15.toNatClampNeg (-1 : Int32)) 19 xv15.toNatClampNeg (vp_nar .boolean (0 : Int32))) 16 xv15.toNatClampNeg (0 : Int32)) 11 xv15.toNatClampNeg (-1 : Int32)) 14 xv15.toNatClampNeg xv295) 10 30 xv308) 7).toInt = (rI Ra 7).toInt := rfl
        have zv313 : (rI (uA (uA (uA (uA (uA (uA (uB (uB Ra 17 xv15.toNatClampNeg (lv17 : Int64)) 18 xv15.toNatClampNeg (0 : Int64)) 15 xv15.toNatClampNeg (-1 : Int32)) 19 xv15.toNatClampNeg (vp_nar .boolean (0 : Int32))) 16 xv15.toNatClampNeg (0 : Int32)) 11 xv15.toNatClampNeg (-1 : Int32)) 14 xv15.toNatClampNeg xv295) 10 30 xv308) 8).toInt = (rI Ra 8).toInt := rfl
        have zv314 : (rI (uA (uA (uA (uA (uA (uA (uB (uB Ra 17 xv15.toNatClampNeg (lv17 : Int64)) 18 xv15.toNatClampNeg (0 : Int64)) 15 xv15.toNatClampNeg (-1 : Int32)) 19 xv15.toNatClampNeg (vp_nar .boolean (0 : Int32))) 16 xv15.toNatClampNeg (0 : Int32)) 11 xv15.toNatClampNeg (-1 : Int32)) 14 xv15.toNatClampNeg xv295) 10 30 xv308) 22).toInt = (rI Ra 22).toInt := rfl
        exact join143 (uA (uA (uA (uA (uA (uA (uB (uB Ra 17 xv15.toNatClampNeg (lv17 : Int64)) 18 xv15.toNatClampNeg (0 : Int64)) 15 xv15.toNatClampNeg (-1 : Int32)) 19 xv15.toNatClampNeg (vp_nar .boolean (0 : Int32))) 16 xv15.toNatClampNeg (0 : Int32)) 11 xv15.toNatClampNeg (-1 : Int32)) 14 xv15.toNatClampNeg xv295) 10 30 xv308) _ _ _ (hF) (hI) (hR) (hd9) (by omega) (by omega) (lv_sub hl [2, 1, 0] rfl) hM
    · have tcv8 := eqT cv8
      have zv317 : (rI Ra 3).toInt = (rI R 3).toInt := by rw [hF.gI 3 (by decide)]
      exact r_retV C hr hlk hM (⟨rfl, rfl, _, rfl, hF, hI, hR, by omega, by omega⟩) dX12_readPart_40
  refine lv_aload_n hx hb dX12_readPart_0 rfl (lv_at hl 0 rfl) ?_
  refine rr_getI (k := 8) (v := rI R 8) C hM f_X12_126 rfl rfl dX12_readPart_1 ?_
  refine lv_topi (fun xv319 exv319 => ?_)
  have mxv319 : xv319.toInt = (rI R 8).toInt := by rw [exv319]
  refine lv_iconst (v := 2) hx hb dX12_readPart_4 (by decide) ?_
  refine lv_icmp_ne (tgt := 29) hx hb dX12_readPart_5 (by decide) (fun cv320 => ?_) (fun cv320 => ?_)
  · have tcv320 := eqF cv320
    refine lv_aload_n hx hb dX12_readPart_29 rfl (lv_at hl 0 rfl) ?_
    refine r_V (As := []) (rest := []) (ci := 12) C hM (c_X12_wrong l D H0 h0 R kc ns ) i_X12_wrong m_X12_144 rK0 rfl rfl rfl hl.1 rfl (Nat.le_of_ble_eq_true rfl) ⟨by decide, by decide⟩ ⟨by decide, by decide⟩ dX12_readPart_30 (fun uv324 Sv321 kv322 nv323 H locs pv325 hM => ?_)
    obtain ⟨rfl, rfl, Rv326, rfl, hf9, huv324⟩ := pv325
    have hF : fr [4, 5, 6, 7, 8, 9, 10, 11, 14, 15, 16, 17, 18, 19, 20, 21, 22] R Rv326 := hF.trans hf9 (by decide)
    have hI : RI Rv326 := hI.fr hf9 (by decide)
    have zv327 : (rI Rv326 3).toInt = (rI R 3).toInt := by rw [hf9.gI 3 (by decide)]
    have zv328 : (rI Rv326 6).toInt = (rI R 6).toInt := by rw [hf9.gI 6 (by decide)]
    have zv329 : (rI Rv326 7).toInt = (rI R 7).toInt := by rw [hf9.gI 7 (by decide)]
    have zv330 : (rI Rv326 8).toInt = (rI R 8).toInt := by rw [hf9.gI 8 (by decide)]
    have zv331 : (rI Rv326 22).toInt = (rI R 22).toInt := by rw [hf9.gI 22 (by decide)]
    have zv332 : (rA Rv326 10 30).toInt = (rA R 10 30).toInt := by rw [hf9.gA 10 (by decide)]
    have vv333 : rI Rv326 8 = xv319 := (hf9.gI 8 (by decide)).trans (exv319.symm)
    have hRw : ∀ {Q : RS}, Q = R → RR Q → RR Rv326 := fun e h => by subst e; exact h.fr hf9 (by decide)
    refine W.eq (g2 := F0 m 33 ls []) rfl ?_
    have zv334 : (rI Rv326 3).toInt = (rI R 3).toInt := by rw [hF.gI 3 (by decide)]
    exact join33 Rv326 _ _ _ (hF) (hI) (by first | exact hR | exact hRw rfl hR) (by omega) (by omega) (lv_sub hl [0] rfl) hM
  · have tcv320 := eqT cv320
    refine lv_aload_n hx hb dX12_readPart_8 rfl (lv_at hl 0 rfl) ?_
    refine rr_getA (k := 10) (j := 2) C hM f_X12_20 rfl rfl dX12_readPart_9 ?_
    refine lv_bipush (v := 30) hx hb dX12_readPart_12 (by decide) ?_
    refine rr_ldI (j := 2) (k := 10) (n := 31) (v := rA R 10 30) C hM rfl rfl rfl (inI (by omega) (by show _ < (31 : Int); omega)) rfl dX12_readPart_14 ?_
    refine lv_topi (fun xv336 exv336 => ?_)
    have mxv336 : xv336.toInt = (rA R 10 30).toInt := by rw [exv336]
    refine lv_bipush (v := 60) hx hb dX12_readPart_15 (by decide) ?_
    refine lv_icmp_eq (tgt := 29) hx hb dX12_readPart_17 (by decide) (fun cv337 => ?_) (fun cv337 => ?_)
    · have tcv337 := eqT cv337
      refine lv_aload_n hx hb dX12_readPart_29 rfl (lv_at hl 0 rfl) ?_
      refine r_V (As := []) (rest := []) (ci := 12) C hM (c_X12_wrong l D H0 h0 R kc ns ) i_X12_wrong m_X12_144 rK0 rfl rfl rfl hl.1 rfl (Nat.le_of_ble_eq_true rfl) ⟨by decide, by decide⟩ ⟨by decide, by decide⟩ dX12_readPart_30 (fun uv341 Sv338 kv339 nv340 H locs pv342 hM => ?_)
      obtain ⟨rfl, rfl, Rv343, rfl, hf9, huv341⟩ := pv342
      have hF : fr [4, 5, 6, 7, 8, 9, 10, 11, 14, 15, 16, 17, 18, 19, 20, 21, 22] R Rv343 := hF.trans hf9 (by decide)
      have hI : RI Rv343 := hI.fr hf9 (by decide)
      have zv344 : (rI Rv343 3).toInt = (rI R 3).toInt := by rw [hf9.gI 3 (by decide)]
      have zv345 : (rI Rv343 6).toInt = (rI R 6).toInt := by rw [hf9.gI 6 (by decide)]
      have zv346 : (rI Rv343 7).toInt = (rI R 7).toInt := by rw [hf9.gI 7 (by decide)]
      have zv347 : (rI Rv343 8).toInt = (rI R 8).toInt := by rw [hf9.gI 8 (by decide)]
      have zv348 : (rI Rv343 22).toInt = (rI R 22).toInt := by rw [hf9.gI 22 (by decide)]
      have zv349 : (rA Rv343 10 30).toInt = (rA R 10 30).toInt := by rw [hf9.gA 10 (by decide)]
      have vv350 : rI Rv343 8 = xv319 := (hf9.gI 8 (by decide)).trans (exv319.symm)
      have vv351 : rA Rv343 10 (30 : Int32).toNatClampNeg = xv336 := (congrFun (hf9.gA 10 (by decide)) _).trans (exv336.symm)
      have hRw : ∀ {Q : RS}, Q = R → RR Q → RR Rv343 := fun e h => by subst e; exact h.fr hf9 (by decide)
      refine W.eq (g2 := F0 m 33 ls []) rfl ?_
      have zv352 : (rI Rv343 3).toInt = (rI R 3).toInt := by rw [hF.gI 3 (by decide)]
      exact join33 Rv343 _ _ _ (hF) (hI) (by first | exact hR | exact hRw rfl hR) (by omega) (by omega) (lv_sub hl [0] rfl) hM
    · have tcv337 := eqF cv337
      refine lv_aload_n hx hb dX12_readPart_20 rfl (lv_at hl 0 rfl) ?_
      refine rr_getI (k := 22) (v := rI R 22) C hM f_X12_141 rfl rfl dX12_readPart_21 ?_
      refine lv_topi (fun xv354 exv354 => ?_)
      have mxv354 : xv354.toInt = (rI R 22).toInt := by rw [exv354]
      refine lv_bipush (v := 12) hx hb dX12_readPart_24 (by decide) ?_
      refine lv_icmp_ne (tgt := 33) hx hb dX12_readPart_26 (by decide) (fun cv355 => ?_) (fun cv355 => ?_)
      · have tcv355 := eqF cv355
        exact join33 R _ _ _ (hF) (hI) (by first | exact hR | exact hRw rfl hR) (by omega) (by omega) (lv_sub hl [0] rfl) hM
      · have tcv355 := eqT cv355
        refine lv_aload_n hx hb dX12_readPart_29 rfl (lv_at hl 0 rfl) ?_
        refine r_V (As := []) (rest := []) (ci := 12) C hM (c_X12_wrong l D H0 h0 R kc ns ) i_X12_wrong m_X12_144 rK0 rfl rfl rfl hl.1 rfl (Nat.le_of_ble_eq_true rfl) ⟨by decide, by decide⟩ ⟨by decide, by decide⟩ dX12_readPart_30 (fun uv359 Sv356 kv357 nv358 H locs pv360 hM => ?_)
        obtain ⟨rfl, rfl, Rv361, rfl, hf9, huv359⟩ := pv360
        have hF : fr [4, 5, 6, 7, 8, 9, 10, 11, 14, 15, 16, 17, 18, 19, 20, 21, 22] R Rv361 := hF.trans hf9 (by decide)
        have hI : RI Rv361 := hI.fr hf9 (by decide)
        have zv362 : (rI Rv361 3).toInt = (rI R 3).toInt := by rw [hf9.gI 3 (by decide)]
        have zv363 : (rI Rv361 6).toInt = (rI R 6).toInt := by rw [hf9.gI 6 (by decide)]
        have zv364 : (rI Rv361 7).toInt = (rI R 7).toInt := by rw [hf9.gI 7 (by decide)]
        have zv365 : (rI Rv361 8).toInt = (rI R 8).toInt := by rw [hf9.gI 8 (by decide)]
        have zv366 : (rI Rv361 22).toInt = (rI R 22).toInt := by rw [hf9.gI 22 (by decide)]
        have zv367 : (rA Rv361 10 30).toInt = (rA R 10 30).toInt := by rw [hf9.gA 10 (by decide)]
        have vv368 : rI Rv361 8 = xv319 := (hf9.gI 8 (by decide)).trans (exv319.symm)
        have vv369 : rA Rv361 10 (30 : Int32).toNatClampNeg = xv336 := (congrFun (hf9.gA 10 (by decide)) _).trans (exv336.symm)
        have vv370 : rI Rv361 22 = xv354 := (hf9.gI 22 (by decide)).trans (exv354.symm)
        have hRw : ∀ {Q : RS}, Q = R → RR Q → RR Rv361 := fun e h => by subst e; exact h.fr hf9 (by decide)
        refine W.eq (g2 := F0 m 33 ls []) rfl ?_
        have zv371 : (rI Rv361 3).toInt = (rI R 3).toInt := by rw [hF.gI 3 (by decide)]
        exact join33 Rv361 _ _ _ (hF) (hI) (by first | exact hR | exact hRw rfl hR) (by omega) (by omega) (lv_sub hl [0] rfl) hM
