set_option maxHeartbeats 4000000 in
set_option maxRecDepth 100000 in
theorem c_X8_first (l : Launch) (D : gD) (H0 : gB) (S : Mem) (kc ns : Nat) (h0 : Nat) {u : Nat} {tl : Int} {rho : Nat × Nat} (hI : CI x0 u tl rho S) (kh0 : mK S h0 = 9) : Met l yX8_first (wsU yX8_first cX8_first 1 (some (.object "ClickBench$Part"))) ({ frames := 0, cells := 0, slots := 0, locals := 0 } : Room) (mP D H0 S kc ns [.ref h0]) (mQ D H0 gR (fun r S1 k1 n1 => S = S1 ∧ kc = k1 ∧ ns = n1 ∧ (∀ q, r = some q → mK S q = 6))) 0 0 (mF H0) := by
  refine r_met (own := RX8) (by decide +kernel) rfl (Nat.le_of_ble_eq_true rfl) ?_
  intro p e s m args below meth c C hr hlk hnm H ls hl hM
  obtain ⟨hx, hb, hml, hown, hts, -, -⟩ := id C
  have hl : lv_has ls 1 [(0, .ref h0)] := hl
  have t_0 : (0 : Int32).toInt = 0 := by decide
  refine lv_aload_n hx hb dX8_first_0 rfl (lv_at hl 0 rfl) ?_
  refine r_get (ci := 8) (k := 2) (v := .int (mI S 802 h0)) C hM kh0 f_X8_21 rfl dX8_first_1 ?_
  refine lv_topi (fun xv1 exv1 => ?_)
  have fxv1 := NI.f802 hI.2 kh0
  rw [← exv1] at fxv1
  refine lv_if_ne (tgt := 11) hx hb dX8_first_4 (by decide) (fun cv2 => ?_) (fun cv2 => ?_)
  · have tcv2 := eqF cv2
    refine lv_aload_n hx hb dX8_first_11 rfl (lv_at hl 0 rfl) ?_
    obtain ⟨qv3, eqv3, kqv3, nqv3⟩ := TI.nn hI.1 (ci := 8) (k := 0) kh0
    refine r_get (ci := 8) (k := 0) (v := .ref qv3) C hM kh0 f_X8_11 (congrArg va_rf eqv3) dX8_first_12 ?_
    refine lv_iconst (v := 0) hx hb dX8_first_15 (by decide) ?_
    refine r_aald (t := 0) C hM kqv3 rfl (by decide) (inI (by omega) (by rw [nqv3 (by decide)]; show _ < (6 : Int); omega)) dX8_first_16 ?_
    obtain ⟨rv4, erv4, krv4⟩ : ∃ r : Option Nat, aR S qv3 (0 : Int32).toNatClampNeg = r ∧ ∀ q, r = some q → mK S q = 6 := ⟨_, rfl, TI.arr hI.1 (t := 0) kqv3⟩
    refine W.eq (g2 := F0 m 17 ls [va_rf rv4]) (by rw [← erv4]) ?_
    exact r_retR (v := rv4) C hr hlk hM (⟨rfl, rfl, rfl, krv4⟩) dX8_first_17
  · have tcv2 := eqT cv2
    refine lv_null hx hb dX8_first_7 ?_
    refine lv_goto (tgt := 17) hx hb dX8_first_8 (by decide) ?_
    exact r_retR (v := none) C hr hlk hM (⟨rfl, rfl, rfl, fun z h => by cases h⟩) dX8_first_17
set_option maxHeartbeats 4000000 in
set_option maxRecDepth 100000 in
theorem c_X8_leastMarks (l : Launch) (D : gD) (H0 : gB) (S : Mem) (kc ns : Nat) (h0 : Nat) {u : Nat} {tl : Int} {rho : Nat × Nat} (hI : CI x0 u tl rho S) (kh0 : mK S h0 = 9) : Met l yX8_leastMarks (wsU yX8_leastMarks cX8_leastMarks 5 (some .int)) ({ frames := 1, cells := 0, slots := 0, locals := 20 } : Room) (mP D H0 S kc ns [.ref h0]) (mQ D H0 gI (fun r S1 k1 n1 => S = S1 ∧ kc = k1 ∧ ns = n1 ∧ True)) 0 0 (mF H0) := by
  refine r_met (own := RX8) (by decide +kernel) rfl (Nat.le_of_ble_eq_true rfl) ?_
  intro p e s m args below meth c C hr hlk hnm H ls hl hM
  obtain ⟨hx, hb, hml, hown, hts, -, -⟩ := id C
  have hl : lv_has ls 5 [(0, .ref h0)] := hl
  have t_m1 : (-1 : Int32).toInt = -1 := by decide
  have t_0 : (0 : Int32).toInt = 0 := by decide
  have t_1 : (1 : Int32).toInt = 1 := by decide
  have t_255 : (255 : Int32).toInt = 255 := by decide
  refine lv_iconst (v := -1) hx hb dX8_leastMarks_0 (by decide) ?_
  refine lv_istore_n (lv' := [(1, .int (-1)), (0, .ref h0)]) hx hb dX8_leastMarks_1 rfl hl (by decide) rfl (fun ls hl => ?_)
  refine lv_iconst (v := 0) hx hb dX8_leastMarks_2 (by decide) ?_
  refine lv_istore_n (lv' := [(2, .int 0), (1, .int (-1)), (0, .ref h0)]) hx hb dX8_leastMarks_3 rfl hl (by decide) rfl (fun ls hl => ?_)
  refine lv_iconst (v := 1) hx hb dX8_leastMarks_4 (by decide) ?_
  refine lv_istore_n (lv' := [(3, .int 1), (2, .int 0), (1, .int (-1)), (0, .ref h0)]) hx hb dX8_leastMarks_5 rfl hl (by decide) rfl (fun ls hl => ?_)
  have loop6 : ∀ (fu : Nat) (j : Int32) (a2 : Int32) (a1 : Int32) (H : Heap) (locs : List Loc) (ls : Array Slot), (1 ≤ j.toInt) → (256 - j.toInt).toNat < fu → lv_has ls 5 [(0, .ref h0), (1, .int a1), (2, .int a2), (3, .int j)] → mH D H0 S kc ns H locs → W p l e ({ frames := 1, cells := 0, slots := 0, locals := 20 } : Room) s m args below meth c H locs 0 0 (MQ below (mQ D H0 gI (fun r S1 k1 n1 => S = S1 ∧ kc = k1 ∧ ns = n1 ∧ True)) args s 0 0 (mF H0)) (F0 m 6 ls []) := by
    intro fu
    induction fu with
    | zero => intro j a2 a1 H locs ls h6_0 hfu; exact absurd hfu (by omega)
    | succ fu ih6 =>
      intro j a2 a1 H locs ls h6_0 hfu hl hM
      refine lv_iload_n hx hb dX8_leastMarks_6 rfl (lv_at hl 3 rfl) ?_
      refine lv_sipush (v := 255) hx hb dX8_leastMarks_7 (by decide) ?_
      refine lv_icmp_gt (tgt := 63) hx hb dX8_leastMarks_10 (by decide) (fun cv1 => ?_) (fun cv1 => ?_)
      · have tcv1 := ltT cv1
        refine lv_iload_n hx hb dX8_leastMarks_63 rfl (lv_at hl 1 rfl) ?_
        exact r_retI C hr hlk hM (⟨rfl, rfl, rfl, trivial⟩) dX8_leastMarks_64
      · have tcv1 := ltF cv1
        refine lv_iload_n hx hb dX8_leastMarks_13 rfl (lv_at hl 3 rfl) ?_
        refine lv_aload_n hx hb dX8_leastMarks_14 rfl (lv_at hl 0 rfl) ?_
        refine r_get (ci := 8) (k := 3) (v := .int (mI S 803 h0)) C hM kh0 f_X8_25 rfl dX8_leastMarks_15 ?_
        refine lv_topi (fun xv2 exv2 => ?_)
        refine lv_iand hx hb dX8_leastMarks_18 ?_
        refine lv_topi (fun xv3 exv3 => ?_)
        refine lv_iload_n hx hb dX8_leastMarks_19 rfl (lv_at hl 3 rfl) ?_
        refine lv_icmp_ne (tgt := 57) hx hb dX8_leastMarks_20 (by decide) (fun cv4 => ?_) (fun cv4 => ?_)
        · have tcv4 := eqF cv4
          obtain ⟨xv5, exv5⟩ : ∃ y : Int32, y = j + 1 := ⟨_, rfl⟩
          try (have txv5 := addI (a := j) (b := 1) (by omega) (by omega); rw [← exv5] at txv5)
          refine lv_iinc (v := xv5) (lv' := [(3, .int xv5), (0, .ref h0), (1, .int a1), (2, .int a2)]) hx hb dX8_leastMarks_57 hl (k := 3) rfl (by rw [exv5]; rfl) (by decide) rfl (fun ls hl => ?_)
          refine lv_goto (tgt := 6) hx hb dX8_leastMarks_60 (by decide) ?_
          exact ih6 xv5 a2 a1 _ _ _ (by omega) (by omega) (lv_sub hl [1, 2, 3, 0] rfl) hM
        · have tcv4 := eqT cv4
          refine lv_aload_n hx hb dX8_leastMarks_23 rfl (lv_at hl 0 rfl) ?_
          obtain ⟨qv6, eqv6, kqv6, nqv6⟩ := TI.nn hI.1 (ci := 8) (k := 1) kh0
          refine r_get (ci := 8) (k := 1) (v := .ref qv6) C hM kh0 f_X8_17 (congrArg va_rf eqv6) dX8_leastMarks_24 ?_
          refine lv_iload_n hx hb dX8_leastMarks_27 rfl (lv_at hl 3 rfl) ?_
          refine r_zald C hM kqv6 (inI (by omega) (by rw [nqv6 (by decide)]; show _ < (256 : Int); omega)) dX8_leastMarks_28 ?_
          refine lv_topi (fun xv7 exv7 => ?_)
          refine lv_if_eq (tgt := 35) hx hb dX8_leastMarks_29 (by decide) (fun cv8 => ?_) (fun cv8 => ?_)
          · have tcv8 := eqT cv8
            refine lv_iload_n hx hb dX8_leastMarks_35 rfl (lv_at hl 3 rfl) ?_
            refine r_S (As := [.int j]) (rest := []) C hM (c_J6_bitCount_0f7a4 l D H0 S kc ns j) i_J6_bitCount_0f7a4 m_X8_54 rfl hl.1 rfl (Nat.le_of_ble_eq_true rfl) ⟨by decide, by decide⟩ ⟨by decide, by decide⟩ dX8_leastMarks_36 (fun xv12 Sv9 kv10 nv11 H locs pv13 hM => ?_)
            obtain ⟨rfl, rfl, rfl, hxv12⟩ := pv13
            refine W.eq (g2 := F0 m 39 ls [.int xv12]) rfl ?_
            refine lv_istore (lv' := [(4, .int xv12), (0, .ref h0), (1, .int a1), (2, .int a2), (3, .int j)]) hx hb dX8_leastMarks_39 hl (by decide) rfl (fun ls hl => ?_)
            refine lv_iload_n hx hb dX8_leastMarks_41 rfl (lv_at hl 2 rfl) ?_
            refine lv_iconst (v := -1) hx hb dX8_leastMarks_42 (by decide) ?_
            refine lv_icmp_eq (tgt := 52) hx hb dX8_leastMarks_43 (by decide) (fun cv14 => ?_) (fun cv14 => ?_)
            · have tcv14 := eqT cv14
              refine lv_iload_n hx hb dX8_leastMarks_52 rfl (lv_at hl 4 rfl) ?_
              refine lv_istore_n (lv' := [(1, .int j), (4, .int xv12), (0, .ref h0), (2, .int a2), (3, .int j)]) hx hb dX8_leastMarks_53 rfl hl (by decide) rfl (fun ls hl => ?_)
              refine lv_iload hx hb dX8_leastMarks_54 (lv_at hl 1 rfl) ?_
              refine lv_istore_n (lv' := [(2, .int xv12), (1, .int j), (4, .int xv12), (0, .ref h0), (3, .int j)]) hx hb dX8_leastMarks_56 rfl hl (by decide) rfl (fun ls hl => ?_)
              obtain ⟨xv15, exv15⟩ : ∃ y : Int32, y = j + 1 := ⟨_, rfl⟩
              try (have txv15 := addI (a := j) (b := 1) (by omega) (by omega); rw [← exv15] at txv15)
              refine lv_iinc (v := xv15) (lv' := [(3, .int xv15), (2, .int xv12), (1, .int j), (4, .int xv12), (0, .ref h0)]) hx hb dX8_leastMarks_57 hl (k := 4) rfl (by rw [exv15]; rfl) (by decide) rfl (fun ls hl => ?_)
              refine lv_goto (tgt := 6) hx hb dX8_leastMarks_60 (by decide) ?_
              exact ih6 xv15 xv12 j _ _ _ (by omega) (by omega) (lv_sub hl [4, 2, 1, 0] rfl) hM
            · have tcv14 := eqF cv14
              refine lv_iload hx hb dX8_leastMarks_46 (lv_at hl 0 rfl) ?_
              refine lv_iload_n hx hb dX8_leastMarks_48 rfl (lv_at hl 3 rfl) ?_
              refine lv_icmp_ge (tgt := 57) hx hb dX8_leastMarks_49 (by decide) (fun cv16 => ?_) (fun cv16 => ?_)
              · have tcv16 := leT cv16
                obtain ⟨xv17, exv17⟩ : ∃ y : Int32, y = j + 1 := ⟨_, rfl⟩
                try (have txv17 := addI (a := j) (b := 1) (by omega) (by omega); rw [← exv17] at txv17)
                refine lv_iinc (v := xv17) (lv' := [(3, .int xv17), (4, .int xv12), (0, .ref h0), (1, .int a1), (2, .int a2)]) hx hb dX8_leastMarks_57 hl (k := 4) rfl (by rw [exv17]; rfl) (by decide) rfl (fun ls hl => ?_)
                refine lv_goto (tgt := 6) hx hb dX8_leastMarks_60 (by decide) ?_
                exact ih6 xv17 a2 a1 _ _ _ (by omega) (by omega) (lv_sub hl [2, 3, 4, 0] rfl) hM
              · have tcv16 := leF cv16
                refine lv_iload_n hx hb dX8_leastMarks_52 rfl (lv_at hl 4 rfl) ?_
                refine lv_istore_n (lv' := [(1, .int j), (4, .int xv12), (0, .ref h0), (2, .int a2), (3, .int j)]) hx hb dX8_leastMarks_53 rfl hl (by decide) rfl (fun ls hl => ?_)
                refine lv_iload hx hb dX8_leastMarks_54 (lv_at hl 1 rfl) ?_
                refine lv_istore_n (lv' := [(2, .int xv12), (1, .int j), (4, .int xv12), (0, .ref h0), (3, .int j)]) hx hb dX8_leastMarks_56 rfl hl (by decide) rfl (fun ls hl => ?_)
                obtain ⟨xv18, exv18⟩ : ∃ y : Int32, y = j + 1 := ⟨_, rfl⟩
                try (have txv18 := addI (a := j) (b := 1) (by omega) (by omega); rw [← exv18] at txv18)
                refine lv_iinc (v := xv18) (lv' := [(3, .int xv18), (2, .int xv12), (1, .int j), (4, .int xv12), (0, .ref h0)]) hx hb dX8_leastMarks_57 hl (k := 4) rfl (by rw [exv18]; rfl) (by decide) rfl (fun ls hl => ?_)
                refine lv_goto (tgt := 6) hx hb dX8_leastMarks_60 (by decide) ?_
                exact ih6 xv18 xv12 j _ _ _ (by omega) (by omega) (lv_sub hl [4, 2, 1, 0] rfl) hM
          · have tcv8 := eqF cv8
            refine lv_goto (tgt := 57) hx hb dX8_leastMarks_32 (by decide) ?_
            obtain ⟨xv19, exv19⟩ : ∃ y : Int32, y = j + 1 := ⟨_, rfl⟩
            try (have txv19 := addI (a := j) (b := 1) (by omega) (by omega); rw [← exv19] at txv19)
            refine lv_iinc (v := xv19) (lv' := [(3, .int xv19), (0, .ref h0), (1, .int a1), (2, .int a2)]) hx hb dX8_leastMarks_57 hl (k := 3) rfl (by rw [exv19]; rfl) (by decide) rfl (fun ls hl => ?_)
            refine lv_goto (tgt := 6) hx hb dX8_leastMarks_60 (by decide) ?_
            exact ih6 xv19 a2 a1 _ _ _ (by omega) (by omega) (lv_sub hl [1, 2, 3, 0] rfl) hM
  exact loop6 (((256 - (1 : Int32).toInt).toNat) + 1) 1 0 (-1) _ _ _ (by omega) (by omega) (lv_sub hl [3, 2, 1, 0] rfl) hM
set_option maxHeartbeats 4000000 in
set_option maxRecDepth 100000 in
theorem c_X8_noteShared (l : Launch) (D : gD) (H0 : gB) (S : Mem) (kc ns : Nat) (h0 : Nat) (i0 : Int32) {u : Nat} {tl : Int} {rho : Nat × Nat} (hI : CI x0 u tl rho S) (kh0 : mK S h0 = 9) : Met l yX8_noteShared (wsU yX8_noteShared cX8_noteShared 3 none) ({ frames := 0, cells := 0, slots := 0, locals := 0 } : Room) (mP D H0 S kc ns [.ref h0, .int i0]) (mQ D H0 gV (fun r S1 k1 n1 => kc = k1 ∧ ns = n1 ∧ fEq S S1 ∧ True)) 0 0 (mF H0) := by
  refine r_met (own := RX8) (by decide +kernel) rfl (Nat.le_of_ble_eq_true rfl) ?_
  intro p e s m args below meth c C hr hlk hnm H ls hl hM
  obtain ⟨hx, hb, hml, hown, hts, -, -⟩ := id C
  have hl : lv_has ls 3 [(0, .ref h0), (1, .int i0)] := hl
  have hI0 := hI
  have hF : fEq S S := fEq.rf
  have t_0 : (0 : Int32).toInt = 0 := by decide
  have t_1 : (1 : Int32).toInt = 1 := by decide
  have t_255 : (255 : Int32).toInt = 255 := by decide
  refine lv_iload_n hx hb dX8_noteShared_0 rfl (lv_at hl 1 rfl) ?_
  refine lv_if_lt (tgt := 20) hx hb dX8_noteShared_1 (by decide) (fun cv1 => ?_) (fun cv1 => ?_)
  · have tcv1 := ltT cv1
    exact r_retV C hr hlk hM (⟨rfl, rfl, hF, trivial⟩) dX8_noteShared_20
  · have tcv1 := ltF cv1
    refine lv_iload_n hx hb dX8_noteShared_4 rfl (lv_at hl 1 rfl) ?_
    refine lv_sipush (v := 255) hx hb dX8_noteShared_5 (by decide) ?_
    refine lv_icmp_gt (tgt := 20) hx hb dX8_noteShared_8 (by decide) (fun cv2 => ?_) (fun cv2 => ?_)
    · have tcv2 := ltT cv2
      exact r_retV C hr hlk hM (⟨rfl, rfl, hF, trivial⟩) dX8_noteShared_20
    · have tcv2 := ltF cv2
      refine lv_aload_n hx hb dX8_noteShared_11 rfl (lv_at hl 0 rfl) ?_
      obtain ⟨qv3, eqv3, kqv3, nqv3⟩ := TI.nn hI.1 (ci := 8) (k := 1) kh0
      refine r_get (ci := 8) (k := 1) (v := .ref qv3) C hM kh0 f_X8_17 (congrArg va_rf eqv3) dX8_noteShared_12 ?_
      refine lv_iload_n hx hb dX8_noteShared_15 rfl (lv_at hl 1 rfl) ?_
      refine r_zald C hM kqv3 (inI (by omega) (by rw [nqv3 (by decide)]; show _ < (256 : Int); omega)) dX8_noteShared_16 ?_
      refine lv_topi (fun xv4 exv4 => ?_)
      refine lv_if_eq (tgt := 21) hx hb dX8_noteShared_17 (by decide) (fun cv5 => ?_) (fun cv5 => ?_)
      · have tcv5 := eqT cv5
        refine lv_iload_n hx hb dX8_noteShared_21 rfl (lv_at hl 1 rfl) ?_
        refine lv_istore_n (lv' := [(2, .int i0), (0, .ref h0), (1, .int i0)]) hx hb dX8_noteShared_22 rfl hl (by decide) rfl (fun ls hl => ?_)
        have hFa23 := hF
        have loop23 : ∀ (fu : Nat) (j : Int32) (Sa : Mem) (H : Heap) (locs : List Loc) (ls : Array Slot), (fEq S Sa) → (0 ≤ j.toInt ∧ j.toInt ≤ 255) → j.toInt.toNat < fu → lv_has ls 3 [(0, .ref h0), (1, .int i0), (2, .int j)] → mH D H0 Sa kc ns H locs → W p l e ({ frames := 0, cells := 0, slots := 0, locals := 0 } : Room) s m args below meth c H locs 0 0 (MQ below (mQ D H0 gV (fun r S1 k1 n1 => kc = k1 ∧ ns = n1 ∧ fEq S S1 ∧ True)) args s 0 0 (mF H0)) (F0 m 23 ls []) := by
          intro fu
          induction fu with
          | zero => intro j Sa H locs ls h23_0 h23_1 hfu; exact absurd hfu (by omega)
          | succ fu ih23 =>
            intro j Sa H locs ls h23_0 h23_1 hfu hl hM
            have hF := h23_0
            have hI := hI0.fe hF
            have kh0 : mK Sa h0 = 9 := (congrFun (hF.1.trans hFa23.1.symm) h0).trans kh0
            refine lv_iload_n hx hb dX8_noteShared_23 rfl (lv_at hl 2 rfl) ?_
            refine lv_if_le (tgt := 43) hx hb dX8_noteShared_24 (by decide) (fun cv6 => ?_) (fun cv6 => ?_)
            · have tcv6 := leT cv6
              exact r_retV C hr hlk hM (⟨rfl, rfl, hF, trivial⟩) dX8_noteShared_43
            · have tcv6 := leF cv6
              refine lv_aload_n hx hb dX8_noteShared_27 rfl (lv_at hl 0 rfl) ?_
              obtain ⟨qv7, eqv7, kqv7, nqv7⟩ := TI.nn hI.1 (ci := 8) (k := 1) kh0
              refine r_get (ci := 8) (k := 1) (v := .ref qv7) C hM kh0 f_X8_17 (congrArg va_rf eqv7) dX8_noteShared_28 ?_
              refine lv_iload_n hx hb dX8_noteShared_31 rfl (lv_at hl 2 rfl) ?_
              refine lv_iconst (v := 1) hx hb dX8_noteShared_32 (by decide) ?_
              refine r_zast C hM kqv7 (inI (by omega) (by rw [nqv7 (by decide)]; show _ < (256 : Int); omega)) dX8_noteShared_33 (fun H locs hM => ?_)
              have hM : mH D H0 (qI Sa qv7 j.toNatClampNeg (vp_nar .boolean 1)) kc ns H locs := hM
              have hI := hI.fe (fEq.AI (S := Sa) (a := qv7) (i := j.toNatClampNeg) (v := (vp_nar .boolean 1)))
              have hF := hF.trans (fEq.AI (S := Sa) (a := qv7) (i := j.toNatClampNeg) (v := (vp_nar .boolean 1)))
              refine lv_iload_n hx hb dX8_noteShared_34 rfl (lv_at hl 2 rfl) ?_
              refine lv_iconst (v := 1) hx hb dX8_noteShared_35 (by decide) ?_
              refine lv_isub hx hb dX8_noteShared_36 ?_
              refine lv_topi (fun xv8 exv8 => ?_)
              try (have txv8 := subI (a := j) (b := 1) (by omega) (by omega); rw [← exv8] at txv8)
              refine lv_iload_n hx hb dX8_noteShared_37 rfl (lv_at hl 1 rfl) ?_
              refine lv_iand hx hb dX8_noteShared_38 ?_
              refine lv_topi (fun xv9 exv9 => ?_)
              have t9 := andI (a := j - 1) (b := i0) (by rw [subI (by omega) (by omega)]; omega)
              have t91 := subI (a := j) (b := 1) (by omega) (by omega)
              have t92 : xv9.toInt ≤ j.toInt - 1 ∧ 0 ≤ xv9.toInt := by subst_vars; omega
              refine lv_istore_n (lv' := [(2, .int xv9), (0, .ref h0), (1, .int i0)]) hx hb dX8_noteShared_39 rfl hl (by decide) rfl (fun ls hl => ?_)
              refine lv_goto (tgt := 23) hx hb dX8_noteShared_40 (by decide) ?_
              exact ih23 xv9 (qI Sa qv7 j.toNatClampNeg (vp_nar .boolean 1)) _ _ _ (hF) (by omega) (by omega) (lv_sub hl [1, 2, 0] rfl) hM
        exact loop23 ((i0.toInt.toNat) + 1) i0 S _ _ _ (hF) (by omega) (by omega) (lv_sub hl [1, 2, 0] rfl) hM
      · have tcv5 := eqF cv5
        exact r_retV C hr hlk hM (⟨rfl, rfl, hF, trivial⟩) dX8_noteShared_20
set_option maxHeartbeats 4000000 in
set_option maxRecDepth 100000 in
theorem c_X8_dropAll (l : Launch) (D : gD) (H0 : gB) (S : Mem) (kc ns : Nat) (h0 : Nat) {u : Nat} {tl : Int} {rho : Nat × Nat} (hI : CI x0 u tl rho S) (kh0 : mK S h0 = 9) : Met l yX8_dropAll (wsU yX8_dropAll cX8_dropAll 2 none) ({ frames := 0, cells := 0, slots := 0, locals := 0 } : Room) (mP D H0 S kc ns [.ref h0]) (mQ D H0 gV (fun r S1 k1 n1 => kc = k1 ∧ ns = n1 ∧ mK S1 = mK S ∧ CI x0 u tl rho S1 ∧ True)) 0 0 (mF H0) := by
  refine r_met (own := RX8) (by decide +kernel) rfl (Nat.le_of_ble_eq_true rfl) ?_
  intro p e s m args below meth c C hr hlk hnm H ls hl hM
  obtain ⟨hx, hb, hml, hown, hts, -, -⟩ := id C
  have hl : lv_has ls 2 [(0, .ref h0)] := hl
  have hI0 := hI
  have hK9 : mK S = mK S := rfl
  have t_0 : (0 : Int32).toInt = 0 := by decide
  have t_1 : (1 : Int32).toInt = 1 := by decide
  have t_255 : (255 : Int32).toInt = 255 := by decide
  refine lv_aload_n hx hb dX8_dropAll_0 rfl (lv_at hl 0 rfl) ?_
  refine lv_iconst (v := 0) hx hb dX8_dropAll_1 (by decide) ?_
  refine r_put C hM kh0 f_X8_21 (fun r h => by cases h; rfl) rfl rfl (mPut.I (ci := 8) (k := 2) rfl) dX8_dropAll_2 (fun H locs hM => ?_)
  have hM : mH D H0 (pI S 802 h0 0) kc ns H locs := hM
  have hI := CI.p802 (a := h0) (v := 0) hI ⟨by omega, by omega⟩
  refine lv_aload_n hx hb dX8_dropAll_5 rfl (lv_at hl 0 rfl) ?_
  refine lv_iconst (v := 0) hx hb dX8_dropAll_6 (by decide) ?_
  refine r_put C hM kh0 f_X8_25 (fun r h => by cases h; rfl) rfl rfl (mPut.I (ci := 8) (k := 3) rfl) dX8_dropAll_7 (fun H locs hM => ?_)
  have hM : mH D H0 (pI (pI S 802 h0 0) 803 h0 0) kc ns H locs := hM
  have hI := hI.fe (fEq.I (S := (pI S 802 h0 0)) (f := 803) (a := h0) (v := 0) (by decide))
  refine lv_iconst (v := 0) hx hb dX8_dropAll_10 (by decide) ?_
  refine lv_istore_n (lv' := [(1, .int 0), (0, .ref h0)]) hx hb dX8_dropAll_11 rfl hl (by decide) rfl (fun ls hl => ?_)
  have loop12 : ∀ (fu : Nat) (j : Int32) (Sa : Mem) (H : Heap) (locs : List Loc) (ls : Array Slot), (mK Sa = mK S) → (CI x0 u tl rho Sa) → (0 ≤ j.toInt) → (256 - j.toInt).toNat < fu → lv_has ls 2 [(0, .ref h0), (1, .int j)] → mH D H0 Sa kc ns H locs → W p l e ({ frames := 0, cells := 0, slots := 0, locals := 0 } : Room) s m args below meth c H locs 0 0 (MQ below (mQ D H0 gV (fun r S1 k1 n1 => kc = k1 ∧ ns = n1 ∧ mK S1 = mK S ∧ CI x0 u tl rho S1 ∧ True)) args s 0 0 (mF H0)) (F0 m 12 ls []) := by
    intro fu
    induction fu with
    | zero => intro j Sa H locs ls h12_0 h12_1 h12_2 hfu; exact absurd hfu (by omega)
    | succ fu ih12 =>
      intro j Sa H locs ls h12_0 h12_1 h12_2 hfu hl hM
      have hK9 := h12_0
      have hI := h12_1
      have kh0 : mK Sa h0 = 9 := (congrFun (hK9) h0).trans kh0
      refine lv_iload_n hx hb dX8_dropAll_12 rfl (lv_at hl 1 rfl) ?_
      refine lv_sipush (v := 255) hx hb dX8_dropAll_13 (by decide) ?_
      refine lv_icmp_gt (tgt := 32) hx hb dX8_dropAll_16 (by decide) (fun cv1 => ?_) (fun cv1 => ?_)
      · have tcv1 := ltT cv1
        exact r_retV C hr hlk hM (⟨rfl, rfl, hK9, hI, trivial⟩) dX8_dropAll_32
      · have tcv1 := ltF cv1
        refine lv_aload_n hx hb dX8_dropAll_19 rfl (lv_at hl 0 rfl) ?_
        obtain ⟨qv2, eqv2, kqv2, nqv2⟩ := TI.nn hI.1 (ci := 8) (k := 1) kh0
        refine r_get (ci := 8) (k := 1) (v := .ref qv2) C hM kh0 f_X8_17 (congrArg va_rf eqv2) dX8_dropAll_20 ?_
        refine lv_iload_n hx hb dX8_dropAll_23 rfl (lv_at hl 1 rfl) ?_
        refine lv_iconst (v := 0) hx hb dX8_dropAll_24 (by decide) ?_
        refine r_zast C hM kqv2 (inI (by omega) (by rw [nqv2 (by decide)]; show _ < (256 : Int); omega)) dX8_dropAll_25 (fun H locs hM => ?_)
        have hM : mH D H0 (qI Sa qv2 j.toNatClampNeg (vp_nar .boolean 0)) kc ns H locs := hM
        have hI := hI.fe (fEq.AI (S := Sa) (a := qv2) (i := j.toNatClampNeg) (v := (vp_nar .boolean 0)))
        obtain ⟨xv3, exv3⟩ : ∃ y : Int32, y = j + 1 := ⟨_, rfl⟩
        try (have txv3 := addI (a := j) (b := 1) (by omega) (by omega); rw [← exv3] at txv3)
        refine lv_iinc (v := xv3) (lv' := [(1, .int xv3), (0, .ref h0)]) hx hb dX8_dropAll_26 hl (k := 1) rfl (by rw [exv3]; rfl) (by decide) rfl (fun ls hl => ?_)
        refine lv_goto (tgt := 12) hx hb dX8_dropAll_29 (by decide) ?_
        exact ih12 xv3 (qI Sa qv2 j.toNatClampNeg (vp_nar .boolean 0)) _ _ _ (hK9) (hI) (by omega) (by omega) (lv_sub hl [1, 0] rfl) hM
  exact loop12 (((256 - (0 : Int32).toInt).toNat) + 1) 0 (pI (pI S 802 h0 0) 803 h0 0) _ _ _ (hK9) (hI) (by omega) (by omega) (lv_sub hl [1, 0] rfl) hM
set_option maxHeartbeats 4000000 in
set_option maxRecDepth 100000 in
theorem c_X8_add (l : Launch) (D : gD) (H0 : gB) (S : Mem) (kc ns : Nat) (h0 h1 : Nat) {u : Nat} {tl : Int} {rho : Nat × Nat} (hI : CI x0 u tl rho S) (kh0 : mK S h0 = 9) (kh1 : mK S h1 = 6) : Met l yX8_add (wsU yX8_add cX8_add 6 none) ({ frames := 3, cells := 0, slots := 0, locals := 64 } : Room) (mP D H0 S kc ns [.ref h0, .ref h1]) (mQ D H0 gV (fun r S1 k1 n1 => kc = k1 ∧ ns = n1 ∧ mK S1 = mK S ∧ CI x0 u tl rho S1 ∧ True)) 0 0 (mF H0) := by
  refine r_met (own := RX8) (by decide +kernel) rfl (Nat.le_of_ble_eq_true rfl) ?_
  intro p e s m args below meth c C hr hlk hnm H ls hl hM
  obtain ⟨hx, hb, hml, hown, hts, -, -⟩ := id C
  have hl : lv_has ls 6 [(0, .ref h0), (1, .ref h1)] := hl
  have hI0 := hI
  have hK9 : mK S = mK S := rfl
  have t_0 : (0 : Int32).toInt = 0 := by decide
  have t_1 : (1 : Int32).toInt = 1 := by decide
  have t_6 : (6 : Int32).toInt = 6 := by decide
  have t_255 : (255 : Int32).toInt = 255 := by decide
  refine lv_aload_n hx hb dX8_add_0 rfl (lv_at hl 0 rfl) ?_
  refine r_get (ci := 8) (k := 2) (v := .int (mI S 802 h0)) C hM kh0 f_X8_21 rfl dX8_add_1 ?_
  refine lv_topi (fun xv1 exv1 => ?_)
  have fxv1 := NI.f802 hI.2 kh0
  rw [← exv1] at fxv1
  refine lv_bipush (v := 6) hx hb dX8_add_4 (by decide) ?_
  refine lv_icmp_lt (tgt := 10) hx hb dX8_add_6 (by decide) (fun cv2 => ?_) (fun cv2 => ?_)
  · have tcv2 := ltT cv2
    refine lv_aload_n hx hb dX8_add_10 rfl (lv_at hl 0 rfl) ?_
    refine r_V (As := []) (rest := []) (ci := 8) C hM (c_X8_first l D H0 S kc ns h0 hI kh0) i_X8_first m_X8_28 kh0 rfl rfl rfl hl.1 rfl (Nat.le_of_ble_eq_true rfl) ⟨by decide, by decide⟩ ⟨by decide, by decide⟩ dX8_add_11 (fun rv6 Sv3 kv4 nv5 H locs pv7 hM => ?_)
    obtain ⟨rfl, rfl, rfl, krv6⟩ := pv7
    refine W.eq (g2 := F0 m 14 ls [va_rf rv6]) rfl ?_
    refine lv_astore_nQ (lv' := [(2, va_rf rv6), (0, .ref h0), (1, .ref h1)]) hx hb dX8_add_14 rfl hl (by decide) rfl (fun ls hl => ?_)
    refine lv_aload_n hx hb dX8_add_15 rfl (lv_at hl 1 rfl) ?_
    refine lv_aload_nQ hx hb dX8_add_16 rfl (lv_at hl 0 rfl) ?_
    cases rv6 with
    | none =>
      refine lv_ifnonnullN hx hb dX8_add_17 ?_
      refine lv_sipush (v := 255) hx hb dX8_add_20 (by decide) ?_
      refine lv_goto (tgt := 36) hx hb dX8_add_23 (by decide) ?_
      refine r_put C hM kh0 f_X8_25 (fun r h => by cases h; rfl) rfl rfl (mPut.I (ci := 8) (k := 3) rfl) dX8_add_36 (fun H locs hM => ?_)
      have hM : mH D H0 (pI S 803 h0 255) kc ns H locs := hM
      have hI := hI.fe (fEq.I (S := S) (f := 803) (a := h0) (v := 255) (by decide))
      refine lv_aload_n hx hb dX8_add_39 rfl (lv_at hl 1 rfl) ?_
      obtain ⟨qv9, eqv9, kqv9, nqv9⟩ := TI.nn hI.1 (ci := 8) (k := 0) kh0
      refine r_get (ci := 8) (k := 0) (v := .ref qv9) C hM kh0 f_X8_11 (congrArg va_rf eqv9) dX8_add_40 ?_
      refine lv_aload_n hx hb dX8_add_43 rfl (lv_at hl 1 rfl) ?_
      refine r_get (ci := 8) (k := 2) (v := .int (mI (pI S 803 h0 255) 802 h0)) C hM kh0 f_X8_21 rfl dX8_add_44 ?_
      refine lv_topi (fun xv10 exv10 => ?_)
      have fxv10 := NI.f802 hI.2 kh0
      rw [← exv10] at fxv10
      have gxv10 : xv10 = xv1 := exv10.trans (exv1.symm)
      have hxv10 : xv10.toInt = xv1.toInt := by rw [gxv10]
      refine lv_aload_n hx hb dX8_add_47 rfl (lv_at hl 2 rfl) ?_
      refine r_aast (t := 0) (ci := 5) (o := (some h1)) C hM kqv9 (by decide) rfl rfl (fun q h => by cases h; exact kh1) (inI (by omega) (by rw [nqv9 (by decide)]; show _ < (6 : Int); omega)) dX8_add_48 (fun H locs hM => ?_)
      have hM : mH D H0 (qR (pI S 803 h0 255) qv9 xv10.toNatClampNeg (some h1)) kc ns H locs := hM
      have hI := CI.putA (i := xv10.toNatClampNeg) (o := (some h1)) hI kqv9 (fun q h => by cases h; exact kh1)
      refine lv_aload_n hx hb dX8_add_49 rfl (lv_at hl 1 rfl) ?_
      refine lv_dup hx hb dX8_add_50 rfl ?_
      refine r_get (ci := 8) (k := 2) (v := .int (mI (qR (pI S 803 h0 255) qv9 xv10.toNatClampNeg (some h1)) 802 h0)) C hM kh0 f_X8_21 rfl dX8_add_51 ?_
      refine lv_topi (fun xv11 exv11 => ?_)
      have fxv11 := NI.f802 hI.2 kh0
      rw [← exv11] at fxv11
      have gxv11 : xv11 = xv1 := exv11.trans (exv1.symm)
      have hxv11 : xv11.toInt = xv1.toInt := by rw [gxv11]
      refine lv_iconst (v := 1) hx hb dX8_add_54 (by decide) ?_
      refine lv_iadd hx hb dX8_add_55 ?_
      refine lv_topi (fun xv12 exv12 => ?_)
      try (have txv12 := addI (a := xv11) (b := 1) (by omega) (by omega); rw [← exv12] at txv12)
      refine r_put C hM kh0 f_X8_21 (fun r h => by cases h; rfl) rfl rfl (mPut.I (ci := 8) (k := 2) rfl) dX8_add_56 (fun H locs hM => ?_)
      have hM : mH D H0 (pI (qR (pI S 803 h0 255) qv9 xv10.toNatClampNeg (some h1)) 802 h0 xv12) kc ns H locs := hM
      have hI := CI.p802 (a := h0) (v := xv12) hI ⟨by omega, by omega⟩
      refine lv_aload_n hx hb dX8_add_59 rfl (lv_at hl 2 rfl) ?_
      obtain ⟨qv13, eqv13, kqv13, nqv13⟩ := TI.nn hI.1 (ci := 5) (k := 0) kh1
      refine r_getN (ci := 5) (k := 0) (v := .ref qv13) C hM kh1 f_X8_36 (congrArg va_rf eqv13) dX8_add_60 ?_
      refine lv_astore_n (lv' := [(3, .ref qv13), (2, .null), (0, .ref h0), (1, .ref h1)]) hx hb dX8_add_63 rfl hl (by decide) rfl (fun ls hl => ?_)
      refine lv_iconst (v := 0) hx hb dX8_add_64 (by decide) ?_
      refine lv_istore (lv' := [(4, .int 0), (3, .ref qv13), (2, .null), (0, .ref h0), (1, .ref h1)]) hx hb dX8_add_65 hl (by decide) rfl (fun ls hl => ?_)
      have loop67 : ∀ (fu : Nat) (j : Int32) (Sa : Mem) (H : Heap) (locs : List Loc) (ls : Array Slot), (mK Sa = mK S) → (CI x0 u tl rho Sa) → (0 ≤ j.toInt) → (60 - j.toInt).toNat < fu → lv_has ls 6 [(0, .ref h0), (1, .ref h1), (3, .ref qv13), (4, .int j)] → mH D H0 Sa kc ns H locs → W p l e ({ frames := 3, cells := 0, slots := 0, locals := 64 } : Room) s m args below meth c H locs 0 0 (MQ below (mQ D H0 gV (fun r S1 k1 n1 => kc = k1 ∧ ns = n1 ∧ mK S1 = mK S ∧ CI x0 u tl rho S1 ∧ True)) args s 0 0 (mF H0)) (F0 m 67 ls []) := by
        intro fu
        induction fu with
        | zero => intro j Sa H locs ls h67_0 h67_1 h67_2 hfu; exact absurd hfu (by omega)
        | succ fu ih67 =>
          intro j Sa H locs ls h67_0 h67_1 h67_2 hfu hl hM
          have hK9 := h67_0
          have hI := h67_1
          have kh0 : mK Sa h0 = 9 := (congrFun (hK9) h0).trans kh0
          have kh1 : mK Sa h1 = 6 := (congrFun (hK9) h1).trans kh1
          have kqv13 : mK Sa qv13 = 5 := (congrFun (hK9) qv13).trans kqv13
          refine lv_iload hx hb dX8_add_67 (lv_at hl 3 rfl) ?_
          refine lv_aload_n hx hb dX8_add_69 rfl (lv_at hl 2 rfl) ?_
          refine r_getN (ci := 4) (k := 1) (v := .int (mI Sa 401 qv13)) C hM kqv13 f_X8_40 rfl dX8_add_70 ?_
          refine lv_topi (fun xv14 exv14 => ?_)
          have fxv14 := NI.f401 hI.2 kqv13
          rw [← exv14] at fxv14
          refine lv_icmp_ge (tgt := 114) hx hb dX8_add_73 (by decide) (fun cv15 => ?_) (fun cv15 => ?_)
          · have tcv15 := leT cv15
            exact r_retV C hr hlk hM (⟨rfl, rfl, hK9, hI, trivial⟩) dX8_add_114
          · have tcv15 := leF cv15
            refine lv_aload_n hx hb dX8_add_76 rfl (lv_at hl 2 rfl) ?_
            refine lv_iload hx hb dX8_add_77 (lv_at hl 3 rfl) ?_
            refine r_VN (As := [.int j]) (rest := []) (ci := 4) C hM (c_X4_at l D H0 Sa kc ns qv13 j hI id kqv13) i_X4_at m_X8_43 kqv13 rfl rfl rfl hl.1 rfl (Nat.le_of_ble_eq_true rfl) ⟨by decide, by decide⟩ ⟨by decide, by decide⟩ dX8_add_79 (fun rv19 Sv16 kv17 nv18 H locs pv20 hM => ?_)
            obtain ⟨rfl, rfl, rfl, krv19⟩ := pv20
            refine W.eq (g2 := F0 m 82 ls [va_rf rv19]) rfl ?_
            refine lv_astoreQ (lv' := [(5, va_rf rv19), (0, .ref h0), (1, .ref h1), (3, .ref qv13), (4, .int j)]) hx hb dX8_add_82 hl (by decide) rfl (fun ls hl => ?_)
            refine lv_aloadQ hx hb dX8_add_84 (lv_at hl 0 rfl) ?_
            cases rv19 with
            | none =>
              refine lv_ifnullN (tgt := 108) hx hb dX8_add_86 (by decide) ?_
              obtain ⟨xv22, exv22⟩ : ∃ y : Int32, y = j + 1 := ⟨_, rfl⟩
              try (have txv22 := addI (a := j) (b := 1) (by omega) (by omega); rw [← exv22] at txv22)
              refine lv_iinc (v := xv22) (lv' := [(4, .int xv22), (5, .null), (0, .ref h0), (1, .ref h1), (3, .ref qv13)]) hx hb dX8_add_108 hl (k := 4) rfl (by rw [exv22]; rfl) (by decide) rfl (fun ls hl => ?_)
              refine lv_goto (tgt := 67) hx hb dX8_add_111 (by decide) ?_
              exact ih67 xv22 Sa _ _ _ (hK9) (hI) (by omega) (by omega) (lv_sub hl [2, 3, 4, 0] rfl) hM
            | some qv21 =>
              have kqv21 : mK Sa qv21 = 6 := krv19 qv21 rfl
              refine lv_ifnull hx hb dX8_add_86 ?_
              refine lv_iload hx hb dX8_add_89 (lv_at hl 4 rfl) ?_
              refine lv_aload_n hx hb dX8_add_91 rfl (lv_at hl 2 rfl) ?_
              refine r_getN (ci := 5) (k := 1) (v := .int (mI Sa 501 h1)) C hM kh1 f_X8_47 rfl dX8_add_92 ?_
              refine lv_topi (fun xv23 exv23 => ?_)
              have fxv23 := NI.f501 hI.2 kh1
              rw [← exv23] at fxv23
              refine lv_icmp_eq (tgt := 108) hx hb dX8_add_95 (by decide) (fun cv24 => ?_) (fun cv24 => ?_)
              · have tcv24 := eqT cv24
                obtain ⟨xv25, exv25⟩ : ∃ y : Int32, y = j + 1 := ⟨_, rfl⟩
                try (have txv25 := addI (a := j) (b := 1) (by omega) (by omega); rw [← exv25] at txv25)
                refine lv_iinc (v := xv25) (lv' := [(4, .int xv25), (5, .ref qv21), (0, .ref h0), (1, .ref h1), (3, .ref qv13)]) hx hb dX8_add_108 hl (k := 4) rfl (by rw [exv25]; rfl) (by decide) rfl (fun ls hl => ?_)
                refine lv_goto (tgt := 67) hx hb dX8_add_111 (by decide) ?_
                exact ih67 xv25 Sa _ _ _ (hK9) (hI) (by omega) (by omega) (lv_sub hl [2, 3, 4, 0] rfl) hM
              · have tcv24 := eqF cv24
                refine lv_aload_n hx hb dX8_add_98 rfl (lv_at hl 1 rfl) ?_
                refine lv_aload hx hb dX8_add_99 (lv_at hl 0 rfl) ?_
                refine lv_aload_n hx hb dX8_add_101 rfl (lv_at hl 2 rfl) ?_
                refine r_VN (As := [.ref h1]) (rest := [.ref h0]) (ci := 5) C hM (c_X5_marksSharedWith l D H0 Sa kc ns qv21 h1 hI kqv21 kh1) i_X5_marksSharedWith m_X8_32 kqv21 rfl rfl rfl hl.1 rfl (Nat.le_of_ble_eq_true rfl) ⟨by decide, by decide⟩ ⟨by decide, by decide⟩ dX8_add_102 (fun xv29 Sv26 kv27 nv28 H locs pv30 hM => ?_)
                obtain ⟨rfl, rfl, rfl, hxv29⟩ := pv30
                refine W.eq (g2 := F0 m 105 ls [.int xv29, .ref h0]) rfl ?_
                refine r_V (As := [.int xv29]) (rest := []) (ci := 8) C hM (c_X8_noteShared l D H0 Sa kc ns h0 xv29 hI kh0) i_X8_noteShared m_X8_50 kh0 rfl rfl rfl hl.1 rfl (Nat.le_of_ble_eq_true rfl) ⟨by decide, by decide⟩ ⟨by decide, by decide⟩ dX8_add_105 (fun uv34 Sv31 kv32 nv33 H locs pv35 hM => ?_)
                obtain ⟨rfl, rfl, hf9, huv34⟩ := pv35
                have hK9 := hf9.1.trans hK9
                have hI := hI.fe hf9
                have kqv21 : mK Sv31 qv21 = 6 := (congrFun (hf9.1) qv21).trans kqv21
                have kh0 : mK Sv31 h0 = 9 := (congrFun (hf9.1) h0).trans kh0
                have kh1 : mK Sv31 h1 = 6 := (congrFun (hf9.1) h1).trans kh1
                have kqv13 : mK Sv31 qv13 = 5 := (congrFun (hf9.1) qv13).trans kqv13
                refine W.eq (g2 := F0 m 108 ls []) rfl ?_
                obtain ⟨xv36, exv36⟩ : ∃ y : Int32, y = j + 1 := ⟨_, rfl⟩
                try (have txv36 := addI (a := j) (b := 1) (by omega) (by omega); rw [← exv36] at txv36)
                refine lv_iinc (v := xv36) (lv' := [(4, .int xv36), (5, .ref qv21), (0, .ref h0), (1, .ref h1), (3, .ref qv13)]) hx hb dX8_add_108 hl (k := 4) rfl (by rw [exv36]; rfl) (by decide) rfl (fun ls hl => ?_)
                refine lv_goto (tgt := 67) hx hb dX8_add_111 (by decide) ?_
                exact ih67 xv36 Sv31 _ _ _ (hK9) (hI) (by omega) (by omega) (lv_sub hl [2, 3, 4, 0] rfl) hM
      exact loop67 (((60 - (0 : Int32).toInt).toNat) + 1) 0 (pI (qR (pI S 803 h0 255) qv9 xv10.toNatClampNeg (some h1)) 802 h0 xv12) _ _ _ (hK9) (hI) (by omega) (by omega) (lv_sub hl [3, 4, 1, 0] rfl) hM
    | some qv8 =>
      have kqv8 : mK S qv8 = 6 := krv6 qv8 rfl
      refine lv_ifnonnull (tgt := 26) hx hb dX8_add_17 (by decide) ?_
      refine lv_aload_n hx hb dX8_add_26 rfl (lv_at hl 1 rfl) ?_
      refine r_get (ci := 8) (k := 3) (v := .int (mI S 803 h0)) C hM kh0 f_X8_25 rfl dX8_add_27 ?_
      refine lv_topi (fun xv37 exv37 => ?_)
      refine lv_aload_n hx hb dX8_add_30 rfl (lv_at hl 0 rfl) ?_
      refine lv_aload_n hx hb dX8_add_31 rfl (lv_at hl 2 rfl) ?_
      refine r_VN (As := [.ref h1]) (rest := [.int xv37, .ref h0]) (ci := 5) C hM (c_X5_marksSharedWith l D H0 S kc ns qv8 h1 hI kqv8 kh1) i_X5_marksSharedWith m_X8_32 kqv8 rfl rfl rfl hl.1 rfl (Nat.le_of_ble_eq_true rfl) ⟨by decide, by decide⟩ ⟨by decide, by decide⟩ dX8_add_32 (fun xv41 Sv38 kv39 nv40 H locs pv42 hM => ?_)
      obtain ⟨rfl, rfl, rfl, hxv41⟩ := pv42
      refine W.eq (g2 := F0 m 35 ls [.int xv41, .int xv37, .ref h0]) rfl ?_
      refine lv_iand hx hb dX8_add_35 ?_
      refine lv_topi (fun xv43 exv43 => ?_)
      refine r_put C hM kh0 f_X8_25 (fun r h => by cases h; rfl) rfl rfl (mPut.I (ci := 8) (k := 3) rfl) dX8_add_36 (fun H locs hM => ?_)
      have hM : mH D H0 (pI S 803 h0 xv43) kc ns H locs := hM
      have hI := hI.fe (fEq.I (S := S) (f := 803) (a := h0) (v := xv43) (by decide))
      refine lv_aload_n hx hb dX8_add_39 rfl (lv_at hl 1 rfl) ?_
      obtain ⟨qv44, eqv44, kqv44, nqv44⟩ := TI.nn hI.1 (ci := 8) (k := 0) kh0
      refine r_get (ci := 8) (k := 0) (v := .ref qv44) C hM kh0 f_X8_11 (congrArg va_rf eqv44) dX8_add_40 ?_
      refine lv_aload_n hx hb dX8_add_43 rfl (lv_at hl 1 rfl) ?_
      refine r_get (ci := 8) (k := 2) (v := .int (mI (pI S 803 h0 xv43) 802 h0)) C hM kh0 f_X8_21 rfl dX8_add_44 ?_
      refine lv_topi (fun xv45 exv45 => ?_)
      have fxv45 := NI.f802 hI.2 kh0
      rw [← exv45] at fxv45
      have gxv45 : xv45 = xv1 := exv45.trans (exv1.symm)
      have hxv45 : xv45.toInt = xv1.toInt := by rw [gxv45]
      refine lv_aload_n hx hb dX8_add_47 rfl (lv_at hl 2 rfl) ?_
      refine r_aast (t := 0) (ci := 5) (o := (some h1)) C hM kqv44 (by decide) rfl rfl (fun q h => by cases h; exact kh1) (inI (by omega) (by rw [nqv44 (by decide)]; show _ < (6 : Int); omega)) dX8_add_48 (fun H locs hM => ?_)
      have hM : mH D H0 (qR (pI S 803 h0 xv43) qv44 xv45.toNatClampNeg (some h1)) kc ns H locs := hM
      have hI := CI.putA (i := xv45.toNatClampNeg) (o := (some h1)) hI kqv44 (fun q h => by cases h; exact kh1)
      refine lv_aload_n hx hb dX8_add_49 rfl (lv_at hl 1 rfl) ?_
      refine lv_dup hx hb dX8_add_50 rfl ?_
      refine r_get (ci := 8) (k := 2) (v := .int (mI (qR (pI S 803 h0 xv43) qv44 xv45.toNatClampNeg (some h1)) 802 h0)) C hM kh0 f_X8_21 rfl dX8_add_51 ?_
      refine lv_topi (fun xv46 exv46 => ?_)
      have fxv46 := NI.f802 hI.2 kh0
      rw [← exv46] at fxv46
      have gxv46 : xv46 = xv1 := exv46.trans (exv1.symm)
      have hxv46 : xv46.toInt = xv1.toInt := by rw [gxv46]
      refine lv_iconst (v := 1) hx hb dX8_add_54 (by decide) ?_
      refine lv_iadd hx hb dX8_add_55 ?_
      refine lv_topi (fun xv47 exv47 => ?_)
      try (have txv47 := addI (a := xv46) (b := 1) (by omega) (by omega); rw [← exv47] at txv47)
      refine r_put C hM kh0 f_X8_21 (fun r h => by cases h; rfl) rfl rfl (mPut.I (ci := 8) (k := 2) rfl) dX8_add_56 (fun H locs hM => ?_)
      have hM : mH D H0 (pI (qR (pI S 803 h0 xv43) qv44 xv45.toNatClampNeg (some h1)) 802 h0 xv47) kc ns H locs := hM
      have hI := CI.p802 (a := h0) (v := xv47) hI ⟨by omega, by omega⟩
      refine lv_aload_n hx hb dX8_add_59 rfl (lv_at hl 2 rfl) ?_
      obtain ⟨qv48, eqv48, kqv48, nqv48⟩ := TI.nn hI.1 (ci := 5) (k := 0) kh1
      refine r_getN (ci := 5) (k := 0) (v := .ref qv48) C hM kh1 f_X8_36 (congrArg va_rf eqv48) dX8_add_60 ?_
      refine lv_astore_n (lv' := [(3, .ref qv48), (2, .ref qv8), (0, .ref h0), (1, .ref h1)]) hx hb dX8_add_63 rfl hl (by decide) rfl (fun ls hl => ?_)
      refine lv_iconst (v := 0) hx hb dX8_add_64 (by decide) ?_
      refine lv_istore (lv' := [(4, .int 0), (3, .ref qv48), (2, .ref qv8), (0, .ref h0), (1, .ref h1)]) hx hb dX8_add_65 hl (by decide) rfl (fun ls hl => ?_)
      have loop67 : ∀ (fu : Nat) (j : Int32) (Sa : Mem) (H : Heap) (locs : List Loc) (ls : Array Slot), (mK Sa = mK S) → (CI x0 u tl rho Sa) → (0 ≤ j.toInt) → (60 - j.toInt).toNat < fu → lv_has ls 6 [(0, .ref h0), (1, .ref h1), (3, .ref qv48), (4, .int j)] → mH D H0 Sa kc ns H locs → W p l e ({ frames := 3, cells := 0, slots := 0, locals := 64 } : Room) s m args below meth c H locs 0 0 (MQ below (mQ D H0 gV (fun r S1 k1 n1 => kc = k1 ∧ ns = n1 ∧ mK S1 = mK S ∧ CI x0 u tl rho S1 ∧ True)) args s 0 0 (mF H0)) (F0 m 67 ls []) := by
        intro fu
        induction fu with
        | zero => intro j Sa H locs ls h67_0 h67_1 h67_2 hfu; exact absurd hfu (by omega)
        | succ fu ih67 =>
          intro j Sa H locs ls h67_0 h67_1 h67_2 hfu hl hM
          have hK9 := h67_0
          have hI := h67_1
          have kh0 : mK Sa h0 = 9 := (congrFun (hK9) h0).trans kh0
          have kh1 : mK Sa h1 = 6 := (congrFun (hK9) h1).trans kh1
          have kqv48 : mK Sa qv48 = 5 := (congrFun (hK9) qv48).trans kqv48
          refine lv_iload hx hb dX8_add_67 (lv_at hl 3 rfl) ?_
          refine lv_aload_n hx hb dX8_add_69 rfl (lv_at hl 2 rfl) ?_
          refine r_getN (ci := 4) (k := 1) (v := .int (mI Sa 401 qv48)) C hM kqv48 f_X8_40 rfl dX8_add_70 ?_
          refine lv_topi (fun xv49 exv49 => ?_)
          have fxv49 := NI.f401 hI.2 kqv48
          rw [← exv49] at fxv49
          refine lv_icmp_ge (tgt := 114) hx hb dX8_add_73 (by decide) (fun cv50 => ?_) (fun cv50 => ?_)
          · have tcv50 := leT cv50
            exact r_retV C hr hlk hM (⟨rfl, rfl, hK9, hI, trivial⟩) dX8_add_114
          · have tcv50 := leF cv50
            refine lv_aload_n hx hb dX8_add_76 rfl (lv_at hl 2 rfl) ?_
            refine lv_iload hx hb dX8_add_77 (lv_at hl 3 rfl) ?_
            refine r_VN (As := [.int j]) (rest := []) (ci := 4) C hM (c_X4_at l D H0 Sa kc ns qv48 j hI id kqv48) i_X4_at m_X8_43 kqv48 rfl rfl rfl hl.1 rfl (Nat.le_of_ble_eq_true rfl) ⟨by decide, by decide⟩ ⟨by decide, by decide⟩ dX8_add_79 (fun rv54 Sv51 kv52 nv53 H locs pv55 hM => ?_)
            obtain ⟨rfl, rfl, rfl, krv54⟩ := pv55
            refine W.eq (g2 := F0 m 82 ls [va_rf rv54]) rfl ?_
            refine lv_astoreQ (lv' := [(5, va_rf rv54), (0, .ref h0), (1, .ref h1), (3, .ref qv48), (4, .int j)]) hx hb dX8_add_82 hl (by decide) rfl (fun ls hl => ?_)
            refine lv_aloadQ hx hb dX8_add_84 (lv_at hl 0 rfl) ?_
            cases rv54 with
            | none =>
              refine lv_ifnullN (tgt := 108) hx hb dX8_add_86 (by decide) ?_
              obtain ⟨xv57, exv57⟩ : ∃ y : Int32, y = j + 1 := ⟨_, rfl⟩
              try (have txv57 := addI (a := j) (b := 1) (by omega) (by omega); rw [← exv57] at txv57)
              refine lv_iinc (v := xv57) (lv' := [(4, .int xv57), (5, .null), (0, .ref h0), (1, .ref h1), (3, .ref qv48)]) hx hb dX8_add_108 hl (k := 4) rfl (by rw [exv57]; rfl) (by decide) rfl (fun ls hl => ?_)
              refine lv_goto (tgt := 67) hx hb dX8_add_111 (by decide) ?_
              exact ih67 xv57 Sa _ _ _ (hK9) (hI) (by omega) (by omega) (lv_sub hl [2, 3, 4, 0] rfl) hM
            | some qv56 =>
              have kqv56 : mK Sa qv56 = 6 := krv54 qv56 rfl
              refine lv_ifnull hx hb dX8_add_86 ?_
              refine lv_iload hx hb dX8_add_89 (lv_at hl 4 rfl) ?_
              refine lv_aload_n hx hb dX8_add_91 rfl (lv_at hl 2 rfl) ?_
              refine r_getN (ci := 5) (k := 1) (v := .int (mI Sa 501 h1)) C hM kh1 f_X8_47 rfl dX8_add_92 ?_
              refine lv_topi (fun xv58 exv58 => ?_)
              have fxv58 := NI.f501 hI.2 kh1
              rw [← exv58] at fxv58
              refine lv_icmp_eq (tgt := 108) hx hb dX8_add_95 (by decide) (fun cv59 => ?_) (fun cv59 => ?_)
              · have tcv59 := eqT cv59
                obtain ⟨xv60, exv60⟩ : ∃ y : Int32, y = j + 1 := ⟨_, rfl⟩
                try (have txv60 := addI (a := j) (b := 1) (by omega) (by omega); rw [← exv60] at txv60)
                refine lv_iinc (v := xv60) (lv' := [(4, .int xv60), (5, .ref qv56), (0, .ref h0), (1, .ref h1), (3, .ref qv48)]) hx hb dX8_add_108 hl (k := 4) rfl (by rw [exv60]; rfl) (by decide) rfl (fun ls hl => ?_)
                refine lv_goto (tgt := 67) hx hb dX8_add_111 (by decide) ?_
                exact ih67 xv60 Sa _ _ _ (hK9) (hI) (by omega) (by omega) (lv_sub hl [2, 3, 4, 0] rfl) hM
              · have tcv59 := eqF cv59
                refine lv_aload_n hx hb dX8_add_98 rfl (lv_at hl 1 rfl) ?_
                refine lv_aload hx hb dX8_add_99 (lv_at hl 0 rfl) ?_
                refine lv_aload_n hx hb dX8_add_101 rfl (lv_at hl 2 rfl) ?_
                refine r_VN (As := [.ref h1]) (rest := [.ref h0]) (ci := 5) C hM (c_X5_marksSharedWith l D H0 Sa kc ns qv56 h1 hI kqv56 kh1) i_X5_marksSharedWith m_X8_32 kqv56 rfl rfl rfl hl.1 rfl (Nat.le_of_ble_eq_true rfl) ⟨by decide, by decide⟩ ⟨by decide, by decide⟩ dX8_add_102 (fun xv64 Sv61 kv62 nv63 H locs pv65 hM => ?_)
                obtain ⟨rfl, rfl, rfl, hxv64⟩ := pv65
                refine W.eq (g2 := F0 m 105 ls [.int xv64, .ref h0]) rfl ?_
                refine r_V (As := [.int xv64]) (rest := []) (ci := 8) C hM (c_X8_noteShared l D H0 Sa kc ns h0 xv64 hI kh0) i_X8_noteShared m_X8_50 kh0 rfl rfl rfl hl.1 rfl (Nat.le_of_ble_eq_true rfl) ⟨by decide, by decide⟩ ⟨by decide, by decide⟩ dX8_add_105 (fun uv69 Sv66 kv67 nv68 H locs pv70 hM => ?_)
                obtain ⟨rfl, rfl, hf9, huv69⟩ := pv70
                have hK9 := hf9.1.trans hK9
                have hI := hI.fe hf9
                have kqv56 : mK Sv66 qv56 = 6 := (congrFun (hf9.1) qv56).trans kqv56
                have kh0 : mK Sv66 h0 = 9 := (congrFun (hf9.1) h0).trans kh0
                have kh1 : mK Sv66 h1 = 6 := (congrFun (hf9.1) h1).trans kh1
                have kqv48 : mK Sv66 qv48 = 5 := (congrFun (hf9.1) qv48).trans kqv48
                refine W.eq (g2 := F0 m 108 ls []) rfl ?_
                obtain ⟨xv71, exv71⟩ : ∃ y : Int32, y = j + 1 := ⟨_, rfl⟩
                try (have txv71 := addI (a := j) (b := 1) (by omega) (by omega); rw [← exv71] at txv71)
                refine lv_iinc (v := xv71) (lv' := [(4, .int xv71), (5, .ref qv56), (0, .ref h0), (1, .ref h1), (3, .ref qv48)]) hx hb dX8_add_108 hl (k := 4) rfl (by rw [exv71]; rfl) (by decide) rfl (fun ls hl => ?_)
                refine lv_goto (tgt := 67) hx hb dX8_add_111 (by decide) ?_
                exact ih67 xv71 Sv66 _ _ _ (hK9) (hI) (by omega) (by omega) (lv_sub hl [2, 3, 4, 0] rfl) hM
      exact loop67 (((60 - (0 : Int32).toInt).toNat) + 1) 0 (pI (qR (pI S 803 h0 xv43) qv44 xv45.toNatClampNeg (some h1)) 802 h0 xv47) _ _ _ (hK9) (hI) (by omega) (by omega) (lv_sub hl [3, 4, 1, 0] rfl) hM
  · have tcv2 := ltF cv2
    exact r_retV C hr hlk hM (⟨rfl, rfl, hK9, hI, trivial⟩) dX8_add_9
set_option maxHeartbeats 4000000 in
set_option maxRecDepth 100000 in
theorem c_X7_begin (l : Launch) (D : gD) (H0 : gB) (S : Mem) (kc ns : Nat) (h0 : Nat) {u : Nat} {tl : Int} {rho : Nat × Nat} (hI : CI x0 u tl rho S) (kh0 : mK S h0 = 8) : Met l yX7_begin (wsU yX7_begin cX7_begin 1 none) ({ frames := 0, cells := 0, slots := 0, locals := 0 } : Room) (mP D H0 S kc ns [.ref h0]) (mQ D H0 gV (fun r S1 k1 n1 => kc = k1 ∧ ns = n1 ∧ mK S1 = mK S ∧ CI x0 u tl rho S1 ∧ True)) 0 0 (mF H0) := by
  refine r_met (own := RX7) (by decide +kernel) rfl (Nat.le_of_ble_eq_true rfl) ?_
  intro p e s m args below meth c C hr hlk hnm H ls hl hM
  obtain ⟨hx, hb, hml, hown, hts, -, -⟩ := id C
  have hl : lv_has ls 1 [(0, .ref h0)] := hl
  have hI0 := hI
  have hK9 : mK S = mK S := rfl
  have t_0 : (0 : Int32).toInt = 0 := by decide
  have t_1 : (1 : Int32).toInt = 1 := by decide
  refine lv_aload_n hx hb dX7_begin_0 rfl (lv_at hl 0 rfl) ?_
  refine lv_dup hx hb dX7_begin_1 rfl ?_
  refine r_get (ci := 7) (k := 1) (v := .int (mI S 701 h0)) C hM kh0 f_X7_17 rfl dX7_begin_2 ?_
  refine lv_topi (fun xv1 exv1 => ?_)
  refine lv_iconst (v := 1) hx hb dX7_begin_5 (by decide) ?_
  refine lv_iadd hx hb dX7_begin_6 ?_
  refine lv_topi (fun xv2 exv2 => ?_)
  try (have txv2 := addI (a := xv1) (b := 1) (by omega) (by omega); rw [← exv2] at txv2)
  refine r_put C hM kh0 f_X7_17 (fun r h => by cases h; rfl) rfl rfl (mPut.I (ci := 7) (k := 1) rfl) dX7_begin_7 (fun H locs hM => ?_)
  have hM : mH D H0 (pI S 701 h0 xv2) kc ns H locs := hM
  have hI := hI.fe (fEq.I (S := S) (f := 701) (a := h0) (v := xv2) (by decide))
  refine lv_aload_n hx hb dX7_begin_10 rfl (lv_at hl 0 rfl) ?_
  refine lv_iconst (v := 0) hx hb dX7_begin_11 (by decide) ?_
  refine r_put C hM kh0 f_X7_21 (fun r h => by cases h; rfl) rfl rfl (mPut.I (ci := 7) (k := 2) rfl) dX7_begin_12 (fun H locs hM => ?_)
  have hM : mH D H0 (pI (pI S 701 h0 xv2) 702 h0 0) kc ns H locs := hM
  have hI := hI.fe (fEq.I (S := (pI S 701 h0 xv2)) (f := 702) (a := h0) (v := 0) (by decide))
  refine lv_aload_n hx hb dX7_begin_15 rfl (lv_at hl 0 rfl) ?_
  refine lv_null hx hb dX7_begin_16 ?_
  refine r_put C hM kh0 f_X7_24 (fun r h => by cases h; rfl) rfl rfl (mPut.Rf (ci := 7) (k := 3) (x := none) rfl) dX7_begin_17 (fun H locs hM => ?_)
  have hM : mH D H0 (pR (pI (pI S 701 h0 xv2) 702 h0 0) 703 h0 none) kc ns H locs := hM
  have hI : CI x0 u tl rho (pR (pI (pI S 701 h0 xv2) 702 h0 0) 703 h0 none) := CI.putR (ci := 7) (k := 3) hI kh0 (fun z h => by cases h) (Or.inl rfl) (by decide) (by decide) (by decide)
  refine lv_aload_n hx hb dX7_begin_20 rfl (lv_at hl 0 rfl) ?_
  refine lv_iconst (v := 0) hx hb dX7_begin_21 (by decide) ?_
  refine r_put C hM kh0 f_X7_28 (fun r h => by cases h; rfl) rfl rfl (mPut.I (ci := 7) (k := 4) rfl) dX7_begin_22 (fun H locs hM => ?_)
  have hM : mH D H0 (pI (pR (pI (pI S 701 h0 xv2) 702 h0 0) 703 h0 none) 704 h0 0) kc ns H locs := hM
  have hI := hI.fe (fEq.I (S := (pR (pI (pI S 701 h0 xv2) 702 h0 0) 703 h0 none)) (f := 704) (a := h0) (v := 0) (by decide))
  refine lv_aload_n hx hb dX7_begin_25 rfl (lv_at hl 0 rfl) ?_
  refine lv_iconst (v := 0) hx hb dX7_begin_26 (by decide) ?_
  refine r_put C hM kh0 f_X7_31 (fun r h => by cases h; rfl) rfl rfl (mPut.I (ci := 7) (k := 5) rfl) dX7_begin_27 (fun H locs hM => ?_)
  have hM : mH D H0 (pI (pI (pR (pI (pI S 701 h0 xv2) 702 h0 0) 703 h0 none) 704 h0 0) 705 h0 0) kc ns H locs := hM
  have hI := CI.p705 (a := h0) (v := 0) hI ⟨by omega, by omega⟩
  exact r_retV C hr hlk hM (⟨rfl, rfl, hK9, hI, trivial⟩) dX7_begin_30
set_option maxHeartbeats 4000000 in
set_option maxRecDepth 100000 in
theorem c_X7_stop (l : Launch) (D : gD) (H0 : gB) (S : Mem) (kc ns : Nat) (h0 : Nat) (i0 : Int32) (o0 : Option Nat) {u : Nat} {tl : Int} {rho : Nat × Nat} (hI : CI x0 u tl rho S) (kh0 : mK S h0 = 8) (ko0 : ∀ q, o0 = some q → mK S q = 6) : Met l yX7_stop (wsU yX7_stop cX7_stop 3 (some .boolean)) ({ frames := 0, cells := 0, slots := 0, locals := 0 } : Room) (mP D H0 S kc ns [.ref h0, .int i0, va_rf o0]) (mQ D H0 gI (fun r S1 k1 n1 => kc = k1 ∧ ns = n1 ∧ mK S1 = mK S ∧ CI x0 u tl rho S1 ∧ r = 0)) 0 0 (mF H0) := by
  refine r_met (own := RX7) (by decide +kernel) rfl (by simp [lg_sl, cat_rf, cat_i, cat_l, cat_a, cat_n]) ?_
  intro p e s m args below meth c C hr hlk hnm H ls hl hM
  obtain ⟨hx, hb, hml, hown, hts, -, -⟩ := id C
  have hl : lv_has ls 3 [(0, .ref h0), (1, .int i0), (2, va_rf o0)] := by simpa [lv_args, cat_rf, cat_i, cat_l, cat_a, cat_n] using hl
  have hI0 := hI
  have hK9 : mK S = mK S := rfl
  have t_0 : (0 : Int32).toInt = 0 := by decide
  refine lv_aload_n hx hb dX7_stop_0 rfl (lv_at hl 0 rfl) ?_
  refine lv_iload_n hx hb dX7_stop_1 rfl (lv_at hl 1 rfl) ?_
  refine r_put C hM kh0 f_X7_21 (fun r h => by cases h; rfl) rfl rfl (mPut.I (ci := 7) (k := 2) rfl) dX7_stop_2 (fun H locs hM => ?_)
  have hM : mH D H0 (pI S 702 h0 i0) kc ns H locs := hM
  have hI := hI.fe (fEq.I (S := S) (f := 702) (a := h0) (v := i0) (by decide))
  refine lv_aload_n hx hb dX7_stop_5 rfl (lv_at hl 0 rfl) ?_
  refine lv_aload_nQ hx hb dX7_stop_6 rfl (lv_at hl 2 rfl) ?_
  refine r_put C hM kh0 f_X7_24 (fun r h => by cases h; rfl) (by cases o0 <;> rfl) (by cases o0 <;> rfl) (mPut.Rf (ci := 7) (k := 3) (x := o0) rfl) dX7_stop_7 (fun H locs hM => ?_)
  have hM : mH D H0 (pR (pI S 702 h0 i0) 703 h0 o0) kc ns H locs := hM
  have hI : CI x0 u tl rho (pR (pI S 702 h0 i0) 703 h0 o0) := CI.putR (ci := 7) (k := 3) hI kh0 (fun z h => ⟨ko0 z h, fun h => absurd rfl h⟩) (Or.inl rfl) (by decide) (by decide) (by decide)
  refine lv_iconst (v := 0) hx hb dX7_stop_10 (by decide) ?_
  exact r_retZ C hr hlk rfl hM (⟨rfl, rfl, hK9, hI, rfl⟩) dX7_stop_11
set_option maxHeartbeats 4000000 in
set_option maxRecDepth 100000 in
theorem c_X7_keep (l : Launch) (D : gD) (H0 : gB) (S : Mem) (kc ns : Nat) (h0 h1 : Nat) {u : Nat} {tl : Int} {rho : Nat × Nat} (hI : CI x0 u tl rho S) (hrho : rho.1 < 2000000000) (kh0 : mK S h0 = 8) (kh1 : mK S h1 = 6) : Met l yX7_keep (wsU yX7_keep cX7_keep 2 none) ({ frames := 0, cells := 0, slots := 0, locals := 0 } : Room) (mP D H0 S kc ns [.ref h0, .ref h1]) (mQ D H0 gV (fun r S1 k1 n1 => kc = k1 ∧ ns = n1 ∧ mK S1 = mK S ∧ CI x0 u tl (rho.1 + 1, rho.2) S1 ∧ True)) 0 0 (mF H0) := by
  refine r_met (own := RX7) (by decide +kernel) rfl (Nat.le_of_ble_eq_true rfl) ?_
  intro p e s m args below meth c C hr hlk hnm H ls hl hM
  obtain ⟨hx, hb, hml, hown, hts, -, -⟩ := id C
  have hl : lv_has ls 2 [(0, .ref h0), (1, .ref h1)] := hl
  have hI0 := hI
  have hK9 : mK S = mK S := rfl
  have t_0 : (0 : Int32).toInt = 0 := by decide
  have t_1 : (1 : Int32).toInt = 1 := by decide
  have t_40 : (40 : Int32).toInt = 40 := by decide
  refine lv_aload_n hx hb dX7_keep_0 rfl (lv_at hl 0 rfl) ?_
  refine r_get (ci := 7) (k := 5) (v := .int (mI S 705 h0)) C hM kh0 f_X7_31 rfl dX7_keep_1 ?_
  refine lv_topi (fun xv1 exv1 => ?_)
  have fxv1 := NI.f705 hI.2 kh0
  rw [← exv1] at fxv1
  refine lv_bipush (v := 40) hx hb dX7_keep_4 (by decide) ?_
  refine lv_icmp_ge (tgt := 19) hx hb dX7_keep_6 (by decide) (fun cv2 => ?_) (fun cv2 => ?_)
  · have tcv2 := leT cv2
    refine lv_aload_n hx hb dX7_keep_19 rfl (lv_at hl 0 rfl) ?_
    refine lv_dup hx hb dX7_keep_20 rfl ?_
    refine r_get (ci := 7) (k := 5) (v := .int (mI S 705 h0)) C hM kh0 f_X7_31 rfl dX7_keep_21 ?_
    refine lv_topi (fun xv3 exv3 => ?_)
    have fxv3 := NI.f705 hI.2 kh0
    rw [← exv3] at fxv3
    have gxv3 : xv3 = xv1 := exv3.trans (exv1.symm)
    have hxv3 : xv3.toInt = xv1.toInt := by rw [gxv3]
    refine lv_iconst (v := 1) hx hb dX7_keep_24 (by decide) ?_
    refine lv_iadd hx hb dX7_keep_25 ?_
    refine lv_topi (fun xv4 exv4 => ?_)
    try (have txv4 := addI (a := xv3) (b := 1) (by omega) (by omega); rw [← exv4] at txv4)
    refine r_put C hM kh0 f_X7_31 (fun r h => by cases h; rfl) rfl rfl (mPut.I (ci := 7) (k := 5) rfl) dX7_keep_26 (fun H locs hM => ?_)
    have hM : mH D H0 (pI S 705 h0 xv4) kc ns H locs := hM
    have hI := CI.p705 (a := h0) (v := xv4) (CI.rhoLe hI (Nat.le_succ _)) ⟨by omega, by show _ ≤ ((rho.1 + 1 : Nat) : Int); omega⟩
    exact r_retV C hr hlk hM (⟨rfl, rfl, hK9, hI, trivial⟩) dX7_keep_29
  · have tcv2 := leF cv2
    refine lv_aload_n hx hb dX7_keep_9 rfl (lv_at hl 0 rfl) ?_
    obtain ⟨qv5, eqv5, kqv5, nqv5⟩ := TI.nn hI.1 (ci := 7) (k := 0) kh0
    refine r_get (ci := 7) (k := 0) (v := .ref qv5) C hM kh0 f_X7_11 (congrArg va_rf eqv5) dX7_keep_10 ?_
    refine lv_aload_n hx hb dX7_keep_13 rfl (lv_at hl 0 rfl) ?_
    refine r_get (ci := 7) (k := 5) (v := .int (mI S 705 h0)) C hM kh0 f_X7_31 rfl dX7_keep_14 ?_
    refine lv_topi (fun xv6 exv6 => ?_)
    have fxv6 := NI.f705 hI.2 kh0
    rw [← exv6] at fxv6
    have gxv6 : xv6 = xv1 := exv6.trans (exv1.symm)
    have hxv6 : xv6.toInt = xv1.toInt := by rw [gxv6]
    refine lv_aload_n hx hb dX7_keep_17 rfl (lv_at hl 1 rfl) ?_
    refine r_aast (t := 0) (ci := 5) (o := (some h1)) C hM kqv5 (by decide) rfl rfl (fun q h => by cases h; exact kh1) (inI (by omega) (by rw [nqv5 (by decide)]; show _ < (40 : Int); omega)) dX7_keep_18 (fun H locs hM => ?_)
    have hM : mH D H0 (qR S qv5 xv6.toNatClampNeg (some h1)) kc ns H locs := hM
    have hI := CI.putA (i := xv6.toNatClampNeg) (o := (some h1)) hI kqv5 (fun q h => by cases h; exact kh1)
    refine lv_aload_n hx hb dX7_keep_19 rfl (lv_at hl 0 rfl) ?_
    refine lv_dup hx hb dX7_keep_20 rfl ?_
    refine r_get (ci := 7) (k := 5) (v := .int (mI (qR S qv5 xv6.toNatClampNeg (some h1)) 705 h0)) C hM kh0 f_X7_31 rfl dX7_keep_21 ?_
    refine lv_topi (fun xv7 exv7 => ?_)
    have fxv7 := NI.f705 hI.2 kh0
    rw [← exv7] at fxv7
    have gxv7 : xv7 = xv1 := exv7.trans (exv1.symm)
    have hxv7 : xv7.toInt = xv1.toInt := by rw [gxv7]
    refine lv_iconst (v := 1) hx hb dX7_keep_24 (by decide) ?_
    refine lv_iadd hx hb dX7_keep_25 ?_
    refine lv_topi (fun xv8 exv8 => ?_)
    try (have txv8 := addI (a := xv7) (b := 1) (by omega) (by omega); rw [← exv8] at txv8)
    refine r_put C hM kh0 f_X7_31 (fun r h => by cases h; rfl) rfl rfl (mPut.I (ci := 7) (k := 5) rfl) dX7_keep_26 (fun H locs hM => ?_)
    have hM : mH D H0 (pI (qR S qv5 xv6.toNatClampNeg (some h1)) 705 h0 xv8) kc ns H locs := hM
    have hI := CI.p705 (a := h0) (v := xv8) (CI.rhoLe hI (Nat.le_succ _)) ⟨by omega, by show _ ≤ ((rho.1 + 1 : Nat) : Int); omega⟩
    exact r_retV C hr hlk hM (⟨rfl, rfl, hK9, hI, trivial⟩) dX7_keep_29
set_option maxHeartbeats 4000000 in
set_option maxRecDepth 100000 in
theorem c_X7_take (l : Launch) (D : gD) (H0 : gB) (S : Mem) (kc ns : Nat) (h0 h1 : Nat) (i0 : Int32) {u : Nat} {tl : Int} {rho : Nat × Nat} (hI : CI x0 u tl rho S) (hrho : rho.1 < 2000000000) (kh0 : mK S h0 = 8) (kh1 : mK S h1 = 6) : Met l yX7_take (wsU yX7_take cX7_take 3 (some .boolean)) ({ frames := 1, cells := 0, slots := 0, locals := 22 } : Room) (mP D H0 S kc ns [.ref h0, .ref h1, .int i0]) (mQ D H0 gI (fun r S1 k1 n1 => kc = k1 ∧ ns = n1 ∧ mK S1 = mK S ∧ CI x0 u tl (rho.1 + 1, rho.2) S1 ∧ (r = 0 ∨ r = 1))) 0 0 (mF H0) := by
  refine r_met (own := RX7) (by decide +kernel) rfl (Nat.le_of_ble_eq_true rfl) ?_
  intro p e s m args below meth c C hr hlk hnm H ls hl hM
  obtain ⟨hx, hb, hml, hown, hts, -, -⟩ := id C
  have hl : lv_has ls 3 [(0, .ref h0), (1, .ref h1), (2, .int i0)] := hl
  have hI0 := hI
  have hK9 : mK S = mK S := rfl
  have t_0 : (0 : Int32).toInt = 0 := by decide
  have t_1 : (1 : Int32).toInt = 1 := by decide
  have t_3 : (3 : Int32).toInt = 3 := by decide
  refine lv_iload_n hx hb dX7_take_0 rfl (lv_at hl 2 rfl) ?_
  refine lv_if_ne (tgt := 11) hx hb dX7_take_1 (by decide) (fun cv1 => ?_) (fun cv1 => ?_)
  · have tcv1 := eqF cv1
    refine lv_aload_n hx hb dX7_take_11 rfl (lv_at hl 1 rfl) ?_
    refine r_VN (As := []) (rest := []) (ci := 5) C hM (c_X5_isHarmful l D H0 S kc ns h1 hI kh1) i_X5_isHarmful m_X7_38 kh1 rfl rfl rfl hl.1 rfl (Nat.le_of_ble_eq_true rfl) ⟨by decide, by decide⟩ ⟨by decide, by decide⟩ dX7_take_12 (fun xv5 Sv2 kv3 nv4 H locs pv6 hM => ?_)
    obtain ⟨rfl, rfl, rfl, hxv5⟩ := pv6
    refine W.eq (g2 := F0 m 15 ls [.int xv5]) rfl ?_
    refine lv_if_eq (tgt := 25) hx hb dX7_take_15 (by decide) (fun cv7 => ?_) (fun cv7 => ?_)
    · have tcv7 := eqT cv7
      refine lv_aload_n hx hb dX7_take_25 rfl (lv_at hl 1 rfl) ?_
      refine r_getN (ci := 5) (k := 16) (v := .int (mI S 516 h1)) C hM kh1 f_X7_46 rfl dX7_take_26 ?_
      refine lv_topi (fun xv8 exv8 => ?_)
      refine lv_aload_n hx hb dX7_take_29 rfl (lv_at hl 0 rfl) ?_
      refine r_get (ci := 7) (k := 1) (v := .int (mI S 701 h0)) C hM kh0 f_X7_17 rfl dX7_take_30 ?_
      refine lv_topi (fun xv9 exv9 => ?_)
      refine lv_icmp_eq (tgt := 64) hx hb dX7_take_33 (by decide) (fun cv10 => ?_) (fun cv10 => ?_)
      · have tcv10 := eqT cv10
        refine lv_iconst (v := 1) hx hb dX7_take_64 (by decide) ?_
        exact r_retZ C hr hlk rfl hM (⟨rfl, rfl, hK9, CI.rhoLe hI (Nat.le_succ _), by decide⟩) dX7_take_65
      · have tcv10 := eqF cv10
        refine lv_aload_n hx hb dX7_take_36 rfl (lv_at hl 1 rfl) ?_
        refine lv_aload_n hx hb dX7_take_37 rfl (lv_at hl 0 rfl) ?_
        refine r_get (ci := 7) (k := 1) (v := .int (mI S 701 h0)) C hM kh0 f_X7_17 rfl dX7_take_38 ?_
        refine lv_topi (fun xv11 exv11 => ?_)
        have gxv11 : xv11 = xv9 := exv11.trans (exv9.symm)
        have hxv11 : xv11.toInt = xv9.toInt := by rw [gxv11]
        refine r_putN C hM kh1 f_X7_46 (fun r h => by cases h; rfl) rfl rfl (mPut.I (ci := 5) (k := 16) rfl) dX7_take_41 (fun H locs hM => ?_)
        have hM : mH D H0 (pI S 516 h1 xv11) kc ns H locs := hM
        have hI := hI.fe (fEq.I (S := S) (f := 516) (a := h1) (v := xv11) (by decide))
        refine lv_aload_n hx hb dX7_take_44 rfl (lv_at hl 1 rfl) ?_
        refine lv_dup hx hb dX7_take_45 rfl ?_
        refine r_getN (ci := 5) (k := 15) (v := .int (mI (pI S 516 h1 xv11) 515 h1)) C hM kh1 f_X7_49 rfl dX7_take_46 ?_
        refine lv_topi (fun xv12 exv12 => ?_)
        refine lv_iconst (v := 1) hx hb dX7_take_49 (by decide) ?_
        refine lv_iadd hx hb dX7_take_50 ?_
        refine lv_topi (fun xv13 exv13 => ?_)
        refine r_putN C hM kh1 f_X7_49 (fun r h => by cases h; rfl) rfl rfl (mPut.I (ci := 5) (k := 15) rfl) dX7_take_51 (fun H locs hM => ?_)
        have hM : mH D H0 (pI (pI S 516 h1 xv11) 515 h1 xv13) kc ns H locs := hM
        have hI := hI.fe (fEq.I (S := (pI S 516 h1 xv11)) (f := 515) (a := h1) (v := xv13) (by decide))
        refine lv_aload_n hx hb dX7_take_54 rfl (lv_at hl 0 rfl) ?_
        refine lv_dup hx hb dX7_take_55 rfl ?_
        refine r_get (ci := 7) (k := 4) (v := .int (mI (pI (pI S 516 h1 xv11) 515 h1 xv13) 704 h0)) C hM kh0 f_X7_28 rfl dX7_take_56 ?_
        refine lv_topi (fun xv14 exv14 => ?_)
        refine lv_iconst (v := 1) hx hb dX7_take_59 (by decide) ?_
        refine lv_iadd hx hb dX7_take_60 ?_
        refine lv_topi (fun xv15 exv15 => ?_)
        refine r_put C hM kh0 f_X7_28 (fun r h => by cases h; rfl) rfl rfl (mPut.I (ci := 7) (k := 4) rfl) dX7_take_61 (fun H locs hM => ?_)
        have hM : mH D H0 (pI (pI (pI S 516 h1 xv11) 515 h1 xv13) 704 h0 xv15) kc ns H locs := hM
        have hI := hI.fe (fEq.I (S := (pI (pI S 516 h1 xv11) 515 h1 xv13)) (f := 704) (a := h0) (v := xv15) (by decide))
        refine lv_iconst (v := 1) hx hb dX7_take_64 (by decide) ?_
        exact r_retZ C hr hlk rfl hM (⟨rfl, rfl, hK9, CI.rhoLe hI (Nat.le_succ _), by decide⟩) dX7_take_65
    · have tcv7 := eqF cv7
      refine lv_aload_n hx hb dX7_take_18 rfl (lv_at hl 0 rfl) ?_
      refine lv_iconst (v := 3) hx hb dX7_take_19 (by decide) ?_
      refine lv_aload_n hx hb dX7_take_20 rfl (lv_at hl 1 rfl) ?_
      refine r_V (As := [.int 3, .ref h1]) (rest := []) (ci := 7) C hM (c_X7_stop l D H0 S kc ns h0 3 (some h1) hI kh0 (fun z h => by cases h; exact kh1)) i_X7_stop m_X7_42 kh0 rfl rfl rfl hl.1 rfl (Nat.le_of_ble_eq_true rfl) ⟨by decide, by decide⟩ ⟨by decide, by decide⟩ dX7_take_21 (fun xv19 Sv16 kv17 nv18 H locs pv20 hM => ?_)
      obtain ⟨rfl, rfl, hk9, hI, hxv19⟩ := pv20
      have kh0 : mK Sv16 h0 = 8 := (congrFun (hk9) h0).trans kh0
      have kh1 : mK Sv16 h1 = 6 := (congrFun (hk9) h1).trans kh1
      have hK9 := hk9.trans hK9
      refine W.eq (g2 := F0 m 24 ls [.int xv19]) rfl ?_
      have hxv19 : xv19 = 0 ∨ xv19 = 1 := Or.inl hxv19
      exact r_retZ C hr hlk (nzb hxv19) hM (⟨rfl, rfl, hK9, CI.rhoLe hI (Nat.le_succ _), hxv19⟩) dX7_take_24
  · have tcv1 := eqT cv1
    refine lv_aload_n hx hb dX7_take_4 rfl (lv_at hl 0 rfl) ?_
    refine lv_aload_n hx hb dX7_take_5 rfl (lv_at hl 1 rfl) ?_
    refine r_V (As := [.ref h1]) (rest := []) (ci := 7) C hM (c_X7_keep l D H0 S kc ns h0 h1 hI hrho kh0 kh1) i_X7_keep m_X7_34 kh0 rfl rfl rfl hl.1 rfl (Nat.le_of_ble_eq_true rfl) ⟨by decide, by decide⟩ ⟨by decide, by decide⟩ dX7_take_6 (fun uv24 Sv21 kv22 nv23 H locs pv25 hM => ?_)
    obtain ⟨rfl, rfl, hk9, hI, huv24⟩ := pv25
    have kh0 : mK Sv21 h0 = 8 := (congrFun (hk9) h0).trans kh0
    have kh1 : mK Sv21 h1 = 6 := (congrFun (hk9) h1).trans kh1
    have hK9 := hk9.trans hK9
    refine W.eq (g2 := F0 m 9 ls []) rfl ?_
    refine lv_iconst (v := 1) hx hb dX7_take_9 (by decide) ?_
    exact r_retZ C hr hlk rfl hM (⟨rfl, rfl, hK9, hI, by decide⟩) dX7_take_10
set_option maxHeartbeats 4000000 in
set_option maxRecDepth 100000 in
theorem c_X7_keptAt (l : Launch) (D : gD) (H0 : gB) (S : Mem) (kc ns : Nat) (h0 : Nat) (i0 : Int32) {u : Nat} {tl : Int} {rho : Nat × Nat} (hI : CI x0 u tl rho S) (kh0 : mK S h0 = 8) : Met l yX7_keptAt (wsU yX7_keptAt cX7_keptAt 2 (some (.object "ClickBench$Part"))) ({ frames := 0, cells := 0, slots := 0, locals := 0 } : Room) (mP D H0 S kc ns [.ref h0, .int i0]) (mQ D H0 gR (fun r S1 k1 n1 => S = S1 ∧ kc = k1 ∧ ns = n1 ∧ (∀ q, r = some q → mK S q = 6))) 0 0 (mF H0) := by
  refine r_met (own := RX7) (by decide +kernel) rfl (Nat.le_of_ble_eq_true rfl) ?_
  intro p e s m args below meth c C hr hlk hnm H ls hl hM
  obtain ⟨hx, hb, hml, hown, hts, -, -⟩ := id C
  have hl : lv_has ls 2 [(0, .ref h0), (1, .int i0)] := hl
  have t_0 : (0 : Int32).toInt = 0 := by decide
  have t_40 : (40 : Int32).toInt = 40 := by decide
  refine lv_iload_n hx hb dX7_keptAt_0 rfl (lv_at hl 1 rfl) ?_
  refine lv_if_lt (tgt := 18) hx hb dX7_keptAt_1 (by decide) (fun cv1 => ?_) (fun cv1 => ?_)
  · have tcv1 := ltT cv1
    refine lv_null hx hb dX7_keptAt_18 ?_
    refine lv_goto (tgt := 28) hx hb dX7_keptAt_19 (by decide) ?_
    exact r_retR (v := none) C hr hlk hM (⟨rfl, rfl, rfl, fun z h => by cases h⟩) dX7_keptAt_28
  · have tcv1 := ltF cv1
    refine lv_iload_n hx hb dX7_keptAt_4 rfl (lv_at hl 1 rfl) ?_
    refine lv_aload_n hx hb dX7_keptAt_5 rfl (lv_at hl 0 rfl) ?_
    refine r_get (ci := 7) (k := 5) (v := .int (mI S 705 h0)) C hM kh0 f_X7_31 rfl dX7_keptAt_6 ?_
    refine lv_topi (fun xv2 exv2 => ?_)
    have fxv2 := NI.f705 hI.2 kh0
    rw [← exv2] at fxv2
    refine lv_icmp_ge (tgt := 18) hx hb dX7_keptAt_9 (by decide) (fun cv3 => ?_) (fun cv3 => ?_)
    · have tcv3 := leT cv3
      refine lv_null hx hb dX7_keptAt_18 ?_
      refine lv_goto (tgt := 28) hx hb dX7_keptAt_19 (by decide) ?_
      exact r_retR (v := none) C hr hlk hM (⟨rfl, rfl, rfl, fun z h => by cases h⟩) dX7_keptAt_28
    · have tcv3 := leF cv3
      refine lv_iload_n hx hb dX7_keptAt_12 rfl (lv_at hl 1 rfl) ?_
      refine lv_bipush (v := 40) hx hb dX7_keptAt_13 (by decide) ?_
      refine lv_icmp_lt (tgt := 22) hx hb dX7_keptAt_15 (by decide) (fun cv4 => ?_) (fun cv4 => ?_)
      · have tcv4 := ltT cv4
        refine lv_aload_n hx hb dX7_keptAt_22 rfl (lv_at hl 0 rfl) ?_
        obtain ⟨qv5, eqv5, kqv5, nqv5⟩ := TI.nn hI.1 (ci := 7) (k := 0) kh0
        refine r_get (ci := 7) (k := 0) (v := .ref qv5) C hM kh0 f_X7_11 (congrArg va_rf eqv5) dX7_keptAt_23 ?_
        refine lv_iload_n hx hb dX7_keptAt_26 rfl (lv_at hl 1 rfl) ?_
        refine r_aald (t := 0) C hM kqv5 rfl (by decide) (inI (by omega) (by rw [nqv5 (by decide)]; show _ < (40 : Int); omega)) dX7_keptAt_27 ?_
        obtain ⟨rv6, erv6, krv6⟩ : ∃ r : Option Nat, aR S qv5 i0.toNatClampNeg = r ∧ ∀ q, r = some q → mK S q = 6 := ⟨_, rfl, TI.arr hI.1 (t := 0) kqv5⟩
        refine W.eq (g2 := F0 m 28 ls [va_rf rv6]) (by rw [← erv6]) ?_
        exact r_retR (v := rv6) C hr hlk hM (⟨rfl, rfl, rfl, krv6⟩) dX7_keptAt_28
      · have tcv4 := ltF cv4
        refine lv_null hx hb dX7_keptAt_18 ?_
        refine lv_goto (tgt := 28) hx hb dX7_keptAt_19 (by decide) ?_
        exact r_retR (v := none) C hr hlk hM (⟨rfl, rfl, rfl, fun z h => by cases h⟩) dX7_keptAt_28
