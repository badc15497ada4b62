set_option maxHeartbeats 4000000 in
set_option maxRecDepth 100000 in
theorem c_X8_first (l : Launch) (D : gD) (H0 : Heap) (S : Mem) (kc ns : Nat) (h0 : Nat) {u : Nat} {tl : Int} {rho : Nat} (hI : CI x0 u tl rho S) (kh0 : mK S h0 = 9) : Met l yX8_first (wsU yX8_first cX8_first 1 (some (.object "ClickBench$Part"))) ({ frames := 0, cells := 0, slots := 0, locals := 0 } : Room) (mP D H0 S kc ns [.ref h0]) (mQ D H0 gR (fun r S1 k1 n1 => S = S1 ∧ kc = k1 ∧ ns = n1 ∧ (∀ q, r = some q → mK S q = 6))) 0 0 (mF H0) := by
  refine r_met (own := RX8) (by decide +kernel) rfl (Nat.le_of_ble_eq_true rfl) ?_
  intro p e s m args below meth c C hr hlk hnm H ls hl hM
  obtain ⟨hx, hb, hml, hown, hts, -, -⟩ := id C
  have hl : lv_has ls 1 [(0, .ref h0)] := hl
  have t_0 : (0 : Int32).toInt = 0 := by decide
  refine lv_aload_n hx hb dX8_first_0 rfl (lv_at hl 0 rfl) ?_
  refine r_get (ci := 8) (k := 2) (v := .int (mI S 802 h0)) C hM kh0 f_X8_21 rfl dX8_first_1 ?_
  refine lv_topi (fun x1 ex1 => ?_)
  have fx1 := NI.f802 hI.2 kh0
  rw [← ex1] at fx1
  refine lv_if_ne (tgt := 11) hx hb dX8_first_4 (by decide) (fun c2 => ?_) (fun c2 => ?_)
  · have tc2 := eqF c2
    refine lv_aload_n hx hb dX8_first_11 rfl (lv_at hl 0 rfl) ?_
    obtain ⟨q3, eq3, kq3, nq3⟩ := TI.nn hI.1 (ci := 8) (k := 0) kh0
    refine r_get (ci := 8) (k := 0) (v := .ref q3) C hM kh0 f_X8_11 (congrArg va_rf eq3) dX8_first_12 ?_
    refine lv_iconst (v := 0) hx hb dX8_first_15 (by decide) ?_
    refine r_aald (t := 0) C hM kq3 rfl (by decide) (inI (by omega) (by rw [nq3 (by decide)]; show _ < (6 : Int); omega)) dX8_first_16 ?_
    obtain ⟨r4, er4, kr4⟩ : ∃ r : Option Nat, aR S q3 (0 : Int32).toNatClampNeg = r ∧ ∀ q, r = some q → mK S q = 6 := ⟨_, rfl, TI.arr hI.1 (t := 0) kq3⟩
    refine W.eq (g2 := F0 m 17 ls [va_rf r4]) (by rw [← er4]) ?_
    exact r_retR (v := r4) C hr hlk hM (⟨rfl, rfl, rfl, kr4⟩) dX8_first_17
  · have tc2 := eqT c2
    refine lv_null hx hb dX8_first_7 ?_
    refine lv_goto (tgt := 17) hx hb dX8_first_8 (by decide) ?_
    exact r_retR (v := none) C hr hlk hM (⟨rfl, rfl, rfl, fun z h => by cases h⟩) dX8_first_17
set_option maxHeartbeats 4000000 in
set_option maxRecDepth 100000 in
theorem c_X8_leastMarks (l : Launch) (D : gD) (H0 : Heap) (S : Mem) (kc ns : Nat) (h0 : Nat) {u : Nat} {tl : Int} {rho : Nat} (hI : CI x0 u tl rho S) (kh0 : mK S h0 = 9) : Met l yX8_leastMarks (wsU yX8_leastMarks cX8_leastMarks 5 (some .int)) ({ frames := 1, cells := 0, slots := 0, locals := 20 } : Room) (mP D H0 S kc ns [.ref h0]) (mQ D H0 gI (fun r S1 k1 n1 => S = S1 ∧ kc = k1 ∧ ns = n1 ∧ True)) 0 0 (mF H0) := by
  refine r_met (own := RX8) (by decide +kernel) rfl (Nat.le_of_ble_eq_true rfl) ?_
  intro p e s m args below meth c C hr hlk hnm H ls hl hM
  obtain ⟨hx, hb, hml, hown, hts, -, -⟩ := id C
  have hl : lv_has ls 5 [(0, .ref h0)] := hl
  have t_m1 : (-1 : Int32).toInt = -1 := by decide
  have t_0 : (0 : Int32).toInt = 0 := by decide
  have t_1 : (1 : Int32).toInt = 1 := by decide
  have t_255 : (255 : Int32).toInt = 255 := by decide
  refine lv_iconst (v := -1) hx hb dX8_leastMarks_0 (by decide) ?_
  refine lv_istore_n (lv' := [(1, .int (-1)), (0, .ref h0)]) hx hb dX8_leastMarks_1 rfl hl (by decide) rfl (fun ls hl => ?_)
  refine lv_iconst (v := 0) hx hb dX8_leastMarks_2 (by decide) ?_
  refine lv_istore_n (lv' := [(2, .int 0), (1, .int (-1)), (0, .ref h0)]) hx hb dX8_leastMarks_3 rfl hl (by decide) rfl (fun ls hl => ?_)
  refine lv_iconst (v := 1) hx hb dX8_leastMarks_4 (by decide) ?_
  refine lv_istore_n (lv' := [(3, .int 1), (2, .int 0), (1, .int (-1)), (0, .ref h0)]) hx hb dX8_leastMarks_5 rfl hl (by decide) rfl (fun ls hl => ?_)
  have loop6 : ∀ (fu : Nat) (j : Int32) (a2 : Int32) (a1 : Int32) (H : Heap) (locs : List Loc) (ls : Array Slot), (1 ≤ j.toInt) → (256 - j.toInt).toNat < fu → lv_has ls 5 [(0, .ref h0), (1, .int a1), (2, .int a2), (3, .int j)] → mH D H0 S kc ns H locs → W p l e ({ frames := 1, cells := 0, slots := 0, locals := 20 } : Room) s m args below meth c H locs 0 0 (MQ below (mQ D H0 gI (fun r S1 k1 n1 => S = S1 ∧ kc = k1 ∧ ns = n1 ∧ True)) args s 0 0 (mF H0)) (F0 m 6 ls []) := by
    intro fu
    induction fu with
    | zero => intro j a2 a1 H locs ls h6_0 hfu; exact absurd hfu (by omega)
    | succ fu ih6 =>
      intro j a2 a1 H locs ls h6_0 hfu hl hM
      refine lv_iload_n hx hb dX8_leastMarks_6 rfl (lv_at hl 3 rfl) ?_
      refine lv_sipush (v := 255) hx hb dX8_leastMarks_7 (by decide) ?_
      refine lv_icmp_gt (tgt := 63) hx hb dX8_leastMarks_10 (by decide) (fun c1 => ?_) (fun c1 => ?_)
      · have tc1 := ltT c1
        refine lv_iload_n hx hb dX8_leastMarks_63 rfl (lv_at hl 1 rfl) ?_
        exact r_retI C hr hlk hM (⟨rfl, rfl, rfl, trivial⟩) dX8_leastMarks_64
      · have tc1 := ltF c1
        refine lv_iload_n hx hb dX8_leastMarks_13 rfl (lv_at hl 3 rfl) ?_
        refine lv_aload_n hx hb dX8_leastMarks_14 rfl (lv_at hl 0 rfl) ?_
        refine r_get (ci := 8) (k := 3) (v := .int (mI S 803 h0)) C hM kh0 f_X8_25 rfl dX8_leastMarks_15 ?_
        refine lv_topi (fun x2 ex2 => ?_)
        refine lv_iand hx hb dX8_leastMarks_18 ?_
        refine lv_topi (fun x3 ex3 => ?_)
        refine lv_iload_n hx hb dX8_leastMarks_19 rfl (lv_at hl 3 rfl) ?_
        refine lv_icmp_ne (tgt := 57) hx hb dX8_leastMarks_20 (by decide) (fun c4 => ?_) (fun c4 => ?_)
        · have tc4 := eqF c4
          obtain ⟨x5, ex5⟩ : ∃ y : Int32, y = j + 1 := ⟨_, rfl⟩
          try (have tx5 := addI (a := j) (b := 1) (by omega) (by omega); rw [← ex5] at tx5)
          refine lv_iinc (v := x5) (lv' := [(3, .int x5), (0, .ref h0), (1, .int a1), (2, .int a2)]) hx hb dX8_leastMarks_57 hl (k := 3) rfl (by rw [ex5]; rfl) (by decide) rfl (fun ls hl => ?_)
          refine lv_goto (tgt := 6) hx hb dX8_leastMarks_60 (by decide) ?_
          exact ih6 x5 a2 a1 _ _ _ (by omega) (by omega) (lv_sub hl [1, 2, 3, 0] rfl) hM
        · have tc4 := eqT c4
          refine lv_aload_n hx hb dX8_leastMarks_23 rfl (lv_at hl 0 rfl) ?_
          obtain ⟨q6, eq6, kq6, nq6⟩ := TI.nn hI.1 (ci := 8) (k := 1) kh0
          refine r_get (ci := 8) (k := 1) (v := .ref q6) C hM kh0 f_X8_17 (congrArg va_rf eq6) dX8_leastMarks_24 ?_
          refine lv_iload_n hx hb dX8_leastMarks_27 rfl (lv_at hl 3 rfl) ?_
          refine r_zald C hM kq6 (inI (by omega) (by rw [nq6 (by decide)]; show _ < (256 : Int); omega)) dX8_leastMarks_28 ?_
          refine lv_topi (fun x7 ex7 => ?_)
          refine lv_if_eq (tgt := 35) hx hb dX8_leastMarks_29 (by decide) (fun c8 => ?_) (fun c8 => ?_)
          · have tc8 := eqT c8
            refine lv_iload_n hx hb dX8_leastMarks_35 rfl (lv_at hl 3 rfl) ?_
            refine r_S (As := [.int j]) (rest := []) C hM (c_J6_bitCount_0f7a4 l D H0 S kc ns j) i_J6_bitCount_0f7a4 m_X8_54 rfl hl.1 rfl (Nat.le_of_ble_eq_true rfl) ⟨by decide, by decide⟩ ⟨by decide, by decide⟩ dX8_leastMarks_36 (fun x12 S9 k10 n11 H locs p13 hM => ?_)
            obtain ⟨rfl, rfl, rfl, hx12⟩ := p13
            refine W.eq (g2 := F0 m 39 ls [.int x12]) rfl ?_
            refine lv_istore (lv' := [(4, .int x12), (0, .ref h0), (1, .int a1), (2, .int a2), (3, .int j)]) hx hb dX8_leastMarks_39 hl (by decide) rfl (fun ls hl => ?_)
            refine lv_iload_n hx hb dX8_leastMarks_41 rfl (lv_at hl 2 rfl) ?_
            refine lv_iconst (v := -1) hx hb dX8_leastMarks_42 (by decide) ?_
            refine lv_icmp_eq (tgt := 52) hx hb dX8_leastMarks_43 (by decide) (fun c14 => ?_) (fun c14 => ?_)
            · have tc14 := eqT c14
              refine lv_iload_n hx hb dX8_leastMarks_52 rfl (lv_at hl 4 rfl) ?_
              refine lv_istore_n (lv' := [(1, .int j), (4, .int x12), (0, .ref h0), (2, .int a2), (3, .int j)]) hx hb dX8_leastMarks_53 rfl hl (by decide) rfl (fun ls hl => ?_)
              refine lv_iload hx hb dX8_leastMarks_54 (lv_at hl 1 rfl) ?_
              refine lv_istore_n (lv' := [(2, .int x12), (1, .int j), (4, .int x12), (0, .ref h0), (3, .int j)]) hx hb dX8_leastMarks_56 rfl hl (by decide) rfl (fun ls hl => ?_)
              obtain ⟨x15, ex15⟩ : ∃ y : Int32, y = j + 1 := ⟨_, rfl⟩
              try (have tx15 := addI (a := j) (b := 1) (by omega) (by omega); rw [← ex15] at tx15)
              refine lv_iinc (v := x15) (lv' := [(3, .int x15), (2, .int x12), (1, .int j), (4, .int x12), (0, .ref h0)]) hx hb dX8_leastMarks_57 hl (k := 4) rfl (by rw [ex15]; rfl) (by decide) rfl (fun ls hl => ?_)
              refine lv_goto (tgt := 6) hx hb dX8_leastMarks_60 (by decide) ?_
              exact ih6 x15 x12 j _ _ _ (by omega) (by omega) (lv_sub hl [4, 2, 1, 0] rfl) hM
            · have tc14 := eqF c14
              refine lv_iload hx hb dX8_leastMarks_46 (lv_at hl 0 rfl) ?_
              refine lv_iload_n hx hb dX8_leastMarks_48 rfl (lv_at hl 3 rfl) ?_
              refine lv_icmp_ge (tgt := 57) hx hb dX8_leastMarks_49 (by decide) (fun c16 => ?_) (fun c16 => ?_)
              · have tc16 := leT c16
                obtain ⟨x17, ex17⟩ : ∃ y : Int32, y = j + 1 := ⟨_, rfl⟩
                try (have tx17 := addI (a := j) (b := 1) (by omega) (by omega); rw [← ex17] at tx17)
                refine lv_iinc (v := x17) (lv' := [(3, .int x17), (4, .int x12), (0, .ref h0), (1, .int a1), (2, .int a2)]) hx hb dX8_leastMarks_57 hl (k := 4) rfl (by rw [ex17]; rfl) (by decide) rfl (fun ls hl => ?_)
                refine lv_goto (tgt := 6) hx hb dX8_leastMarks_60 (by decide) ?_
                exact ih6 x17 a2 a1 _ _ _ (by omega) (by omega) (lv_sub hl [2, 3, 4, 0] rfl) hM
              · have tc16 := leF c16
                refine lv_iload_n hx hb dX8_leastMarks_52 rfl (lv_at hl 4 rfl) ?_
                refine lv_istore_n (lv' := [(1, .int j), (4, .int x12), (0, .ref h0), (2, .int a2), (3, .int j)]) hx hb dX8_leastMarks_53 rfl hl (by decide) rfl (fun ls hl => ?_)
                refine lv_iload hx hb dX8_leastMarks_54 (lv_at hl 1 rfl) ?_
                refine lv_istore_n (lv' := [(2, .int x12), (1, .int j), (4, .int x12), (0, .ref h0), (3, .int j)]) hx hb dX8_leastMarks_56 rfl hl (by decide) rfl (fun ls hl => ?_)
                obtain ⟨x18, ex18⟩ : ∃ y : Int32, y = j + 1 := ⟨_, rfl⟩
                try (have tx18 := addI (a := j) (b := 1) (by omega) (by omega); rw [← ex18] at tx18)
                refine lv_iinc (v := x18) (lv' := [(3, .int x18), (2, .int x12), (1, .int j), (4, .int x12), (0, .ref h0)]) hx hb dX8_leastMarks_57 hl (k := 4) rfl (by rw [ex18]; rfl) (by decide) rfl (fun ls hl => ?_)
                refine lv_goto (tgt := 6) hx hb dX8_leastMarks_60 (by decide) ?_
                exact ih6 x18 x12 j _ _ _ (by omega) (by omega) (lv_sub hl [4, 2, 1, 0] rfl) hM
          · have tc8 := eqF c8
            refine lv_goto (tgt := 57) hx hb dX8_leastMarks_32 (by decide) ?_
            obtain ⟨x19, ex19⟩ : ∃ y : Int32, y = j + 1 := ⟨_, rfl⟩
            try (have tx19 := addI (a := j) (b := 1) (by omega) (by omega); rw [← ex19] at tx19)
            refine lv_iinc (v := x19) (lv' := [(3, .int x19), (0, .ref h0), (1, .int a1), (2, .int a2)]) hx hb dX8_leastMarks_57 hl (k := 3) rfl (by rw [ex19]; rfl) (by decide) rfl (fun ls hl => ?_)
            refine lv_goto (tgt := 6) hx hb dX8_leastMarks_60 (by decide) ?_
            exact ih6 x19 a2 a1 _ _ _ (by omega) (by omega) (lv_sub hl [1, 2, 3, 0] rfl) hM
  exact loop6 (((256 - (1 : Int32).toInt).toNat) + 1) 1 0 (-1) _ _ _ (by omega) (by omega) (lv_sub hl [3, 2, 1, 0] rfl) hM
set_option maxHeartbeats 4000000 in
set_option maxRecDepth 100000 in
theorem c_X8_noteShared (l : Launch) (D : gD) (H0 : Heap) (S : Mem) (kc ns : Nat) (h0 : Nat) (i0 : Int32) {u : Nat} {tl : Int} {rho : Nat} (hI : CI x0 u tl rho S) (kh0 : mK S h0 = 9) : Met l yX8_noteShared (wsU yX8_noteShared cX8_noteShared 3 none) ({ frames := 0, cells := 0, slots := 0, locals := 0 } : Room) (mP D H0 S kc ns [.ref h0, .int i0]) (mQ D H0 gV (fun r S1 k1 n1 => kc = k1 ∧ ns = n1 ∧ fEq S S1 ∧ True)) 0 0 (mF H0) := by
  refine r_met (own := RX8) (by decide +kernel) rfl (Nat.le_of_ble_eq_true rfl) ?_
  intro p e s m args below meth c C hr hlk hnm H ls hl hM
  obtain ⟨hx, hb, hml, hown, hts, -, -⟩ := id C
  have hl : lv_has ls 3 [(0, .ref h0), (1, .int i0)] := hl
  have hI0 := hI
  have hF : fEq S S := fEq.rf
  have t_0 : (0 : Int32).toInt = 0 := by decide
  have t_1 : (1 : Int32).toInt = 1 := by decide
  have t_255 : (255 : Int32).toInt = 255 := by decide
  refine lv_iload_n hx hb dX8_noteShared_0 rfl (lv_at hl 1 rfl) ?_
  refine lv_if_lt (tgt := 20) hx hb dX8_noteShared_1 (by decide) (fun c1 => ?_) (fun c1 => ?_)
  · have tc1 := ltT c1
    exact r_retV C hr hlk hM (⟨rfl, rfl, hF, trivial⟩) dX8_noteShared_20
  · have tc1 := ltF c1
    refine lv_iload_n hx hb dX8_noteShared_4 rfl (lv_at hl 1 rfl) ?_
    refine lv_sipush (v := 255) hx hb dX8_noteShared_5 (by decide) ?_
    refine lv_icmp_gt (tgt := 20) hx hb dX8_noteShared_8 (by decide) (fun c2 => ?_) (fun c2 => ?_)
    · have tc2 := ltT c2
      exact r_retV C hr hlk hM (⟨rfl, rfl, hF, trivial⟩) dX8_noteShared_20
    · have tc2 := ltF c2
      refine lv_aload_n hx hb dX8_noteShared_11 rfl (lv_at hl 0 rfl) ?_
      obtain ⟨q3, eq3, kq3, nq3⟩ := TI.nn hI.1 (ci := 8) (k := 1) kh0
      refine r_get (ci := 8) (k := 1) (v := .ref q3) C hM kh0 f_X8_17 (congrArg va_rf eq3) dX8_noteShared_12 ?_
      refine lv_iload_n hx hb dX8_noteShared_15 rfl (lv_at hl 1 rfl) ?_
      refine r_zald C hM kq3 (inI (by omega) (by rw [nq3 (by decide)]; show _ < (256 : Int); omega)) dX8_noteShared_16 ?_
      refine lv_topi (fun x4 ex4 => ?_)
      refine lv_if_eq (tgt := 21) hx hb dX8_noteShared_17 (by decide) (fun c5 => ?_) (fun c5 => ?_)
      · have tc5 := eqT c5
        refine lv_iload_n hx hb dX8_noteShared_21 rfl (lv_at hl 1 rfl) ?_
        refine lv_istore_n (lv' := [(2, .int i0), (0, .ref h0), (1, .int i0)]) hx hb dX8_noteShared_22 rfl hl (by decide) rfl (fun ls hl => ?_)
        have hFa23 := hF
        have loop23 : ∀ (fu : Nat) (j : Int32) (Sa : Mem) (H : Heap) (locs : List Loc) (ls : Array Slot), (fEq S Sa) → (0 ≤ j.toInt ∧ j.toInt ≤ 255) → j.toInt.toNat < fu → lv_has ls 3 [(0, .ref h0), (1, .int i0), (2, .int j)] → mH D H0 Sa kc ns H locs → W p l e ({ frames := 0, cells := 0, slots := 0, locals := 0 } : Room) s m args below meth c H locs 0 0 (MQ below (mQ D H0 gV (fun r S1 k1 n1 => kc = k1 ∧ ns = n1 ∧ fEq S S1 ∧ True)) args s 0 0 (mF H0)) (F0 m 23 ls []) := by
          intro fu
          induction fu with
          | zero => intro j Sa H locs ls h23_0 h23_1 hfu; exact absurd hfu (by omega)
          | succ fu ih23 =>
            intro j Sa H locs ls h23_0 h23_1 hfu hl hM
            have hF := h23_0
            have hI := hI0.fe hF
            have kh0 : mK Sa h0 = 9 := (congrFun (hF.1.trans hFa23.1.symm) h0).trans kh0
            refine lv_iload_n hx hb dX8_noteShared_23 rfl (lv_at hl 2 rfl) ?_
            refine lv_if_le (tgt := 43) hx hb dX8_noteShared_24 (by decide) (fun c6 => ?_) (fun c6 => ?_)
            · have tc6 := leT c6
              exact r_retV C hr hlk hM (⟨rfl, rfl, hF, trivial⟩) dX8_noteShared_43
            · have tc6 := leF c6
              refine lv_aload_n hx hb dX8_noteShared_27 rfl (lv_at hl 0 rfl) ?_
              obtain ⟨q7, eq7, kq7, nq7⟩ := TI.nn hI.1 (ci := 8) (k := 1) kh0
              refine r_get (ci := 8) (k := 1) (v := .ref q7) C hM kh0 f_X8_17 (congrArg va_rf eq7) dX8_noteShared_28 ?_
              refine lv_iload_n hx hb dX8_noteShared_31 rfl (lv_at hl 2 rfl) ?_
              refine lv_iconst (v := 1) hx hb dX8_noteShared_32 (by decide) ?_
              refine r_zast C hM kq7 (inI (by omega) (by rw [nq7 (by decide)]; show _ < (256 : Int); omega)) dX8_noteShared_33 (fun H locs hM => ?_)
              have hM : mH D H0 (qI Sa q7 j.toNatClampNeg (vp_nar .boolean 1)) kc ns H locs := hM
              have hI := hI.fe (fEq.AI (S := Sa) (a := q7) (i := j.toNatClampNeg) (v := (vp_nar .boolean 1)))
              have hF := hF.trans (fEq.AI (S := Sa) (a := q7) (i := j.toNatClampNeg) (v := (vp_nar .boolean 1)))
              refine lv_iload_n hx hb dX8_noteShared_34 rfl (lv_at hl 2 rfl) ?_
              refine lv_iconst (v := 1) hx hb dX8_noteShared_35 (by decide) ?_
              refine lv_isub hx hb dX8_noteShared_36 ?_
              refine lv_topi (fun x8 ex8 => ?_)
              try (have tx8 := subI (a := j) (b := 1) (by omega) (by omega); rw [← ex8] at tx8)
              refine lv_iload_n hx hb dX8_noteShared_37 rfl (lv_at hl 1 rfl) ?_
              refine lv_iand hx hb dX8_noteShared_38 ?_
              refine lv_topi (fun x9 ex9 => ?_)
              have t9 := andI (a := j - 1) (b := i0) (by rw [subI (by omega) (by omega)]; omega)
              have t91 := subI (a := j) (b := 1) (by omega) (by omega)
              have t92 : x9.toInt ≤ j.toInt - 1 ∧ 0 ≤ x9.toInt := by subst_vars; omega
              refine lv_istore_n (lv' := [(2, .int x9), (0, .ref h0), (1, .int i0)]) hx hb dX8_noteShared_39 rfl hl (by decide) rfl (fun ls hl => ?_)
              refine lv_goto (tgt := 23) hx hb dX8_noteShared_40 (by decide) ?_
              exact ih23 x9 (qI Sa q7 j.toNatClampNeg (vp_nar .boolean 1)) _ _ _ (hF) (by omega) (by omega) (lv_sub hl [1, 2, 0] rfl) hM
        exact loop23 ((i0.toInt.toNat) + 1) i0 S _ _ _ (hF) (by omega) (by omega) (lv_sub hl [1, 2, 0] rfl) hM
      · have tc5 := eqF c5
        exact r_retV C hr hlk hM (⟨rfl, rfl, hF, trivial⟩) dX8_noteShared_20
set_option maxHeartbeats 4000000 in
set_option maxRecDepth 100000 in
theorem c_X8_dropAll (l : Launch) (D : gD) (H0 : Heap) (S : Mem) (kc ns : Nat) (h0 : Nat) {u : Nat} {tl : Int} {rho : Nat} (hI : CI x0 u tl rho S) (kh0 : mK S h0 = 9) : Met l yX8_dropAll (wsU yX8_dropAll cX8_dropAll 2 none) ({ frames := 0, cells := 0, slots := 0, locals := 0 } : Room) (mP D H0 S kc ns [.ref h0]) (mQ D H0 gV (fun r S1 k1 n1 => kc = k1 ∧ ns = n1 ∧ mK S1 = mK S ∧ CI x0 u tl rho S1 ∧ True)) 0 0 (mF H0) := by
  refine r_met (own := RX8) (by decide +kernel) rfl (Nat.le_of_ble_eq_true rfl) ?_
  intro p e s m args below meth c C hr hlk hnm H ls hl hM
  obtain ⟨hx, hb, hml, hown, hts, -, -⟩ := id C
  have hl : lv_has ls 2 [(0, .ref h0)] := hl
  have hI0 := hI
  have hK9 : mK S = mK S := rfl
  have t_0 : (0 : Int32).toInt = 0 := by decide
  have t_1 : (1 : Int32).toInt = 1 := by decide
  have t_255 : (255 : Int32).toInt = 255 := by decide
  refine lv_aload_n hx hb dX8_dropAll_0 rfl (lv_at hl 0 rfl) ?_
  refine lv_iconst (v := 0) hx hb dX8_dropAll_1 (by decide) ?_
  refine r_put C hM kh0 f_X8_21 (fun r h => by cases h; rfl) rfl rfl (mPut.I (ci := 8) (k := 2) rfl) dX8_dropAll_2 (fun H locs hM => ?_)
  have hM : mH D H0 (pI S 802 h0 0) kc ns H locs := hM
  have hI := CI.p802 (a := h0) (v := 0) hI ⟨by omega, by omega⟩
  refine lv_aload_n hx hb dX8_dropAll_5 rfl (lv_at hl 0 rfl) ?_
  refine lv_iconst (v := 0) hx hb dX8_dropAll_6 (by decide) ?_
  refine r_put C hM kh0 f_X8_25 (fun r h => by cases h; rfl) rfl rfl (mPut.I (ci := 8) (k := 3) rfl) dX8_dropAll_7 (fun H locs hM => ?_)
  have hM : mH D H0 (pI (pI S 802 h0 0) 803 h0 0) kc ns H locs := hM
  have hI := hI.fe (fEq.I (S := (pI S 802 h0 0)) (f := 803) (a := h0) (v := 0) (by decide))
  refine lv_iconst (v := 0) hx hb dX8_dropAll_10 (by decide) ?_
  refine lv_istore_n (lv' := [(1, .int 0), (0, .ref h0)]) hx hb dX8_dropAll_11 rfl hl (by decide) rfl (fun ls hl => ?_)
  have loop12 : ∀ (fu : Nat) (j : Int32) (Sa : Mem) (H : Heap) (locs : List Loc) (ls : Array Slot), (mK Sa = mK S) → (CI x0 u tl rho Sa) → (0 ≤ j.toInt) → (256 - j.toInt).toNat < fu → lv_has ls 2 [(0, .ref h0), (1, .int j)] → mH D H0 Sa kc ns H locs → W p l e ({ frames := 0, cells := 0, slots := 0, locals := 0 } : Room) s m args below meth c H locs 0 0 (MQ below (mQ D H0 gV (fun r S1 k1 n1 => kc = k1 ∧ ns = n1 ∧ mK S1 = mK S ∧ CI x0 u tl rho S1 ∧ True)) args s 0 0 (mF H0)) (F0 m 12 ls []) := by
    intro fu
    induction fu with
    | zero => intro j Sa H locs ls h12_0 h12_1 h12_2 hfu; exact absurd hfu (by omega)
    | succ fu ih12 =>
      intro j Sa H locs ls h12_0 h12_1 h12_2 hfu hl hM
      have hK9 := h12_0
      have hI := h12_1
      have kh0 : mK Sa h0 = 9 := (congrFun (hK9) h0).trans kh0
      refine lv_iload_n hx hb dX8_dropAll_12 rfl (lv_at hl 1 rfl) ?_
      refine lv_sipush (v := 255) hx hb dX8_dropAll_13 (by decide) ?_
      refine lv_icmp_gt (tgt := 32) hx hb dX8_dropAll_16 (by decide) (fun c1 => ?_) (fun c1 => ?_)
      · have tc1 := ltT c1
        exact r_retV C hr hlk hM (⟨rfl, rfl, hK9, hI, trivial⟩) dX8_dropAll_32
      · have tc1 := ltF c1
        refine lv_aload_n hx hb dX8_dropAll_19 rfl (lv_at hl 0 rfl) ?_
        obtain ⟨q2, eq2, kq2, nq2⟩ := TI.nn hI.1 (ci := 8) (k := 1) kh0
        refine r_get (ci := 8) (k := 1) (v := .ref q2) C hM kh0 f_X8_17 (congrArg va_rf eq2) dX8_dropAll_20 ?_
        refine lv_iload_n hx hb dX8_dropAll_23 rfl (lv_at hl 1 rfl) ?_
        refine lv_iconst (v := 0) hx hb dX8_dropAll_24 (by decide) ?_
        refine r_zast C hM kq2 (inI (by omega) (by rw [nq2 (by decide)]; show _ < (256 : Int); omega)) dX8_dropAll_25 (fun H locs hM => ?_)
        have hM : mH D H0 (qI Sa q2 j.toNatClampNeg (vp_nar .boolean 0)) kc ns H locs := hM
        have hI := hI.fe (fEq.AI (S := Sa) (a := q2) (i := j.toNatClampNeg) (v := (vp_nar .boolean 0)))
        obtain ⟨x3, ex3⟩ : ∃ y : Int32, y = j + 1 := ⟨_, rfl⟩
        try (have tx3 := addI (a := j) (b := 1) (by omega) (by omega); rw [← ex3] at tx3)
        refine lv_iinc (v := x3) (lv' := [(1, .int x3), (0, .ref h0)]) hx hb dX8_dropAll_26 hl (k := 1) rfl (by rw [ex3]; rfl) (by decide) rfl (fun ls hl => ?_)
        refine lv_goto (tgt := 12) hx hb dX8_dropAll_29 (by decide) ?_
        exact ih12 x3 (qI Sa q2 j.toNatClampNeg (vp_nar .boolean 0)) _ _ _ (hK9) (hI) (by omega) (by omega) (lv_sub hl [1, 0] rfl) hM
  exact loop12 (((256 - (0 : Int32).toInt).toNat) + 1) 0 (pI (pI S 802 h0 0) 803 h0 0) _ _ _ (hK9) (hI) (by omega) (by omega) (lv_sub hl [1, 0] rfl) hM
set_option maxHeartbeats 4000000 in
set_option maxRecDepth 100000 in
theorem c_X8_add (l : Launch) (D : gD) (H0 : Heap) (S : Mem) (kc ns : Nat) (h0 h1 : Nat) {u : Nat} {tl : Int} {rho : Nat} (hI : CI x0 u tl rho S) (kh0 : mK S h0 = 9) (kh1 : mK S h1 = 6) : Met l yX8_add (wsU yX8_add cX8_add 6 none) ({ frames := 3, cells := 0, slots := 0, locals := 64 } : Room) (mP D H0 S kc ns [.ref h0, .ref h1]) (mQ D H0 gV (fun r S1 k1 n1 => kc = k1 ∧ ns = n1 ∧ mK S1 = mK S ∧ CI x0 u tl rho S1 ∧ True)) 0 0 (mF H0) := by
  refine r_met (own := RX8) (by decide +kernel) rfl (Nat.le_of_ble_eq_true rfl) ?_
  intro p e s m args below meth c C hr hlk hnm H ls hl hM
  obtain ⟨hx, hb, hml, hown, hts, -, -⟩ := id C
  have hl : lv_has ls 6 [(0, .ref h0), (1, .ref h1)] := hl
  have hI0 := hI
  have hK9 : mK S = mK S := rfl
  have t_0 : (0 : Int32).toInt = 0 := by decide
  have t_1 : (1 : Int32).toInt = 1 := by decide
  have t_6 : (6 : Int32).toInt = 6 := by decide
  have t_255 : (255 : Int32).toInt = 255 := by decide
  refine lv_aload_n hx hb dX8_add_0 rfl (lv_at hl 0 rfl) ?_
  refine r_get (ci := 8) (k := 2) (v := .int (mI S 802 h0)) C hM kh0 f_X8_21 rfl dX8_add_1 ?_
  refine lv_topi (fun x1 ex1 => ?_)
  have fx1 := NI.f802 hI.2 kh0
  rw [← ex1] at fx1
  refine lv_bipush (v := 6) hx hb dX8_add_4 (by decide) ?_
  refine lv_icmp_lt (tgt := 10) hx hb dX8_add_6 (by decide) (fun c2 => ?_) (fun c2 => ?_)
  · have tc2 := ltT c2
    refine lv_aload_n hx hb dX8_add_10 rfl (lv_at hl 0 rfl) ?_
    refine r_V (As := []) (rest := []) (ci := 8) C hM (c_X8_first l D H0 S kc ns h0 hI kh0) i_X8_first m_X8_28 kh0 rfl rfl rfl hl.1 rfl (Nat.le_of_ble_eq_true rfl) ⟨by decide, by decide⟩ ⟨by decide, by decide⟩ dX8_add_11 (fun r6 S3 k4 n5 H locs p7 hM => ?_)
    obtain ⟨rfl, rfl, rfl, kr6⟩ := p7
    refine W.eq (g2 := F0 m 14 ls [va_rf r6]) rfl ?_
    refine lv_astore_nQ (lv' := [(2, va_rf r6), (0, .ref h0), (1, .ref h1)]) hx hb dX8_add_14 rfl hl (by decide) rfl (fun ls hl => ?_)
    refine lv_aload_n hx hb dX8_add_15 rfl (lv_at hl 1 rfl) ?_
    refine lv_aload_nQ hx hb dX8_add_16 rfl (lv_at hl 0 rfl) ?_
    cases r6 with
    | none =>
      refine lv_ifnonnullN hx hb dX8_add_17 ?_
      refine lv_sipush (v := 255) hx hb dX8_add_20 (by decide) ?_
      refine lv_goto (tgt := 36) hx hb dX8_add_23 (by decide) ?_
      refine r_put C hM kh0 f_X8_25 (fun r h => by cases h; rfl) rfl rfl (mPut.I (ci := 8) (k := 3) rfl) dX8_add_36 (fun H locs hM => ?_)
      have hM : mH D H0 (pI S 803 h0 255) kc ns H locs := hM
      have hI := hI.fe (fEq.I (S := S) (f := 803) (a := h0) (v := 255) (by decide))
      refine lv_aload_n hx hb dX8_add_39 rfl (lv_at hl 1 rfl) ?_
      obtain ⟨q9, eq9, kq9, nq9⟩ := TI.nn hI.1 (ci := 8) (k := 0) kh0
      refine r_get (ci := 8) (k := 0) (v := .ref q9) C hM kh0 f_X8_11 (congrArg va_rf eq9) dX8_add_40 ?_
      refine lv_aload_n hx hb dX8_add_43 rfl (lv_at hl 1 rfl) ?_
      refine r_get (ci := 8) (k := 2) (v := .int (mI (pI S 803 h0 255) 802 h0)) C hM kh0 f_X8_21 rfl dX8_add_44 ?_
      refine lv_topi (fun x10 ex10 => ?_)
      have fx10 := NI.f802 hI.2 kh0
      rw [← ex10] at fx10
      have gx10 : x10 = x1 := ex10.trans (ex1.symm)
      have hx10 : x10.toInt = x1.toInt := by rw [gx10]
      refine lv_aload_n hx hb dX8_add_47 rfl (lv_at hl 2 rfl) ?_
      refine r_aast (t := 0) (ci := 5) (o := (some h1)) C hM kq9 (by decide) rfl rfl (fun q h => by cases h; exact kh1) (inI (by omega) (by rw [nq9 (by decide)]; show _ < (6 : Int); omega)) dX8_add_48 (fun H locs hM => ?_)
      have hM : mH D H0 (qR (pI S 803 h0 255) q9 x10.toNatClampNeg (some h1)) kc ns H locs := hM
      have hI := CI.putA (i := x10.toNatClampNeg) (o := (some h1)) hI kq9 (fun q h => by cases h; exact kh1)
      refine lv_aload_n hx hb dX8_add_49 rfl (lv_at hl 1 rfl) ?_
      refine lv_dup hx hb dX8_add_50 rfl ?_
      refine r_get (ci := 8) (k := 2) (v := .int (mI (qR (pI S 803 h0 255) q9 x10.toNatClampNeg (some h1)) 802 h0)) C hM kh0 f_X8_21 rfl dX8_add_51 ?_
      refine lv_topi (fun x11 ex11 => ?_)
      have fx11 := NI.f802 hI.2 kh0
      rw [← ex11] at fx11
      have gx11 : x11 = x1 := ex11.trans (ex1.symm)
      have hx11 : x11.toInt = x1.toInt := by rw [gx11]
      refine lv_iconst (v := 1) hx hb dX8_add_54 (by decide) ?_
      refine lv_iadd hx hb dX8_add_55 ?_
      refine lv_topi (fun x12 ex12 => ?_)
      try (have tx12 := addI (a := x11) (b := 1) (by omega) (by omega); rw [← ex12] at tx12)
      refine r_put C hM kh0 f_X8_21 (fun r h => by cases h; rfl) rfl rfl (mPut.I (ci := 8) (k := 2) rfl) dX8_add_56 (fun H locs hM => ?_)
      have hM : mH D H0 (pI (qR (pI S 803 h0 255) q9 x10.toNatClampNeg (some h1)) 802 h0 x12) kc ns H locs := hM
      have hI := CI.p802 (a := h0) (v := x12) hI ⟨by omega, by omega⟩
      refine lv_aload_n hx hb dX8_add_59 rfl (lv_at hl 2 rfl) ?_
      obtain ⟨q13, eq13, kq13, nq13⟩ := TI.nn hI.1 (ci := 5) (k := 0) kh1
      refine r_getN (ci := 5) (k := 0) (v := .ref q13) C hM kh1 f_X8_36 (congrArg va_rf eq13) dX8_add_60 ?_
      refine lv_astore_n (lv' := [(3, .ref q13), (2, .null), (0, .ref h0), (1, .ref h1)]) hx hb dX8_add_63 rfl hl (by decide) rfl (fun ls hl => ?_)
      refine lv_iconst (v := 0) hx hb dX8_add_64 (by decide) ?_
      refine lv_istore (lv' := [(4, .int 0), (3, .ref q13), (2, .null), (0, .ref h0), (1, .ref h1)]) hx hb dX8_add_65 hl (by decide) rfl (fun ls hl => ?_)
      have loop67 : ∀ (fu : Nat) (j : Int32) (Sa : Mem) (H : Heap) (locs : List Loc) (ls : Array Slot), (mK Sa = mK S) → (CI x0 u tl rho Sa) → (0 ≤ j.toInt) → (60 - j.toInt).toNat < fu → lv_has ls 6 [(0, .ref h0), (1, .ref h1), (3, .ref q13), (4, .int j)] → mH D H0 Sa kc ns H locs → W p l e ({ frames := 3, cells := 0, slots := 0, locals := 64 } : Room) s m args below meth c H locs 0 0 (MQ below (mQ D H0 gV (fun r S1 k1 n1 => kc = k1 ∧ ns = n1 ∧ mK S1 = mK S ∧ CI x0 u tl rho S1 ∧ True)) args s 0 0 (mF H0)) (F0 m 67 ls []) := by
        intro fu
        induction fu with
        | zero => intro j Sa H locs ls h67_0 h67_1 h67_2 hfu; exact absurd hfu (by omega)
        | succ fu ih67 =>
          intro j Sa H locs ls h67_0 h67_1 h67_2 hfu hl hM
          have hK9 := h67_0
          have hI := h67_1
          have kh0 : mK Sa h0 = 9 := (congrFun (hK9) h0).trans kh0
          have kh1 : mK Sa h1 = 6 := (congrFun (hK9) h1).trans kh1
          have kq13 : mK Sa q13 = 5 := (congrFun (hK9) q13).trans kq13
          refine lv_iload hx hb dX8_add_67 (lv_at hl 3 rfl) ?_
          refine lv_aload_n hx hb dX8_add_69 rfl (lv_at hl 2 rfl) ?_
          refine r_getN (ci := 4) (k := 1) (v := .int (mI Sa 401 q13)) C hM kq13 f_X8_40 rfl dX8_add_70 ?_
          refine lv_topi (fun x14 ex14 => ?_)
          have fx14 := NI.f401 hI.2 kq13
          rw [← ex14] at fx14
          refine lv_icmp_ge (tgt := 114) hx hb dX8_add_73 (by decide) (fun c15 => ?_) (fun c15 => ?_)
          · have tc15 := leT c15
            exact r_retV C hr hlk hM (⟨rfl, rfl, hK9, hI, trivial⟩) dX8_add_114
          · have tc15 := leF c15
            refine lv_aload_n hx hb dX8_add_76 rfl (lv_at hl 2 rfl) ?_
            refine lv_iload hx hb dX8_add_77 (lv_at hl 3 rfl) ?_
            refine r_VN (As := [.int j]) (rest := []) (ci := 4) C hM (c_X4_at l D H0 Sa kc ns q13 j hI id kq13) i_X4_at m_X8_43 kq13 rfl rfl rfl hl.1 rfl (Nat.le_of_ble_eq_true rfl) ⟨by decide, by decide⟩ ⟨by decide, by decide⟩ dX8_add_79 (fun r19 S16 k17 n18 H locs p20 hM => ?_)
            obtain ⟨rfl, rfl, rfl, kr19⟩ := p20
            refine W.eq (g2 := F0 m 82 ls [va_rf r19]) rfl ?_
            refine lv_astoreQ (lv' := [(5, va_rf r19), (0, .ref h0), (1, .ref h1), (3, .ref q13), (4, .int j)]) hx hb dX8_add_82 hl (by decide) rfl (fun ls hl => ?_)
            refine lv_aloadQ hx hb dX8_add_84 (lv_at hl 0 rfl) ?_
            cases r19 with
            | none =>
              refine lv_ifnullN (tgt := 108) hx hb dX8_add_86 (by decide) ?_
              obtain ⟨x22, ex22⟩ : ∃ y : Int32, y = j + 1 := ⟨_, rfl⟩
              try (have tx22 := addI (a := j) (b := 1) (by omega) (by omega); rw [← ex22] at tx22)
              refine lv_iinc (v := x22) (lv' := [(4, .int x22), (5, .null), (0, .ref h0), (1, .ref h1), (3, .ref q13)]) hx hb dX8_add_108 hl (k := 4) rfl (by rw [ex22]; rfl) (by decide) rfl (fun ls hl => ?_)
              refine lv_goto (tgt := 67) hx hb dX8_add_111 (by decide) ?_
              exact ih67 x22 Sa _ _ _ (hK9) (hI) (by omega) (by omega) (lv_sub hl [2, 3, 4, 0] rfl) hM
            | some q21 =>
              have kq21 : mK Sa q21 = 6 := kr19 q21 rfl
              refine lv_ifnull hx hb dX8_add_86 ?_
              refine lv_iload hx hb dX8_add_89 (lv_at hl 4 rfl) ?_
              refine lv_aload_n hx hb dX8_add_91 rfl (lv_at hl 2 rfl) ?_
              refine r_getN (ci := 5) (k := 1) (v := .int (mI Sa 501 h1)) C hM kh1 f_X8_47 rfl dX8_add_92 ?_
              refine lv_topi (fun x23 ex23 => ?_)
              have fx23 := NI.f501 hI.2 kh1
              rw [← ex23] at fx23
              refine lv_icmp_eq (tgt := 108) hx hb dX8_add_95 (by decide) (fun c24 => ?_) (fun c24 => ?_)
              · have tc24 := eqT c24
                obtain ⟨x25, ex25⟩ : ∃ y : Int32, y = j + 1 := ⟨_, rfl⟩
                try (have tx25 := addI (a := j) (b := 1) (by omega) (by omega); rw [← ex25] at tx25)
                refine lv_iinc (v := x25) (lv' := [(4, .int x25), (5, .ref q21), (0, .ref h0), (1, .ref h1), (3, .ref q13)]) hx hb dX8_add_108 hl (k := 4) rfl (by rw [ex25]; rfl) (by decide) rfl (fun ls hl => ?_)
                refine lv_goto (tgt := 67) hx hb dX8_add_111 (by decide) ?_
                exact ih67 x25 Sa _ _ _ (hK9) (hI) (by omega) (by omega) (lv_sub hl [2, 3, 4, 0] rfl) hM
              · have tc24 := eqF c24
                refine lv_aload_n hx hb dX8_add_98 rfl (lv_at hl 1 rfl) ?_
                refine lv_aload hx hb dX8_add_99 (lv_at hl 0 rfl) ?_
                refine lv_aload_n hx hb dX8_add_101 rfl (lv_at hl 2 rfl) ?_
                refine r_VN (As := [.ref h1]) (rest := [.ref h0]) (ci := 5) C hM (c_X5_marksSharedWith l D H0 Sa kc ns q21 h1 hI kq21 kh1) i_X5_marksSharedWith m_X8_32 kq21 rfl rfl rfl hl.1 rfl (Nat.le_of_ble_eq_true rfl) ⟨by decide, by decide⟩ ⟨by decide, by decide⟩ dX8_add_102 (fun x29 S26 k27 n28 H locs p30 hM => ?_)
                obtain ⟨rfl, rfl, rfl, hx29⟩ := p30
                refine W.eq (g2 := F0 m 105 ls [.int x29, .ref h0]) rfl ?_
                refine r_V (As := [.int x29]) (rest := []) (ci := 8) C hM (c_X8_noteShared l D H0 Sa kc ns h0 x29 hI kh0) i_X8_noteShared m_X8_50 kh0 rfl rfl rfl hl.1 rfl (Nat.le_of_ble_eq_true rfl) ⟨by decide, by decide⟩ ⟨by decide, by decide⟩ dX8_add_105 (fun u34 S31 k32 n33 H locs p35 hM => ?_)
                obtain ⟨rfl, rfl, hf9, hu34⟩ := p35
                have hK9 := hf9.1.trans hK9
                have hI := hI.fe hf9
                have kq21 : mK S31 q21 = 6 := (congrFun (hf9.1) q21).trans kq21
                have kh0 : mK S31 h0 = 9 := (congrFun (hf9.1) h0).trans kh0
                have kh1 : mK S31 h1 = 6 := (congrFun (hf9.1) h1).trans kh1
                have kq13 : mK S31 q13 = 5 := (congrFun (hf9.1) q13).trans kq13
                refine W.eq (g2 := F0 m 108 ls []) rfl ?_
                obtain ⟨x36, ex36⟩ : ∃ y : Int32, y = j + 1 := ⟨_, rfl⟩
                try (have tx36 := addI (a := j) (b := 1) (by omega) (by omega); rw [← ex36] at tx36)
                refine lv_iinc (v := x36) (lv' := [(4, .int x36), (5, .ref q21), (0, .ref h0), (1, .ref h1), (3, .ref q13)]) hx hb dX8_add_108 hl (k := 4) rfl (by rw [ex36]; rfl) (by decide) rfl (fun ls hl => ?_)
                refine lv_goto (tgt := 67) hx hb dX8_add_111 (by decide) ?_
                exact ih67 x36 S31 _ _ _ (hK9) (hI) (by omega) (by omega) (lv_sub hl [2, 3, 4, 0] rfl) hM
      exact loop67 (((60 - (0 : Int32).toInt).toNat) + 1) 0 (pI (qR (pI S 803 h0 255) q9 x10.toNatClampNeg (some h1)) 802 h0 x12) _ _ _ (hK9) (hI) (by omega) (by omega) (lv_sub hl [3, 4, 1, 0] rfl) hM
    | some q8 =>
      have kq8 : mK S q8 = 6 := kr6 q8 rfl
      refine lv_ifnonnull (tgt := 26) hx hb dX8_add_17 (by decide) ?_
      refine lv_aload_n hx hb dX8_add_26 rfl (lv_at hl 1 rfl) ?_
      refine r_get (ci := 8) (k := 3) (v := .int (mI S 803 h0)) C hM kh0 f_X8_25 rfl dX8_add_27 ?_
      refine lv_topi (fun x37 ex37 => ?_)
      refine lv_aload_n hx hb dX8_add_30 rfl (lv_at hl 0 rfl) ?_
      refine lv_aload_n hx hb dX8_add_31 rfl (lv_at hl 2 rfl) ?_
      refine r_VN (As := [.ref h1]) (rest := [.int x37, .ref h0]) (ci := 5) C hM (c_X5_marksSharedWith l D H0 S kc ns q8 h1 hI kq8 kh1) i_X5_marksSharedWith m_X8_32 kq8 rfl rfl rfl hl.1 rfl (Nat.le_of_ble_eq_true rfl) ⟨by decide, by decide⟩ ⟨by decide, by decide⟩ dX8_add_32 (fun x41 S38 k39 n40 H locs p42 hM => ?_)
      obtain ⟨rfl, rfl, rfl, hx41⟩ := p42
      refine W.eq (g2 := F0 m 35 ls [.int x41, .int x37, .ref h0]) rfl ?_
      refine lv_iand hx hb dX8_add_35 ?_
      refine lv_topi (fun x43 ex43 => ?_)
      refine r_put C hM kh0 f_X8_25 (fun r h => by cases h; rfl) rfl rfl (mPut.I (ci := 8) (k := 3) rfl) dX8_add_36 (fun H locs hM => ?_)
      have hM : mH D H0 (pI S 803 h0 x43) kc ns H locs := hM
      have hI := hI.fe (fEq.I (S := S) (f := 803) (a := h0) (v := x43) (by decide))
      refine lv_aload_n hx hb dX8_add_39 rfl (lv_at hl 1 rfl) ?_
      obtain ⟨q44, eq44, kq44, nq44⟩ := TI.nn hI.1 (ci := 8) (k := 0) kh0
      refine r_get (ci := 8) (k := 0) (v := .ref q44) C hM kh0 f_X8_11 (congrArg va_rf eq44) dX8_add_40 ?_
      refine lv_aload_n hx hb dX8_add_43 rfl (lv_at hl 1 rfl) ?_
      refine r_get (ci := 8) (k := 2) (v := .int (mI (pI S 803 h0 x43) 802 h0)) C hM kh0 f_X8_21 rfl dX8_add_44 ?_
      refine lv_topi (fun x45 ex45 => ?_)
      have fx45 := NI.f802 hI.2 kh0
      rw [← ex45] at fx45
      have gx45 : x45 = x1 := ex45.trans (ex1.symm)
      have hx45 : x45.toInt = x1.toInt := by rw [gx45]
      refine lv_aload_n hx hb dX8_add_47 rfl (lv_at hl 2 rfl) ?_
      refine r_aast (t := 0) (ci := 5) (o := (some h1)) C hM kq44 (by decide) rfl rfl (fun q h => by cases h; exact kh1) (inI (by omega) (by rw [nq44 (by decide)]; show _ < (6 : Int); omega)) dX8_add_48 (fun H locs hM => ?_)
      have hM : mH D H0 (qR (pI S 803 h0 x43) q44 x45.toNatClampNeg (some h1)) kc ns H locs := hM
      have hI := CI.putA (i := x45.toNatClampNeg) (o := (some h1)) hI kq44 (fun q h => by cases h; exact kh1)
      refine lv_aload_n hx hb dX8_add_49 rfl (lv_at hl 1 rfl) ?_
      refine lv_dup hx hb dX8_add_50 rfl ?_
      refine r_get (ci := 8) (k := 2) (v := .int (mI (qR (pI S 803 h0 x43) q44 x45.toNatClampNeg (some h1)) 802 h0)) C hM kh0 f_X8_21 rfl dX8_add_51 ?_
      refine lv_topi (fun x46 ex46 => ?_)
      have fx46 := NI.f802 hI.2 kh0
      rw [← ex46] at fx46
      have gx46 : x46 = x1 := ex46.trans (ex1.symm)
      have hx46 : x46.toInt = x1.toInt := by rw [gx46]
      refine lv_iconst (v := 1) hx hb dX8_add_54 (by decide) ?_
      refine lv_iadd hx hb dX8_add_55 ?_
      refine lv_topi (fun x47 ex47 => ?_)
      try (have tx47 := addI (a := x46) (b := 1) (by omega) (by omega); rw [← ex47] at tx47)
      refine r_put C hM kh0 f_X8_21 (fun r h => by cases h; rfl) rfl rfl (mPut.I (ci := 8) (k := 2) rfl) dX8_add_56 (fun H locs hM => ?_)
      have hM : mH D H0 (pI (qR (pI S 803 h0 x43) q44 x45.toNatClampNeg (some h1)) 802 h0 x47) kc ns H locs := hM
      have hI := CI.p802 (a := h0) (v := x47) hI ⟨by omega, by omega⟩
      refine lv_aload_n hx hb dX8_add_59 rfl (lv_at hl 2 rfl) ?_
      obtain ⟨q48, eq48, kq48, nq48⟩ := TI.nn hI.1 (ci := 5) (k := 0) kh1
      refine r_getN (ci := 5) (k := 0) (v := .ref q48) C hM kh1 f_X8_36 (congrArg va_rf eq48) dX8_add_60 ?_
      refine lv_astore_n (lv' := [(3, .ref q48), (2, .ref q8), (0, .ref h0), (1, .ref h1)]) hx hb dX8_add_63 rfl hl (by decide) rfl (fun ls hl => ?_)
      refine lv_iconst (v := 0) hx hb dX8_add_64 (by decide) ?_
      refine lv_istore (lv' := [(4, .int 0), (3, .ref q48), (2, .ref q8), (0, .ref h0), (1, .ref h1)]) hx hb dX8_add_65 hl (by decide) rfl (fun ls hl => ?_)
      have loop67 : ∀ (fu : Nat) (j : Int32) (Sa : Mem) (H : Heap) (locs : List Loc) (ls : Array Slot), (mK Sa = mK S) → (CI x0 u tl rho Sa) → (0 ≤ j.toInt) → (60 - j.toInt).toNat < fu → lv_has ls 6 [(0, .ref h0), (1, .ref h1), (3, .ref q48), (4, .int j)] → mH D H0 Sa kc ns H locs → W p l e ({ frames := 3, cells := 0, slots := 0, locals := 64 } : Room) s m args below meth c H locs 0 0 (MQ below (mQ D H0 gV (fun r S1 k1 n1 => kc = k1 ∧ ns = n1 ∧ mK S1 = mK S ∧ CI x0 u tl rho S1 ∧ True)) args s 0 0 (mF H0)) (F0 m 67 ls []) := by
        intro fu
        induction fu with
        | zero => intro j Sa H locs ls h67_0 h67_1 h67_2 hfu; exact absurd hfu (by omega)
        | succ fu ih67 =>
          intro j Sa H locs ls h67_0 h67_1 h67_2 hfu hl hM
          have hK9 := h67_0
          have hI := h67_1
          have kh0 : mK Sa h0 = 9 := (congrFun (hK9) h0).trans kh0
          have kh1 : mK Sa h1 = 6 := (congrFun (hK9) h1).trans kh1
          have kq48 : mK Sa q48 = 5 := (congrFun (hK9) q48).trans kq48
          refine lv_iload hx hb dX8_add_67 (lv_at hl 3 rfl) ?_
          refine lv_aload_n hx hb dX8_add_69 rfl (lv_at hl 2 rfl) ?_
          refine r_getN (ci := 4) (k := 1) (v := .int (mI Sa 401 q48)) C hM kq48 f_X8_40 rfl dX8_add_70 ?_
          refine lv_topi (fun x49 ex49 => ?_)
          have fx49 := NI.f401 hI.2 kq48
          rw [← ex49] at fx49
          refine lv_icmp_ge (tgt := 114) hx hb dX8_add_73 (by decide) (fun c50 => ?_) (fun c50 => ?_)
          · have tc50 := leT c50
            exact r_retV C hr hlk hM (⟨rfl, rfl, hK9, hI, trivial⟩) dX8_add_114
          · have tc50 := leF c50
            refine lv_aload_n hx hb dX8_add_76 rfl (lv_at hl 2 rfl) ?_
            refine lv_iload hx hb dX8_add_77 (lv_at hl 3 rfl) ?_
            refine r_VN (As := [.int j]) (rest := []) (ci := 4) C hM (c_X4_at l D H0 Sa kc ns q48 j hI id kq48) i_X4_at m_X8_43 kq48 rfl rfl rfl hl.1 rfl (Nat.le_of_ble_eq_true rfl) ⟨by decide, by decide⟩ ⟨by decide, by decide⟩ dX8_add_79 (fun r54 S51 k52 n53 H locs p55 hM => ?_)
            obtain ⟨rfl, rfl, rfl, kr54⟩ := p55
            refine W.eq (g2 := F0 m 82 ls [va_rf r54]) rfl ?_
            refine lv_astoreQ (lv' := [(5, va_rf r54), (0, .ref h0), (1, .ref h1), (3, .ref q48), (4, .int j)]) hx hb dX8_add_82 hl (by decide) rfl (fun ls hl => ?_)
            refine lv_aloadQ hx hb dX8_add_84 (lv_at hl 0 rfl) ?_
            cases r54 with
            | none =>
              refine lv_ifnullN (tgt := 108) hx hb dX8_add_86 (by decide) ?_
              obtain ⟨x57, ex57⟩ : ∃ y : Int32, y = j + 1 := ⟨_, rfl⟩
              try (have tx57 := addI (a := j) (b := 1) (by omega) (by omega); rw [← ex57] at tx57)
              refine lv_iinc (v := x57) (lv' := [(4, .int x57), (5, .null), (0, .ref h0), (1, .ref h1), (3, .ref q48)]) hx hb dX8_add_108 hl (k := 4) rfl (by rw [ex57]; rfl) (by decide) rfl (fun ls hl => ?_)
              refine lv_goto (tgt := 67) hx hb dX8_add_111 (by decide) ?_
              exact ih67 x57 Sa _ _ _ (hK9) (hI) (by omega) (by omega) (lv_sub hl [2, 3, 4, 0] rfl) hM
            | some q56 =>
              have kq56 : mK Sa q56 = 6 := kr54 q56 rfl
              refine lv_ifnull hx hb dX8_add_86 ?_
              refine lv_iload hx hb dX8_add_89 (lv_at hl 4 rfl) ?_
              refine lv_aload_n hx hb dX8_add_91 rfl (lv_at hl 2 rfl) ?_
              refine r_getN (ci := 5) (k := 1) (v := .int (mI Sa 501 h1)) C hM kh1 f_X8_47 rfl dX8_add_92 ?_
              refine lv_topi (fun x58 ex58 => ?_)
              have fx58 := NI.f501 hI.2 kh1
              rw [← ex58] at fx58
              refine lv_icmp_eq (tgt := 108) hx hb dX8_add_95 (by decide) (fun c59 => ?_) (fun c59 => ?_)
              · have tc59 := eqT c59
                obtain ⟨x60, ex60⟩ : ∃ y : Int32, y = j + 1 := ⟨_, rfl⟩
                try (have tx60 := addI (a := j) (b := 1) (by omega) (by omega); rw [← ex60] at tx60)
                refine lv_iinc (v := x60) (lv' := [(4, .int x60), (5, .ref q56), (0, .ref h0), (1, .ref h1), (3, .ref q48)]) hx hb dX8_add_108 hl (k := 4) rfl (by rw [ex60]; rfl) (by decide) rfl (fun ls hl => ?_)
                refine lv_goto (tgt := 67) hx hb dX8_add_111 (by decide) ?_
                exact ih67 x60 Sa _ _ _ (hK9) (hI) (by omega) (by omega) (lv_sub hl [2, 3, 4, 0] rfl) hM
              · have tc59 := eqF c59
                refine lv_aload_n hx hb dX8_add_98 rfl (lv_at hl 1 rfl) ?_
                refine lv_aload hx hb dX8_add_99 (lv_at hl 0 rfl) ?_
                refine lv_aload_n hx hb dX8_add_101 rfl (lv_at hl 2 rfl) ?_
                refine r_VN (As := [.ref h1]) (rest := [.ref h0]) (ci := 5) C hM (c_X5_marksSharedWith l D H0 Sa kc ns q56 h1 hI kq56 kh1) i_X5_marksSharedWith m_X8_32 kq56 rfl rfl rfl hl.1 rfl (Nat.le_of_ble_eq_true rfl) ⟨by decide, by decide⟩ ⟨by decide, by decide⟩ dX8_add_102 (fun x64 S61 k62 n63 H locs p65 hM => ?_)
                obtain ⟨rfl, rfl, rfl, hx64⟩ := p65
                refine W.eq (g2 := F0 m 105 ls [.int x64, .ref h0]) rfl ?_
                refine r_V (As := [.int x64]) (rest := []) (ci := 8) C hM (c_X8_noteShared l D H0 Sa kc ns h0 x64 hI kh0) i_X8_noteShared m_X8_50 kh0 rfl rfl rfl hl.1 rfl (Nat.le_of_ble_eq_true rfl) ⟨by decide, by decide⟩ ⟨by decide, by decide⟩ dX8_add_105 (fun u69 S66 k67 n68 H locs p70 hM => ?_)
                obtain ⟨rfl, rfl, hf9, hu69⟩ := p70
                have hK9 := hf9.1.trans hK9
                have hI := hI.fe hf9
                have kq56 : mK S66 q56 = 6 := (congrFun (hf9.1) q56).trans kq56
                have kh0 : mK S66 h0 = 9 := (congrFun (hf9.1) h0).trans kh0
                have kh1 : mK S66 h1 = 6 := (congrFun (hf9.1) h1).trans kh1
                have kq48 : mK S66 q48 = 5 := (congrFun (hf9.1) q48).trans kq48
                refine W.eq (g2 := F0 m 108 ls []) rfl ?_
                obtain ⟨x71, ex71⟩ : ∃ y : Int32, y = j + 1 := ⟨_, rfl⟩
                try (have tx71 := addI (a := j) (b := 1) (by omega) (by omega); rw [← ex71] at tx71)
                refine lv_iinc (v := x71) (lv' := [(4, .int x71), (5, .ref q56), (0, .ref h0), (1, .ref h1), (3, .ref q48)]) hx hb dX8_add_108 hl (k := 4) rfl (by rw [ex71]; rfl) (by decide) rfl (fun ls hl => ?_)
                refine lv_goto (tgt := 67) hx hb dX8_add_111 (by decide) ?_
                exact ih67 x71 S66 _ _ _ (hK9) (hI) (by omega) (by omega) (lv_sub hl [2, 3, 4, 0] rfl) hM
      exact loop67 (((60 - (0 : Int32).toInt).toNat) + 1) 0 (pI (qR (pI S 803 h0 x43) q44 x45.toNatClampNeg (some h1)) 802 h0 x47) _ _ _ (hK9) (hI) (by omega) (by omega) (lv_sub hl [3, 4, 1, 0] rfl) hM
  · have tc2 := ltF c2
    exact r_retV C hr hlk hM (⟨rfl, rfl, hK9, hI, trivial⟩) dX8_add_9
set_option maxHeartbeats 4000000 in
set_option maxRecDepth 100000 in
theorem c_X7_begin (l : Launch) (D : gD) (H0 : Heap) (S : Mem) (kc ns : Nat) (h0 : Nat) {u : Nat} {tl : Int} {rho : Nat} (hI : CI x0 u tl rho S) (kh0 : mK S h0 = 8) : Met l yX7_begin (wsU yX7_begin cX7_begin 1 none) ({ frames := 0, cells := 0, slots := 0, locals := 0 } : Room) (mP D H0 S kc ns [.ref h0]) (mQ D H0 gV (fun r S1 k1 n1 => kc = k1 ∧ ns = n1 ∧ mK S1 = mK S ∧ CI x0 u tl rho S1 ∧ True)) 0 0 (mF H0) := by
  refine r_met (own := RX7) (by decide +kernel) rfl (Nat.le_of_ble_eq_true rfl) ?_
  intro p e s m args below meth c C hr hlk hnm H ls hl hM
  obtain ⟨hx, hb, hml, hown, hts, -, -⟩ := id C
  have hl : lv_has ls 1 [(0, .ref h0)] := hl
  have hI0 := hI
  have hK9 : mK S = mK S := rfl
  have t_0 : (0 : Int32).toInt = 0 := by decide
  have t_1 : (1 : Int32).toInt = 1 := by decide
  refine lv_aload_n hx hb dX7_begin_0 rfl (lv_at hl 0 rfl) ?_
  refine lv_dup hx hb dX7_begin_1 rfl ?_
  refine r_get (ci := 7) (k := 1) (v := .int (mI S 701 h0)) C hM kh0 f_X7_17 rfl dX7_begin_2 ?_
  refine lv_topi (fun x1 ex1 => ?_)
  refine lv_iconst (v := 1) hx hb dX7_begin_5 (by decide) ?_
  refine lv_iadd hx hb dX7_begin_6 ?_
  refine lv_topi (fun x2 ex2 => ?_)
  try (have tx2 := addI (a := x1) (b := 1) (by omega) (by omega); rw [← ex2] at tx2)
  refine r_put C hM kh0 f_X7_17 (fun r h => by cases h; rfl) rfl rfl (mPut.I (ci := 7) (k := 1) rfl) dX7_begin_7 (fun H locs hM => ?_)
  have hM : mH D H0 (pI S 701 h0 x2) kc ns H locs := hM
  have hI := hI.fe (fEq.I (S := S) (f := 701) (a := h0) (v := x2) (by decide))
  refine lv_aload_n hx hb dX7_begin_10 rfl (lv_at hl 0 rfl) ?_
  refine lv_iconst (v := 0) hx hb dX7_begin_11 (by decide) ?_
  refine r_put C hM kh0 f_X7_21 (fun r h => by cases h; rfl) rfl rfl (mPut.I (ci := 7) (k := 2) rfl) dX7_begin_12 (fun H locs hM => ?_)
  have hM : mH D H0 (pI (pI S 701 h0 x2) 702 h0 0) kc ns H locs := hM
  have hI := hI.fe (fEq.I (S := (pI S 701 h0 x2)) (f := 702) (a := h0) (v := 0) (by decide))
  refine lv_aload_n hx hb dX7_begin_15 rfl (lv_at hl 0 rfl) ?_
  refine lv_null hx hb dX7_begin_16 ?_
  refine r_put C hM kh0 f_X7_24 (fun r h => by cases h; rfl) rfl rfl (mPut.Rf (ci := 7) (k := 3) (x := none) rfl) dX7_begin_17 (fun H locs hM => ?_)
  have hM : mH D H0 (pR (pI (pI S 701 h0 x2) 702 h0 0) 703 h0 none) kc ns H locs := hM
  have hI : CI x0 u tl rho (pR (pI (pI S 701 h0 x2) 702 h0 0) 703 h0 none) := CI.putR (ci := 7) (k := 3) hI kh0 (fun z h => by cases h) (Or.inl rfl) (by decide) (by decide) (by decide)
  refine lv_aload_n hx hb dX7_begin_20 rfl (lv_at hl 0 rfl) ?_
  refine lv_iconst (v := 0) hx hb dX7_begin_21 (by decide) ?_
  refine r_put C hM kh0 f_X7_28 (fun r h => by cases h; rfl) rfl rfl (mPut.I (ci := 7) (k := 4) rfl) dX7_begin_22 (fun H locs hM => ?_)
  have hM : mH D H0 (pI (pR (pI (pI S 701 h0 x2) 702 h0 0) 703 h0 none) 704 h0 0) kc ns H locs := hM
  have hI := hI.fe (fEq.I (S := (pR (pI (pI S 701 h0 x2) 702 h0 0) 703 h0 none)) (f := 704) (a := h0) (v := 0) (by decide))
  refine lv_aload_n hx hb dX7_begin_25 rfl (lv_at hl 0 rfl) ?_
  refine lv_iconst (v := 0) hx hb dX7_begin_26 (by decide) ?_
  refine r_put C hM kh0 f_X7_31 (fun r h => by cases h; rfl) rfl rfl (mPut.I (ci := 7) (k := 5) rfl) dX7_begin_27 (fun H locs hM => ?_)
  have hM : mH D H0 (pI (pI (pR (pI (pI S 701 h0 x2) 702 h0 0) 703 h0 none) 704 h0 0) 705 h0 0) kc ns H locs := hM
  have hI := CI.p705 (a := h0) (v := 0) hI ⟨by omega, by omega⟩
  exact r_retV C hr hlk hM (⟨rfl, rfl, hK9, hI, trivial⟩) dX7_begin_30
set_option maxHeartbeats 4000000 in
set_option maxRecDepth 100000 in
theorem c_X7_stop (l : Launch) (D : gD) (H0 : Heap) (S : Mem) (kc ns : Nat) (h0 : Nat) (i0 : Int32) (o0 : Option Nat) {u : Nat} {tl : Int} {rho : Nat} (hI : CI x0 u tl rho S) (kh0 : mK S h0 = 8) (ko0 : ∀ q, o0 = some q → mK S q = 6) : Met l yX7_stop (wsU yX7_stop cX7_stop 3 (some .boolean)) ({ frames := 0, cells := 0, slots := 0, locals := 0 } : Room) (mP D H0 S kc ns [.ref h0, .int i0, va_rf o0]) (mQ D H0 gI (fun r S1 k1 n1 => kc = k1 ∧ ns = n1 ∧ mK S1 = mK S ∧ CI x0 u tl rho S1 ∧ r = 0)) 0 0 (mF H0) := by
  refine r_met (own := RX7) (by decide +kernel) rfl (by simp [lg_sl, cat_rf, cat_i, cat_l, cat_a, cat_n]) ?_
  intro p e s m args below meth c C hr hlk hnm H ls hl hM
  obtain ⟨hx, hb, hml, hown, hts, -, -⟩ := id C
  have hl : lv_has ls 3 [(0, .ref h0), (1, .int i0), (2, va_rf o0)] := by simpa [lv_args, cat_rf, cat_i, cat_l, cat_a, cat_n] using hl
  have hI0 := hI
  have hK9 : mK S = mK S := rfl
  have t_0 : (0 : Int32).toInt = 0 := by decide
  refine lv_aload_n hx hb dX7_stop_0 rfl (lv_at hl 0 rfl) ?_
  refine lv_iload_n hx hb dX7_stop_1 rfl (lv_at hl 1 rfl) ?_
  refine r_put C hM kh0 f_X7_21 (fun r h => by cases h; rfl) rfl rfl (mPut.I (ci := 7) (k := 2) rfl) dX7_stop_2 (fun H locs hM => ?_)
  have hM : mH D H0 (pI S 702 h0 i0) kc ns H locs := hM
  have hI := hI.fe (fEq.I (S := S) (f := 702) (a := h0) (v := i0) (by decide))
  refine lv_aload_n hx hb dX7_stop_5 rfl (lv_at hl 0 rfl) ?_
  refine lv_aload_nQ hx hb dX7_stop_6 rfl (lv_at hl 2 rfl) ?_
  refine r_put C hM kh0 f_X7_24 (fun r h => by cases h; rfl) (by cases o0 <;> rfl) (by cases o0 <;> rfl) (mPut.Rf (ci := 7) (k := 3) (x := o0) rfl) dX7_stop_7 (fun H locs hM => ?_)
  have hM : mH D H0 (pR (pI S 702 h0 i0) 703 h0 o0) kc ns H locs := hM
  have hI : CI x0 u tl rho (pR (pI S 702 h0 i0) 703 h0 o0) := CI.putR (ci := 7) (k := 3) hI kh0 (fun z h => ⟨ko0 z h, fun h => absurd rfl h⟩) (Or.inl rfl) (by decide) (by decide) (by decide)
  refine lv_iconst (v := 0) hx hb dX7_stop_10 (by decide) ?_
  exact r_retZ C hr hlk rfl hM (⟨rfl, rfl, hK9, hI, rfl⟩) dX7_stop_11
set_option maxHeartbeats 4000000 in
set_option maxRecDepth 100000 in
theorem c_X7_keep (l : Launch) (D : gD) (H0 : Heap) (S : Mem) (kc ns : Nat) (h0 h1 : Nat) {u : Nat} {tl : Int} {rho : Nat} (hI : CI x0 u tl rho S) (hrho : rho < 2000000000) (kh0 : mK S h0 = 8) (kh1 : mK S h1 = 6) : Met l yX7_keep (wsU yX7_keep cX7_keep 2 none) ({ frames := 0, cells := 0, slots := 0, locals := 0 } : Room) (mP D H0 S kc ns [.ref h0, .ref h1]) (mQ D H0 gV (fun r S1 k1 n1 => kc = k1 ∧ ns = n1 ∧ mK S1 = mK S ∧ CI x0 u tl (rho + 1) S1 ∧ True)) 0 0 (mF H0) := by
  refine r_met (own := RX7) (by decide +kernel) rfl (Nat.le_of_ble_eq_true rfl) ?_
  intro p e s m args below meth c C hr hlk hnm H ls hl hM
  obtain ⟨hx, hb, hml, hown, hts, -, -⟩ := id C
  have hl : lv_has ls 2 [(0, .ref h0), (1, .ref h1)] := hl
  have hI0 := hI
  have hK9 : mK S = mK S := rfl
  have t_0 : (0 : Int32).toInt = 0 := by decide
  have t_1 : (1 : Int32).toInt = 1 := by decide
  have t_40 : (40 : Int32).toInt = 40 := by decide
  refine lv_aload_n hx hb dX7_keep_0 rfl (lv_at hl 0 rfl) ?_
  refine r_get (ci := 7) (k := 5) (v := .int (mI S 705 h0)) C hM kh0 f_X7_31 rfl dX7_keep_1 ?_
  refine lv_topi (fun x1 ex1 => ?_)
  have fx1 := NI.f705 hI.2 kh0
  rw [← ex1] at fx1
  refine lv_bipush (v := 40) hx hb dX7_keep_4 (by decide) ?_
  refine lv_icmp_ge (tgt := 19) hx hb dX7_keep_6 (by decide) (fun c2 => ?_) (fun c2 => ?_)
  · have tc2 := leT c2
    refine lv_aload_n hx hb dX7_keep_19 rfl (lv_at hl 0 rfl) ?_
    refine lv_dup hx hb dX7_keep_20 rfl ?_
    refine r_get (ci := 7) (k := 5) (v := .int (mI S 705 h0)) C hM kh0 f_X7_31 rfl dX7_keep_21 ?_
    refine lv_topi (fun x3 ex3 => ?_)
    have fx3 := NI.f705 hI.2 kh0
    rw [← ex3] at fx3
    have gx3 : x3 = x1 := ex3.trans (ex1.symm)
    have hx3 : x3.toInt = x1.toInt := by rw [gx3]
    refine lv_iconst (v := 1) hx hb dX7_keep_24 (by decide) ?_
    refine lv_iadd hx hb dX7_keep_25 ?_
    refine lv_topi (fun x4 ex4 => ?_)
    try (have tx4 := addI (a := x3) (b := 1) (by omega) (by omega); rw [← ex4] at tx4)
    refine r_put C hM kh0 f_X7_31 (fun r h => by cases h; rfl) rfl rfl (mPut.I (ci := 7) (k := 5) rfl) dX7_keep_26 (fun H locs hM => ?_)
    have hM : mH D H0 (pI S 705 h0 x4) kc ns H locs := hM
    have hI := CI.p705 (a := h0) (v := x4) (CI.rhoLe hI (Nat.le_succ _)) ⟨by omega, by omega⟩
    exact r_retV C hr hlk hM (⟨rfl, rfl, hK9, hI, trivial⟩) dX7_keep_29
  · have tc2 := leF c2
    refine lv_aload_n hx hb dX7_keep_9 rfl (lv_at hl 0 rfl) ?_
    obtain ⟨q5, eq5, kq5, nq5⟩ := TI.nn hI.1 (ci := 7) (k := 0) kh0
    refine r_get (ci := 7) (k := 0) (v := .ref q5) C hM kh0 f_X7_11 (congrArg va_rf eq5) dX7_keep_10 ?_
    refine lv_aload_n hx hb dX7_keep_13 rfl (lv_at hl 0 rfl) ?_
    refine r_get (ci := 7) (k := 5) (v := .int (mI S 705 h0)) C hM kh0 f_X7_31 rfl dX7_keep_14 ?_
    refine lv_topi (fun x6 ex6 => ?_)
    have fx6 := NI.f705 hI.2 kh0
    rw [← ex6] at fx6
    have gx6 : x6 = x1 := ex6.trans (ex1.symm)
    have hx6 : x6.toInt = x1.toInt := by rw [gx6]
    refine lv_aload_n hx hb dX7_keep_17 rfl (lv_at hl 1 rfl) ?_
    refine r_aast (t := 0) (ci := 5) (o := (some h1)) C hM kq5 (by decide) rfl rfl (fun q h => by cases h; exact kh1) (inI (by omega) (by rw [nq5 (by decide)]; show _ < (40 : Int); omega)) dX7_keep_18 (fun H locs hM => ?_)
    have hM : mH D H0 (qR S q5 x6.toNatClampNeg (some h1)) kc ns H locs := hM
    have hI := CI.putA (i := x6.toNatClampNeg) (o := (some h1)) hI kq5 (fun q h => by cases h; exact kh1)
    refine lv_aload_n hx hb dX7_keep_19 rfl (lv_at hl 0 rfl) ?_
    refine lv_dup hx hb dX7_keep_20 rfl ?_
    refine r_get (ci := 7) (k := 5) (v := .int (mI (qR S q5 x6.toNatClampNeg (some h1)) 705 h0)) C hM kh0 f_X7_31 rfl dX7_keep_21 ?_
    refine lv_topi (fun x7 ex7 => ?_)
    have fx7 := NI.f705 hI.2 kh0
    rw [← ex7] at fx7
    have gx7 : x7 = x1 := ex7.trans (ex1.symm)
    have hx7 : x7.toInt = x1.toInt := by rw [gx7]
    refine lv_iconst (v := 1) hx hb dX7_keep_24 (by decide) ?_
    refine lv_iadd hx hb dX7_keep_25 ?_
    refine lv_topi (fun x8 ex8 => ?_)
    try (have tx8 := addI (a := x7) (b := 1) (by omega) (by omega); rw [← ex8] at tx8)
    refine r_put C hM kh0 f_X7_31 (fun r h => by cases h; rfl) rfl rfl (mPut.I (ci := 7) (k := 5) rfl) dX7_keep_26 (fun H locs hM => ?_)
    have hM : mH D H0 (pI (qR S q5 x6.toNatClampNeg (some h1)) 705 h0 x8) kc ns H locs := hM
    have hI := CI.p705 (a := h0) (v := x8) (CI.rhoLe hI (Nat.le_succ _)) ⟨by omega, by omega⟩
    exact r_retV C hr hlk hM (⟨rfl, rfl, hK9, hI, trivial⟩) dX7_keep_29
set_option maxHeartbeats 4000000 in
set_option maxRecDepth 100000 in
theorem c_X7_take (l : Launch) (D : gD) (H0 : Heap) (S : Mem) (kc ns : Nat) (h0 h1 : Nat) (i0 : Int32) {u : Nat} {tl : Int} {rho : Nat} (hI : CI x0 u tl rho S) (hrho : rho < 2000000000) (kh0 : mK S h0 = 8) (kh1 : mK S h1 = 6) : Met l yX7_take (wsU yX7_take cX7_take 3 (some .boolean)) ({ frames := 1, cells := 0, slots := 0, locals := 22 } : Room) (mP D H0 S kc ns [.ref h0, .ref h1, .int i0]) (mQ D H0 gI (fun r S1 k1 n1 => kc = k1 ∧ ns = n1 ∧ mK S1 = mK S ∧ CI x0 u tl (rho + 1) S1 ∧ (r = 0 ∨ r = 1))) 0 0 (mF H0) := by
  refine r_met (own := RX7) (by decide +kernel) rfl (Nat.le_of_ble_eq_true rfl) ?_
  intro p e s m args below meth c C hr hlk hnm H ls hl hM
  obtain ⟨hx, hb, hml, hown, hts, -, -⟩ := id C
  have hl : lv_has ls 3 [(0, .ref h0), (1, .ref h1), (2, .int i0)] := hl
  have hI0 := hI
  have hK9 : mK S = mK S := rfl
  have t_0 : (0 : Int32).toInt = 0 := by decide
  have t_1 : (1 : Int32).toInt = 1 := by decide
  have t_3 : (3 : Int32).toInt = 3 := by decide
  refine lv_iload_n hx hb dX7_take_0 rfl (lv_at hl 2 rfl) ?_
  refine lv_if_ne (tgt := 11) hx hb dX7_take_1 (by decide) (fun c1 => ?_) (fun c1 => ?_)
  · have tc1 := eqF c1
    refine lv_aload_n hx hb dX7_take_11 rfl (lv_at hl 1 rfl) ?_
    refine r_VN (As := []) (rest := []) (ci := 5) C hM (c_X5_isHarmful l D H0 S kc ns h1 hI kh1) i_X5_isHarmful m_X7_38 kh1 rfl rfl rfl hl.1 rfl (Nat.le_of_ble_eq_true rfl) ⟨by decide, by decide⟩ ⟨by decide, by decide⟩ dX7_take_12 (fun x5 S2 k3 n4 H locs p6 hM => ?_)
    obtain ⟨rfl, rfl, rfl, hx5⟩ := p6
    refine W.eq (g2 := F0 m 15 ls [.int x5]) rfl ?_
    refine lv_if_eq (tgt := 25) hx hb dX7_take_15 (by decide) (fun c7 => ?_) (fun c7 => ?_)
    · have tc7 := eqT c7
      refine lv_aload_n hx hb dX7_take_25 rfl (lv_at hl 1 rfl) ?_
      refine r_getN (ci := 5) (k := 16) (v := .int (mI S 516 h1)) C hM kh1 f_X7_46 rfl dX7_take_26 ?_
      refine lv_topi (fun x8 ex8 => ?_)
      refine lv_aload_n hx hb dX7_take_29 rfl (lv_at hl 0 rfl) ?_
      refine r_get (ci := 7) (k := 1) (v := .int (mI S 701 h0)) C hM kh0 f_X7_17 rfl dX7_take_30 ?_
      refine lv_topi (fun x9 ex9 => ?_)
      refine lv_icmp_eq (tgt := 64) hx hb dX7_take_33 (by decide) (fun c10 => ?_) (fun c10 => ?_)
      · have tc10 := eqT c10
        refine lv_iconst (v := 1) hx hb dX7_take_64 (by decide) ?_
        exact r_retZ C hr hlk rfl hM (⟨rfl, rfl, hK9, CI.rhoLe hI (Nat.le_succ _), by decide⟩) dX7_take_65
      · have tc10 := eqF c10
        refine lv_aload_n hx hb dX7_take_36 rfl (lv_at hl 1 rfl) ?_
        refine lv_aload_n hx hb dX7_take_37 rfl (lv_at hl 0 rfl) ?_
        refine r_get (ci := 7) (k := 1) (v := .int (mI S 701 h0)) C hM kh0 f_X7_17 rfl dX7_take_38 ?_
        refine lv_topi (fun x11 ex11 => ?_)
        have gx11 : x11 = x9 := ex11.trans (ex9.symm)
        have hx11 : x11.toInt = x9.toInt := by rw [gx11]
        refine r_putN C hM kh1 f_X7_46 (fun r h => by cases h; rfl) rfl rfl (mPut.I (ci := 5) (k := 16) rfl) dX7_take_41 (fun H locs hM => ?_)
        have hM : mH D H0 (pI S 516 h1 x11) kc ns H locs := hM
        have hI := hI.fe (fEq.I (S := S) (f := 516) (a := h1) (v := x11) (by decide))
        refine lv_aload_n hx hb dX7_take_44 rfl (lv_at hl 1 rfl) ?_
        refine lv_dup hx hb dX7_take_45 rfl ?_
        refine r_getN (ci := 5) (k := 15) (v := .int (mI (pI S 516 h1 x11) 515 h1)) C hM kh1 f_X7_49 rfl dX7_take_46 ?_
        refine lv_topi (fun x12 ex12 => ?_)
        refine lv_iconst (v := 1) hx hb dX7_take_49 (by decide) ?_
        refine lv_iadd hx hb dX7_take_50 ?_
        refine lv_topi (fun x13 ex13 => ?_)
        refine r_putN C hM kh1 f_X7_49 (fun r h => by cases h; rfl) rfl rfl (mPut.I (ci := 5) (k := 15) rfl) dX7_take_51 (fun H locs hM => ?_)
        have hM : mH D H0 (pI (pI S 516 h1 x11) 515 h1 x13) kc ns H locs := hM
        have hI := hI.fe (fEq.I (S := (pI S 516 h1 x11)) (f := 515) (a := h1) (v := x13) (by decide))
        refine lv_aload_n hx hb dX7_take_54 rfl (lv_at hl 0 rfl) ?_
        refine lv_dup hx hb dX7_take_55 rfl ?_
        refine r_get (ci := 7) (k := 4) (v := .int (mI (pI (pI S 516 h1 x11) 515 h1 x13) 704 h0)) C hM kh0 f_X7_28 rfl dX7_take_56 ?_
        refine lv_topi (fun x14 ex14 => ?_)
        refine lv_iconst (v := 1) hx hb dX7_take_59 (by decide) ?_
        refine lv_iadd hx hb dX7_take_60 ?_
        refine lv_topi (fun x15 ex15 => ?_)
        refine r_put C hM kh0 f_X7_28 (fun r h => by cases h; rfl) rfl rfl (mPut.I (ci := 7) (k := 4) rfl) dX7_take_61 (fun H locs hM => ?_)
        have hM : mH D H0 (pI (pI (pI S 516 h1 x11) 515 h1 x13) 704 h0 x15) kc ns H locs := hM
        have hI := hI.fe (fEq.I (S := (pI (pI S 516 h1 x11) 515 h1 x13)) (f := 704) (a := h0) (v := x15) (by decide))
        refine lv_iconst (v := 1) hx hb dX7_take_64 (by decide) ?_
        exact r_retZ C hr hlk rfl hM (⟨rfl, rfl, hK9, CI.rhoLe hI (Nat.le_succ _), by decide⟩) dX7_take_65
    · have tc7 := eqF c7
      refine lv_aload_n hx hb dX7_take_18 rfl (lv_at hl 0 rfl) ?_
      refine lv_iconst (v := 3) hx hb dX7_take_19 (by decide) ?_
      refine lv_aload_n hx hb dX7_take_20 rfl (lv_at hl 1 rfl) ?_
      refine r_V (As := [.int 3, .ref h1]) (rest := []) (ci := 7) C hM (c_X7_stop l D H0 S kc ns h0 3 (some h1) hI kh0 (fun z h => by cases h; exact kh1)) i_X7_stop m_X7_42 kh0 rfl rfl rfl hl.1 rfl (Nat.le_of_ble_eq_true rfl) ⟨by decide, by decide⟩ ⟨by decide, by decide⟩ dX7_take_21 (fun x19 S16 k17 n18 H locs p20 hM => ?_)
      obtain ⟨rfl, rfl, hk9, hI, hx19⟩ := p20
      have kh0 : mK S16 h0 = 8 := (congrFun (hk9) h0).trans kh0
      have kh1 : mK S16 h1 = 6 := (congrFun (hk9) h1).trans kh1
      have hK9 := hk9.trans hK9
      refine W.eq (g2 := F0 m 24 ls [.int x19]) rfl ?_
      have hx19 : x19 = 0 ∨ x19 = 1 := Or.inl hx19
      exact r_retZ C hr hlk (nzb hx19) hM (⟨rfl, rfl, hK9, CI.rhoLe hI (Nat.le_succ _), hx19⟩) dX7_take_24
  · have tc1 := eqT c1
    refine lv_aload_n hx hb dX7_take_4 rfl (lv_at hl 0 rfl) ?_
    refine lv_aload_n hx hb dX7_take_5 rfl (lv_at hl 1 rfl) ?_
    refine r_V (As := [.ref h1]) (rest := []) (ci := 7) C hM (c_X7_keep l D H0 S kc ns h0 h1 hI hrho kh0 kh1) i_X7_keep m_X7_34 kh0 rfl rfl rfl hl.1 rfl (Nat.le_of_ble_eq_true rfl) ⟨by decide, by decide⟩ ⟨by decide, by decide⟩ dX7_take_6 (fun u24 S21 k22 n23 H locs p25 hM => ?_)
    obtain ⟨rfl, rfl, hk9, hI, hu24⟩ := p25
    have kh0 : mK S21 h0 = 8 := (congrFun (hk9) h0).trans kh0
    have kh1 : mK S21 h1 = 6 := (congrFun (hk9) h1).trans kh1
    have hK9 := hk9.trans hK9
    refine W.eq (g2 := F0 m 9 ls []) rfl ?_
    refine lv_iconst (v := 1) hx hb dX7_take_9 (by decide) ?_
    exact r_retZ C hr hlk rfl hM (⟨rfl, rfl, hK9, hI, by decide⟩) dX7_take_10
set_option maxHeartbeats 4000000 in
set_option maxRecDepth 100000 in
theorem c_X7_keptAt (l : Launch) (D : gD) (H0 : Heap) (S : Mem) (kc ns : Nat) (h0 : Nat) (i0 : Int32) {u : Nat} {tl : Int} {rho : Nat} (hI : CI x0 u tl rho S) (kh0 : mK S h0 = 8) : Met l yX7_keptAt (wsU yX7_keptAt cX7_keptAt 2 (some (.object "ClickBench$Part"))) ({ frames := 0, cells := 0, slots := 0, locals := 0 } : Room) (mP D H0 S kc ns [.ref h0, .int i0]) (mQ D H0 gR (fun r S1 k1 n1 => S = S1 ∧ kc = k1 ∧ ns = n1 ∧ (∀ q, r = some q → mK S q = 6))) 0 0 (mF H0) := by
  refine r_met (own := RX7) (by decide +kernel) rfl (Nat.le_of_ble_eq_true rfl) ?_
  intro p e s m args below meth c C hr hlk hnm H ls hl hM
  obtain ⟨hx, hb, hml, hown, hts, -, -⟩ := id C
  have hl : lv_has ls 2 [(0, .ref h0), (1, .int i0)] := hl
  have t_0 : (0 : Int32).toInt = 0 := by decide
  have t_40 : (40 : Int32).toInt = 40 := by decide
  refine lv_iload_n hx hb dX7_keptAt_0 rfl (lv_at hl 1 rfl) ?_
  refine lv_if_lt (tgt := 18) hx hb dX7_keptAt_1 (by decide) (fun c1 => ?_) (fun c1 => ?_)
  · have tc1 := ltT c1
    refine lv_null hx hb dX7_keptAt_18 ?_
    refine lv_goto (tgt := 28) hx hb dX7_keptAt_19 (by decide) ?_
    exact r_retR (v := none) C hr hlk hM (⟨rfl, rfl, rfl, fun z h => by cases h⟩) dX7_keptAt_28
  · have tc1 := ltF c1
    refine lv_iload_n hx hb dX7_keptAt_4 rfl (lv_at hl 1 rfl) ?_
    refine lv_aload_n hx hb dX7_keptAt_5 rfl (lv_at hl 0 rfl) ?_
    refine r_get (ci := 7) (k := 5) (v := .int (mI S 705 h0)) C hM kh0 f_X7_31 rfl dX7_keptAt_6 ?_
    refine lv_topi (fun x2 ex2 => ?_)
    have fx2 := NI.f705 hI.2 kh0
    rw [← ex2] at fx2
    refine lv_icmp_ge (tgt := 18) hx hb dX7_keptAt_9 (by decide) (fun c3 => ?_) (fun c3 => ?_)
    · have tc3 := leT c3
      refine lv_null hx hb dX7_keptAt_18 ?_
      refine lv_goto (tgt := 28) hx hb dX7_keptAt_19 (by decide) ?_
      exact r_retR (v := none) C hr hlk hM (⟨rfl, rfl, rfl, fun z h => by cases h⟩) dX7_keptAt_28
    · have tc3 := leF c3
      refine lv_iload_n hx hb dX7_keptAt_12 rfl (lv_at hl 1 rfl) ?_
      refine lv_bipush (v := 40) hx hb dX7_keptAt_13 (by decide) ?_
      refine lv_icmp_lt (tgt := 22) hx hb dX7_keptAt_15 (by decide) (fun c4 => ?_) (fun c4 => ?_)
      · have tc4 := ltT c4
        refine lv_aload_n hx hb dX7_keptAt_22 rfl (lv_at hl 0 rfl) ?_
        obtain ⟨q5, eq5, kq5, nq5⟩ := TI.nn hI.1 (ci := 7) (k := 0) kh0
        refine r_get (ci := 7) (k := 0) (v := .ref q5) C hM kh0 f_X7_11 (congrArg va_rf eq5) dX7_keptAt_23 ?_
        refine lv_iload_n hx hb dX7_keptAt_26 rfl (lv_at hl 1 rfl) ?_
        refine r_aald (t := 0) C hM kq5 rfl (by decide) (inI (by omega) (by rw [nq5 (by decide)]; show _ < (40 : Int); omega)) dX7_keptAt_27 ?_
        obtain ⟨r6, er6, kr6⟩ : ∃ r : Option Nat, aR S q5 i0.toNatClampNeg = r ∧ ∀ q, r = some q → mK S q = 6 := ⟨_, rfl, TI.arr hI.1 (t := 0) kq5⟩
        refine W.eq (g2 := F0 m 28 ls [va_rf r6]) (by rw [← er6]) ?_
        exact r_retR (v := r6) C hr hlk hM (⟨rfl, rfl, rfl, kr6⟩) dX7_keptAt_28
      · have tc4 := ltF c4
        refine lv_null hx hb dX7_keptAt_18 ?_
        refine lv_goto (tgt := 28) hx hb dX7_keptAt_19 (by decide) ?_
        exact r_retR (v := none) C hr hlk hM (⟨rfl, rfl, rfl, fun z h => by cases h⟩) dX7_keptAt_28
