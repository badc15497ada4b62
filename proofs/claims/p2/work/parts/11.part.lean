set_option maxHeartbeats 4000000 in
set_option maxRecDepth 100000 in
theorem c_X4_at (l : Launch) (D : gD) (H0 : Heap) (S : Mem) (kc ns : Nat) (h0 : Nat) (i0 : Int32) {x : Nat → Nat → Prop} {u : Nat} {tl : Int} {rho : Nat} (hI : CI x u tl rho S) (hx0 : ¬ x h0 (100 * 4 + 0)) (kh0 : mK S h0 = 5) : Met l yX4_at (wsU yX4_at cX4_at 2 (some (.object "ClickBench$Part"))) ({ frames := 0, cells := 0, slots := 0, locals := 0 } : Room) (mP D H0 S kc ns [.ref h0, .int i0]) (mQ D H0 gR (fun r S1 k1 n1 => S = S1 ∧ kc = k1 ∧ ns = n1 ∧ (∀ q, r = some q → mK S q = 6))) 0 0 (mF H0) := by
  refine r_met (own := RX4) (by decide +kernel) rfl (Nat.le_of_ble_eq_true rfl) ?_
  intro p e s m args below meth c C hr hlk hnm H ls hl hM
  obtain ⟨hx, hb, hml, hown, hts, -, -⟩ := id C
  have hl : lv_has ls 2 [(0, .ref h0), (1, .int i0)] := hl
  have t_0 : (0 : Int32).toInt = 0 := by decide
  refine lv_iload_n hx hb dX4_at_0 rfl (lv_at hl 1 rfl) ?_
  refine lv_if_lt (tgt := 12) hx hb dX4_at_1 (by decide) (fun c1 => ?_) (fun c1 => ?_)
  · have tc1 := ltT c1
    refine lv_null hx hb dX4_at_12 ?_
    refine lv_goto (tgt := 22) hx hb dX4_at_13 (by decide) ?_
    exact r_retR (v := none) C hr hlk hM (⟨rfl, rfl, rfl, fun z h => by cases h⟩) dX4_at_22
  · have tc1 := ltF c1
    refine lv_iload_n hx hb dX4_at_4 rfl (lv_at hl 1 rfl) ?_
    refine lv_aload_n hx hb dX4_at_5 rfl (lv_at hl 0 rfl) ?_
    refine r_get (ci := 4) (k := 1) (v := .int (mI S 401 h0)) C hM kh0 f_X4_17 rfl dX4_at_6 ?_
    refine lv_topi (fun x2 ex2 => ?_)
    have fx2 := NI.f401 hI.2 kh0
    rw [← ex2] at fx2
    refine lv_icmp_lt (tgt := 16) hx hb dX4_at_9 (by decide) (fun c3 => ?_) (fun c3 => ?_)
    · have tc3 := ltT c3
      refine lv_aload_n hx hb dX4_at_16 rfl (lv_at hl 0 rfl) ?_
      obtain ⟨q4, eq4, kq4, nq4⟩ := TI.nn hI.1 (ci := 4) (k := 0) kh0
      refine r_get (ci := 4) (k := 0) (v := .ref q4) C hM kh0 f_X4_11 (congrArg va_rf eq4) dX4_at_17 ?_
      refine lv_iload_n hx hb dX4_at_20 rfl (lv_at hl 1 rfl) ?_
      refine r_aald (t := 0) C hM kq4 rfl (by decide) (inI (by omega) (by rw [nq4 (by decide)]; show _ < (60 : Int); omega)) dX4_at_21 ?_
      obtain ⟨r5, er5, kr5⟩ : ∃ r : Option Nat, aR S q4 i0.toNatClampNeg = r ∧ ∀ q, r = some q → mK S q = 6 := ⟨_, rfl, TI.arr hI.1 (t := 0) kq4⟩
      refine W.eq (g2 := F0 m 22 ls [va_rf r5]) (by rw [← er5]) ?_
      exact r_retR (v := r5) C hr hlk hM (⟨rfl, rfl, rfl, kr5⟩) dX4_at_22
    · have tc3 := ltF c3
      refine lv_null hx hb dX4_at_12 ?_
      refine lv_goto (tgt := 22) hx hb dX4_at_13 (by decide) ?_
      exact r_retR (v := none) C hr hlk hM (⟨rfl, rfl, rfl, fun z h => by cases h⟩) dX4_at_22
set_option maxHeartbeats 4000000 in
set_option maxRecDepth 100000 in
theorem c_X5_labelBehind (l : Launch) (D : gD) (H0 : Heap) (S : Mem) (kc ns : Nat) (o0 : Option Nat) {x : Nat → Nat → Prop} {u : Nat} {tl : Int} {rho : Nat} (hI : CI x u tl rho S) (ko0 : ∀ q, o0 = some q → mK S q = 6) : Met l yX5_labelBehind (wsU yX5_labelBehind cX5_labelBehind 1 (some (.object "ClickBench$Part"))) ({ frames := 0, cells := 0, slots := 0, locals := 0 } : Room) (mP D H0 S kc ns [va_rf o0]) (mQ D H0 gR (fun r S1 k1 n1 => S = S1 ∧ kc = k1 ∧ ns = n1 ∧ (∀ q, r = some q → mK S q = 6))) 0 0 (mF H0) := by
  refine r_met (own := RX5) (by decide +kernel) rfl (by simp [lg_sl, cat_rf, cat_i, cat_l, cat_a, cat_n]) ?_
  intro p e s m args below meth c C hr hlk hnm H ls hl hM
  obtain ⟨hx, hb, hml, hown, hts, -, -⟩ := id C
  have hl : lv_has ls 1 [(0, va_rf o0)] := by simpa [lv_args, cat_rf, cat_i, cat_l, cat_a, cat_n] using hl
  have t_0 : (0 : Int32).toInt = 0 := by decide
  refine lv_aload_nQ hx hb dX5_labelBehind_0 rfl (lv_at hl 0 rfl) ?_
  cases o0 with
  | none =>
    refine lv_ifnonnullN hx hb dX5_labelBehind_1 ?_
    refine lv_null hx hb dX5_labelBehind_4 ?_
    exact r_retR (v := none) C hr hlk hM (⟨rfl, rfl, rfl, fun z h => by cases h⟩) dX5_labelBehind_5
  | some q1 =>
    have kq1 : mK S q1 = 6 := ko0 q1 rfl
    refine lv_ifnonnull (tgt := 6) hx hb dX5_labelBehind_1 (by decide) ?_
    refine lv_aload_n hx hb dX5_labelBehind_6 rfl (lv_at hl 0 rfl) ?_
    refine r_get (ci := 5) (k := 2) (v := .long (mL S 502 q1)) C hM kq1 f_X5_46 rfl dX5_labelBehind_7 ?_
    refine lv_topl (fun l2 el2 => ?_)
    refine lv_ldc2 hx hb hown (hts _ q_X5_84) dX5_labelBehind_10 ?_
    refine W.lcmp hx hb dX5_labelBehind_13 ?_
    refine lv_topi (fun x3 ex3 => ?_)
    refine lv_if_ne (tgt := 28) hx hb dX5_labelBehind_14 (by decide) (fun c4 => ?_) (fun c4 => ?_)
    · have tc4 := eqF c4
      refine lv_aload_n hx hb dX5_labelBehind_28 rfl (lv_at hl 0 rfl) ?_
      refine r_get (ci := 5) (k := 5) C hM kq1 f_X5_71 rfl dX5_labelBehind_29 ?_
      obtain ⟨r5, er5, kr5⟩ : ∃ r : Option Nat, mR S 505 q1 = r ∧ ∀ q, r = some q → mK S q = 6 := ⟨_, rfl, TI.opt hI.1 (ci := 5) (k := 5) kq1⟩
      refine W.eq (g2 := F0 m 32 ls [va_rf r5]) (by rw [← er5]; rfl) ?_
      exact r_retR (v := r5) C hr hlk hM (⟨rfl, rfl, rfl, kr5⟩) dX5_labelBehind_32
    · have tc4 := eqT c4
      refine lv_aload_n hx hb dX5_labelBehind_17 rfl (lv_at hl 0 rfl) ?_
      refine r_get (ci := 5) (k := 13) (v := .int (mI S 513 q1)) C hM kq1 f_X5_29 rfl dX5_labelBehind_18 ?_
      refine lv_topi (fun x6 ex6 => ?_)
      refine lv_if_le (tgt := 28) hx hb dX5_labelBehind_21 (by decide) (fun c7 => ?_) (fun c7 => ?_)
      · have tc7 := leT c7
        refine lv_aload_n hx hb dX5_labelBehind_28 rfl (lv_at hl 0 rfl) ?_
        refine r_get (ci := 5) (k := 5) C hM kq1 f_X5_71 rfl dX5_labelBehind_29 ?_
        obtain ⟨r8, er8, kr8⟩ : ∃ r : Option Nat, mR S 505 q1 = r ∧ ∀ q, r = some q → mK S q = 6 := ⟨_, rfl, TI.opt hI.1 (ci := 5) (k := 5) kq1⟩
        refine W.eq (g2 := F0 m 32 ls [va_rf r8]) (by rw [← er8]; rfl) ?_
        exact r_retR (v := r8) C hr hlk hM (⟨rfl, rfl, rfl, kr8⟩) dX5_labelBehind_32
      · have tc7 := leF c7
        refine lv_aload_n hx hb dX5_labelBehind_24 rfl (lv_at hl 0 rfl) ?_
        refine lv_goto (tgt := 32) hx hb dX5_labelBehind_25 (by decide) ?_
        exact r_retR (v := (some q1)) C hr hlk hM (⟨rfl, rfl, rfl, fun z h => by cases h; exact kq1⟩) dX5_labelBehind_32
set_option maxHeartbeats 4000000 in
set_option maxRecDepth 100000 in
theorem c_X5_turnBehind (l : Launch) (D : gD) (H0 : Heap) (S : Mem) (kc ns : Nat) (o0 : Option Nat) (j0 : Int64) {x : Nat → Nat → Prop} {u : Nat} {tl : Int} {rho : Nat} (hI : CI x u tl rho S) (ko0 : ∀ q, o0 = some q → mK S q = 6) : Met l yX5_turnBehind (wsU yX5_turnBehind cX5_turnBehind 4 (some .int)) ({ frames := 0, cells := 0, slots := 0, locals := 0 } : Room) (mP D H0 S kc ns [va_rf o0, .long j0]) (mQ D H0 gI (fun r S1 k1 n1 => S = S1 ∧ kc = k1 ∧ ns = n1 ∧ True)) 0 0 (mF H0) := by
  refine r_met (own := RX5) (by decide +kernel) rfl (by simp [lg_sl, cat_rf, cat_i, cat_l, cat_a, cat_n]) ?_
  intro p e s m args below meth c C hr hlk hnm H ls hl hM
  obtain ⟨hx, hb, hml, hown, hts, -, -⟩ := id C
  have hl : lv_has ls 4 [(0, va_rf o0), (1, .long j0)] := by simpa [lv_args, cat_rf, cat_i, cat_l, cat_a, cat_n] using hl
  have t_0 : (0 : Int32).toInt = 0 := by decide
  have t_1 : (1 : Int32).toInt = 1 := by decide
  refine lv_aload_nQ hx hb dX5_turnBehind_0 rfl (lv_at hl 0 rfl) ?_
  refine lv_astore_nQ (lv' := [(3, va_rf o0), (0, va_rf o0), (1, .long j0)]) hx hb dX5_turnBehind_1 rfl hl (by decide) rfl (fun ls hl => ?_)
  have loop2 : ∀ (fu : Nat) (o : Option Nat) (H : Heap) (locs : List Loc) (ls : Array Slot), (∀ q, o = some q → mK S q = 6) → cm S o < fu → lv_has ls 4 [(1, .long j0), (3, va_rf o)] → mH D H0 S kc ns H locs → W p l e ({ frames := 0, cells := 0, slots := 0, locals := 0 } : Room) s m args below meth c H locs 0 0 (MQ below (mQ D H0 gI (fun r S1 k1 n1 => S = S1 ∧ kc = k1 ∧ ns = n1 ∧ True)) args s 0 0 (mF H0)) (F0 m 2 ls []) := by
    intro fu
    induction fu with
    | zero => intro o H locs ls h2_0 hfu; exact absurd hfu (by omega)
    | succ fu ih2 =>
      intro o H locs ls h2_0 hfu hl hM
      have ko := h2_0
      refine lv_aload_nQ hx hb dX5_turnBehind_2 rfl (lv_at hl 1 rfl) ?_
      cases o with
      | none =>
        refine lv_ifnullN (tgt := 30) hx hb dX5_turnBehind_3 (by decide) ?_
        refine lv_iconst (v := 0) hx hb dX5_turnBehind_30 (by decide) ?_
        exact r_retI C hr hlk hM (⟨rfl, rfl, rfl, trivial⟩) dX5_turnBehind_31
      | some q1 =>
        have kq1 : mK S q1 = 6 := ko q1 rfl
        refine lv_ifnull hx hb dX5_turnBehind_3 ?_
        refine lv_aload_n hx hb dX5_turnBehind_6 rfl (lv_at hl 1 rfl) ?_
        refine r_get (ci := 5) (k := 2) (v := .long (mL S 502 q1)) C hM kq1 f_X5_46 rfl dX5_turnBehind_7 ?_
        refine lv_topl (fun l2 el2 => ?_)
        refine lv_lload_n hx hb dX5_turnBehind_10 rfl (lv_at hl 0 rfl) ?_
        refine W.lcmp hx hb dX5_turnBehind_11 ?_
        refine lv_topi (fun x3 ex3 => ?_)
        refine lv_if_ne (tgt := 22) hx hb dX5_turnBehind_12 (by decide) (fun c4 => ?_) (fun c4 => ?_)
        · have tc4 := eqF c4
          refine lv_aload_n hx hb dX5_turnBehind_22 rfl (lv_at hl 1 rfl) ?_
          refine r_get (ci := 5) (k := 4) C hM kq1 f_X5_52 rfl dX5_turnBehind_23 ?_
          obtain ⟨r5, er5, kr5⟩ : ∃ r : Option Nat, mR S 504 q1 = r ∧ ∀ q, r = some q → mK S q = 6 := ⟨_, rfl, TI.opt hI.1 (ci := 5) (k := 4) kq1⟩
          refine W.eq (g2 := F0 m 26 ls [va_rf r5]) (by rw [← er5]; rfl) ?_
          refine lv_astore_nQ (lv' := [(3, va_rf r5), (1, .long j0)]) hx hb dX5_turnBehind_26 rfl hl (by decide) rfl (fun ls hl => ?_)
          refine lv_goto (tgt := 2) hx hb dX5_turnBehind_27 (by decide) ?_
          have h93 := cm504 hI kq1; rw [er5] at h93
          exact ih2 r5 _ _ _ ((kr5)) (by omega) (lv_sub hl [1, 0] rfl) hM
        · have tc4 := eqT c4
          refine lv_aload_n hx hb dX5_turnBehind_15 rfl (lv_at hl 1 rfl) ?_
          refine r_get (ci := 5) (k := 6) (v := .int (mI S 506 q1)) C hM kq1 f_X5_78 rfl dX5_turnBehind_16 ?_
          refine lv_topi (fun x6 ex6 => ?_)
          refine lv_iconst (v := 1) hx hb dX5_turnBehind_19 (by decide) ?_
          refine lv_iadd hx hb dX5_turnBehind_20 ?_
          refine lv_topi (fun x7 ex7 => ?_)
          try (have tx7 := addI (a := x6) (b := 1) (by omega) (by omega); rw [← ex7] at tx7)
          exact r_retI C hr hlk hM (⟨rfl, rfl, rfl, trivial⟩) dX5_turnBehind_21
  exact loop2 ((cm S o0) + 1) o0 _ _ _ (ko0) (by omega) (lv_sub hl [2, 0] rfl) hM
set_option maxHeartbeats 4000000 in
set_option maxRecDepth 100000 in
theorem c_X5_textByte (l : Launch) (D : gD) (H0 : Heap) (S : Mem) (kc ns : Nat) (h0 : Nat) (i0 : Int32) {u : Nat} {tl : Int} {rho : Nat} (hI : CI x0 u tl rho S) (kh0 : mK S h0 = 6) : Met l yX5_textByte (wsU yX5_textByte cX5_textByte 5 (some .int)) ({ frames := 0, cells := 0, slots := 0, locals := 0 } : Room) (mP D H0 S kc ns [.ref h0, .int i0]) (mQ D H0 gI (fun r S1 k1 n1 => S = S1 ∧ kc = k1 ∧ ns = n1 ∧ True)) 0 0 (mF H0) := by
  refine r_met (own := RX5) (by decide +kernel) rfl (Nat.le_of_ble_eq_true rfl) ?_
  intro p e s m args below meth c C hr hlk hnm H ls hl hM
  obtain ⟨hx, hb, hml, hown, hts, -, -⟩ := id C
  have hl : lv_has ls 5 [(0, .ref h0), (1, .int i0)] := hl
  have t_m1 : (-1 : Int32).toInt = -1 := by decide
  have t_0 : (0 : Int32).toInt = 0 := by decide
  have t_1 : (1 : Int32).toInt = 1 := by decide
  have t_8 : (8 : Int32).toInt = 8 := by decide
  have t_255 : (255 : Int32).toInt = 255 := by decide
  refine lv_iload_n hx hb dX5_textByte_0 rfl (lv_at hl 1 rfl) ?_
  refine lv_if_lt (tgt := 12) hx hb dX5_textByte_1 (by decide) (fun c1 => ?_) (fun c1 => ?_)
  · have tc1 := ltT c1
    refine lv_iconst (v := -1) hx hb dX5_textByte_12 (by decide) ?_
    exact r_retI C hr hlk hM (⟨rfl, rfl, rfl, trivial⟩) dX5_textByte_13
  · have tc1 := ltF c1
    refine lv_iload_n hx hb dX5_textByte_4 rfl (lv_at hl 1 rfl) ?_
    refine lv_aload_n hx hb dX5_textByte_5 rfl (lv_at hl 0 rfl) ?_
    refine r_get (ci := 5) (k := 13) (v := .int (mI S 513 h0)) C hM kh0 f_X5_29 rfl dX5_textByte_6 ?_
    refine lv_topi (fun x2 ex2 => ?_)
    refine lv_icmp_lt (tgt := 14) hx hb dX5_textByte_9 (by decide) (fun c3 => ?_) (fun c3 => ?_)
    · have tc3 := ltT c3
      refine lv_iload_n hx hb dX5_textByte_14 rfl (lv_at hl 1 rfl) ?_
      refine lv_bipush (v := 8) hx hb dX5_textByte_15 (by decide) ?_
      refine lv_icmp_ge (tgt := 24) hx hb dX5_textByte_17 (by decide) (fun c4 => ?_) (fun c4 => ?_)
      · have tc4 := leT c4
        refine lv_iconst (v := 0) hx hb dX5_textByte_24 (by decide) ?_
        refine lv_istore_n (lv' := [(2, .int 0), (0, .ref h0), (1, .int i0)]) hx hb dX5_textByte_25 rfl hl (by decide) rfl (fun ls hl => ?_)
        refine lv_iload_n hx hb dX5_textByte_26 rfl (lv_at hl 0 rfl) ?_
        refine lv_if_eq (tgt := 37) hx hb dX5_textByte_27 (by decide) (fun c5 => ?_) (fun c5 => ?_)
        · have tc5 := eqT c5
          refine lv_aload_n hx hb dX5_textByte_37 rfl (lv_at hl 1 rfl) ?_
          refine r_get (ci := 5) (k := 12) (v := .long (mL S 512 h0)) C hM kh0 f_X5_26 rfl dX5_textByte_38 ?_
          refine lv_topl (fun l6 el6 => ?_)
          refine lv_lstore_n (lv' := [(3, .long l6), (2, .int 0), (0, .ref h0), (1, .int i0)]) hx hb dX5_textByte_41 rfl hl (by decide) rfl (fun ls hl => ?_)
          refine lv_lload_n hx hb dX5_textByte_42 rfl (lv_at hl 0 rfl) ?_
          refine lv_bipush (v := 8) hx hb dX5_textByte_43 (by decide) ?_
          refine lv_iload_n hx hb dX5_textByte_45 rfl (lv_at hl 1 rfl) ?_
          refine lv_if_eq (tgt := 53) hx hb dX5_textByte_46 (by decide) (fun c7 => ?_) (fun c7 => ?_)
          · have tc7 := eqT c7
            refine lv_iload_n hx hb dX5_textByte_53 rfl (lv_at hl 3 rfl) ?_
            refine lv_bipush (v := 8) hx hb dX5_textByte_54 (by decide) ?_
            refine lv_isub hx hb dX5_textByte_56 ?_
            refine lv_topi (fun x8 ex8 => ?_)
            try (have tx8 := subI (a := i0) (b := 8) (by omega) (by omega); rw [← ex8] at tx8)
            refine lv_imul hx hb dX5_textByte_57 ?_
            refine lv_topi (fun x9 ex9 => ?_)
            try (have tx9 := mulD (a := x8) (k := 8) (n := 8) (by decide) (by omega) (by omega); rw [← ex9] at tx9)
            refine lv_lshr hx hb dX5_textByte_58 rfl ?_
            refine lv_topl (fun l10 el10 => ?_)
            refine lv_l2i hx hb dX5_textByte_59 rfl ?_
            refine lv_topi (fun x11 ex11 => ?_)
            refine lv_sipush (v := 255) hx hb dX5_textByte_60 (by decide) ?_
            refine lv_iand hx hb dX5_textByte_63 ?_
            refine lv_topi (fun x12 ex12 => ?_)
            exact r_retI C hr hlk hM (⟨rfl, rfl, rfl, trivial⟩) dX5_textByte_64
          · have tc7 := eqF c7
            refine lv_iload_n hx hb dX5_textByte_49 rfl (lv_at hl 3 rfl) ?_
            refine lv_goto (tgt := 57) hx hb dX5_textByte_50 (by decide) ?_
            refine lv_imul hx hb dX5_textByte_57 ?_
            refine lv_topi (fun x13 ex13 => ?_)
            try (have tx13 := mulD (a := i0) (k := 8) (n := 8) (by decide) (by omega) (by omega); rw [← ex13] at tx13)
            refine lv_lshr hx hb dX5_textByte_58 rfl ?_
            refine lv_topl (fun l14 el14 => ?_)
            refine lv_l2i hx hb dX5_textByte_59 rfl ?_
            refine lv_topi (fun x15 ex15 => ?_)
            refine lv_sipush (v := 255) hx hb dX5_textByte_60 (by decide) ?_
            refine lv_iand hx hb dX5_textByte_63 ?_
            refine lv_topi (fun x16 ex16 => ?_)
            exact r_retI C hr hlk hM (⟨rfl, rfl, rfl, trivial⟩) dX5_textByte_64
        · have tc5 := eqF c5
          refine lv_aload_n hx hb dX5_textByte_30 rfl (lv_at hl 1 rfl) ?_
          refine r_get (ci := 5) (k := 11) (v := .long (mL S 511 h0)) C hM kh0 f_X5_23 rfl dX5_textByte_31 ?_
          refine lv_topl (fun l17 el17 => ?_)
          refine lv_goto (tgt := 41) hx hb dX5_textByte_34 (by decide) ?_
          refine lv_lstore_n (lv' := [(3, .long l17), (2, .int 0), (0, .ref h0), (1, .int i0)]) hx hb dX5_textByte_41 rfl hl (by decide) rfl (fun ls hl => ?_)
          refine lv_lload_n hx hb dX5_textByte_42 rfl (lv_at hl 0 rfl) ?_
          refine lv_bipush (v := 8) hx hb dX5_textByte_43 (by decide) ?_
          refine lv_iload_n hx hb dX5_textByte_45 rfl (lv_at hl 1 rfl) ?_
          refine lv_if_eq (tgt := 53) hx hb dX5_textByte_46 (by decide) (fun c18 => ?_) (fun c18 => ?_)
          · have tc18 := eqT c18
            refine lv_iload_n hx hb dX5_textByte_53 rfl (lv_at hl 3 rfl) ?_
            refine lv_bipush (v := 8) hx hb dX5_textByte_54 (by decide) ?_
            refine lv_isub hx hb dX5_textByte_56 ?_
            refine lv_topi (fun x19 ex19 => ?_)
            try (have tx19 := subI (a := i0) (b := 8) (by omega) (by omega); rw [← ex19] at tx19)
            refine lv_imul hx hb dX5_textByte_57 ?_
            refine lv_topi (fun x20 ex20 => ?_)
            try (have tx20 := mulD (a := x19) (k := 8) (n := 8) (by decide) (by omega) (by omega); rw [← ex20] at tx20)
            refine lv_lshr hx hb dX5_textByte_58 rfl ?_
            refine lv_topl (fun l21 el21 => ?_)
            refine lv_l2i hx hb dX5_textByte_59 rfl ?_
            refine lv_topi (fun x22 ex22 => ?_)
            refine lv_sipush (v := 255) hx hb dX5_textByte_60 (by decide) ?_
            refine lv_iand hx hb dX5_textByte_63 ?_
            refine lv_topi (fun x23 ex23 => ?_)
            exact r_retI C hr hlk hM (⟨rfl, rfl, rfl, trivial⟩) dX5_textByte_64
          · have tc18 := eqF c18
            refine lv_iload_n hx hb dX5_textByte_49 rfl (lv_at hl 3 rfl) ?_
            refine lv_goto (tgt := 57) hx hb dX5_textByte_50 (by decide) ?_
            refine lv_imul hx hb dX5_textByte_57 ?_
            refine lv_topi (fun x24 ex24 => ?_)
            try (have tx24 := mulD (a := i0) (k := 8) (n := 8) (by decide) (by omega) (by omega); rw [← ex24] at tx24)
            refine lv_lshr hx hb dX5_textByte_58 rfl ?_
            refine lv_topl (fun l25 el25 => ?_)
            refine lv_l2i hx hb dX5_textByte_59 rfl ?_
            refine lv_topi (fun x26 ex26 => ?_)
            refine lv_sipush (v := 255) hx hb dX5_textByte_60 (by decide) ?_
            refine lv_iand hx hb dX5_textByte_63 ?_
            refine lv_topi (fun x27 ex27 => ?_)
            exact r_retI C hr hlk hM (⟨rfl, rfl, rfl, trivial⟩) dX5_textByte_64
      · have tc4 := leF c4
        refine lv_iconst (v := 1) hx hb dX5_textByte_20 (by decide) ?_
        refine lv_goto (tgt := 25) hx hb dX5_textByte_21 (by decide) ?_
        refine lv_istore_n (lv' := [(2, .int 1), (0, .ref h0), (1, .int i0)]) hx hb dX5_textByte_25 rfl hl (by decide) rfl (fun ls hl => ?_)
        refine lv_iload_n hx hb dX5_textByte_26 rfl (lv_at hl 0 rfl) ?_
        refine lv_if_eq (tgt := 37) hx hb dX5_textByte_27 (by decide) (fun c28 => ?_) (fun c28 => ?_)
        · have tc28 := eqT c28
          refine lv_aload_n hx hb dX5_textByte_37 rfl (lv_at hl 1 rfl) ?_
          refine r_get (ci := 5) (k := 12) (v := .long (mL S 512 h0)) C hM kh0 f_X5_26 rfl dX5_textByte_38 ?_
          refine lv_topl (fun l29 el29 => ?_)
          refine lv_lstore_n (lv' := [(3, .long l29), (2, .int 1), (0, .ref h0), (1, .int i0)]) hx hb dX5_textByte_41 rfl hl (by decide) rfl (fun ls hl => ?_)
          refine lv_lload_n hx hb dX5_textByte_42 rfl (lv_at hl 0 rfl) ?_
          refine lv_bipush (v := 8) hx hb dX5_textByte_43 (by decide) ?_
          refine lv_iload_n hx hb dX5_textByte_45 rfl (lv_at hl 1 rfl) ?_
          refine lv_if_eq (tgt := 53) hx hb dX5_textByte_46 (by decide) (fun c30 => ?_) (fun c30 => ?_)
          · have tc30 := eqT c30
            refine lv_iload_n hx hb dX5_textByte_53 rfl (lv_at hl 3 rfl) ?_
            refine lv_bipush (v := 8) hx hb dX5_textByte_54 (by decide) ?_
            refine lv_isub hx hb dX5_textByte_56 ?_
            refine lv_topi (fun x31 ex31 => ?_)
            try (have tx31 := subI (a := i0) (b := 8) (by omega) (by omega); rw [← ex31] at tx31)
            refine lv_imul hx hb dX5_textByte_57 ?_
            refine lv_topi (fun x32 ex32 => ?_)
            try (have tx32 := mulD (a := x31) (k := 8) (n := 8) (by decide) (by omega) (by omega); rw [← ex32] at tx32)
            refine lv_lshr hx hb dX5_textByte_58 rfl ?_
            refine lv_topl (fun l33 el33 => ?_)
            refine lv_l2i hx hb dX5_textByte_59 rfl ?_
            refine lv_topi (fun x34 ex34 => ?_)
            refine lv_sipush (v := 255) hx hb dX5_textByte_60 (by decide) ?_
            refine lv_iand hx hb dX5_textByte_63 ?_
            refine lv_topi (fun x35 ex35 => ?_)
            exact r_retI C hr hlk hM (⟨rfl, rfl, rfl, trivial⟩) dX5_textByte_64
          · have tc30 := eqF c30
            refine lv_iload_n hx hb dX5_textByte_49 rfl (lv_at hl 3 rfl) ?_
            refine lv_goto (tgt := 57) hx hb dX5_textByte_50 (by decide) ?_
            refine lv_imul hx hb dX5_textByte_57 ?_
            refine lv_topi (fun x36 ex36 => ?_)
            try (have tx36 := mulD (a := i0) (k := 8) (n := 8) (by decide) (by omega) (by omega); rw [← ex36] at tx36)
            refine lv_lshr hx hb dX5_textByte_58 rfl ?_
            refine lv_topl (fun l37 el37 => ?_)
            refine lv_l2i hx hb dX5_textByte_59 rfl ?_
            refine lv_topi (fun x38 ex38 => ?_)
            refine lv_sipush (v := 255) hx hb dX5_textByte_60 (by decide) ?_
            refine lv_iand hx hb dX5_textByte_63 ?_
            refine lv_topi (fun x39 ex39 => ?_)
            exact r_retI C hr hlk hM (⟨rfl, rfl, rfl, trivial⟩) dX5_textByte_64
        · have tc28 := eqF c28
          refine lv_aload_n hx hb dX5_textByte_30 rfl (lv_at hl 1 rfl) ?_
          refine r_get (ci := 5) (k := 11) (v := .long (mL S 511 h0)) C hM kh0 f_X5_23 rfl dX5_textByte_31 ?_
          refine lv_topl (fun l40 el40 => ?_)
          refine lv_goto (tgt := 41) hx hb dX5_textByte_34 (by decide) ?_
          refine lv_lstore_n (lv' := [(3, .long l40), (2, .int 1), (0, .ref h0), (1, .int i0)]) hx hb dX5_textByte_41 rfl hl (by decide) rfl (fun ls hl => ?_)
          refine lv_lload_n hx hb dX5_textByte_42 rfl (lv_at hl 0 rfl) ?_
          refine lv_bipush (v := 8) hx hb dX5_textByte_43 (by decide) ?_
          refine lv_iload_n hx hb dX5_textByte_45 rfl (lv_at hl 1 rfl) ?_
          refine lv_if_eq (tgt := 53) hx hb dX5_textByte_46 (by decide) (fun c41 => ?_) (fun c41 => ?_)
          · have tc41 := eqT c41
            refine lv_iload_n hx hb dX5_textByte_53 rfl (lv_at hl 3 rfl) ?_
            refine lv_bipush (v := 8) hx hb dX5_textByte_54 (by decide) ?_
            refine lv_isub hx hb dX5_textByte_56 ?_
            refine lv_topi (fun x42 ex42 => ?_)
            try (have tx42 := subI (a := i0) (b := 8) (by omega) (by omega); rw [← ex42] at tx42)
            refine lv_imul hx hb dX5_textByte_57 ?_
            refine lv_topi (fun x43 ex43 => ?_)
            try (have tx43 := mulD (a := x42) (k := 8) (n := 8) (by decide) (by omega) (by omega); rw [← ex43] at tx43)
            refine lv_lshr hx hb dX5_textByte_58 rfl ?_
            refine lv_topl (fun l44 el44 => ?_)
            refine lv_l2i hx hb dX5_textByte_59 rfl ?_
            refine lv_topi (fun x45 ex45 => ?_)
            refine lv_sipush (v := 255) hx hb dX5_textByte_60 (by decide) ?_
            refine lv_iand hx hb dX5_textByte_63 ?_
            refine lv_topi (fun x46 ex46 => ?_)
            exact r_retI C hr hlk hM (⟨rfl, rfl, rfl, trivial⟩) dX5_textByte_64
          · have tc41 := eqF c41
            refine lv_iload_n hx hb dX5_textByte_49 rfl (lv_at hl 3 rfl) ?_
            refine lv_goto (tgt := 57) hx hb dX5_textByte_50 (by decide) ?_
            refine lv_imul hx hb dX5_textByte_57 ?_
            refine lv_topi (fun x47 ex47 => ?_)
            try (have tx47 := mulD (a := i0) (k := 8) (n := 8) (by decide) (by omega) (by omega); rw [← ex47] at tx47)
            refine lv_lshr hx hb dX5_textByte_58 rfl ?_
            refine lv_topl (fun l48 el48 => ?_)
            refine lv_l2i hx hb dX5_textByte_59 rfl ?_
            refine lv_topi (fun x49 ex49 => ?_)
            refine lv_sipush (v := 255) hx hb dX5_textByte_60 (by decide) ?_
            refine lv_iand hx hb dX5_textByte_63 ?_
            refine lv_topi (fun x50 ex50 => ?_)
            exact r_retI C hr hlk hM (⟨rfl, rfl, rfl, trivial⟩) dX5_textByte_64
    · have tc3 := ltF c3
      refine lv_iconst (v := -1) hx hb dX5_textByte_12 (by decide) ?_
      exact r_retI C hr hlk hM (⟨rfl, rfl, rfl, trivial⟩) dX5_textByte_13
set_option maxHeartbeats 4000000 in
set_option maxRecDepth 100000 in
theorem c_X5_isHarmful (l : Launch) (D : gD) (H0 : Heap) (S : Mem) (kc ns : Nat) (h0 : Nat) {u : Nat} {tl : Int} {rho : Nat} (hI : CI x0 u tl rho S) (kh0 : mK S h0 = 6) : Met l yX5_isHarmful (wsU yX5_isHarmful cX5_isHarmful 2 (some .boolean)) ({ frames := 0, cells := 0, slots := 0, locals := 0 } : Room) (mP D H0 S kc ns [.ref h0]) (mQ D H0 gI (fun r S1 k1 n1 => S = S1 ∧ kc = k1 ∧ ns = n1 ∧ (r = 0 ∨ r = 1))) 0 0 (mF H0) := by
  refine r_met (own := RX5) (by decide +kernel) rfl (Nat.le_of_ble_eq_true rfl) ?_
  intro p e s m args below meth c C hr hlk hnm H ls hl hM
  obtain ⟨hx, hb, hml, hown, hts, -, -⟩ := id C
  have hl : lv_has ls 2 [(0, .ref h0)] := hl
  have t_0 : (0 : Int32).toInt = 0 := by decide
  have t_1 : (1 : Int32).toInt = 1 := by decide
  refine lv_aload_n hx hb dX5_isHarmful_0 rfl (lv_at hl 0 rfl) ?_
  refine lv_astore_n (lv' := [(1, .ref h0), (0, .ref h0)]) hx hb dX5_isHarmful_1 rfl hl (by decide) rfl (fun ls hl => ?_)
  have loop2 : ∀ (fu : Nat) (o : Option Nat) (H : Heap) (locs : List Loc) (ls : Array Slot), (∀ q, o = some q → mK S q = 6) → cm S o < fu → lv_has ls 2 [(1, va_rf o)] → mH D H0 S kc ns H locs → W p l e ({ frames := 0, cells := 0, slots := 0, locals := 0 } : Room) s m args below meth c H locs 0 0 (MQ below (mQ D H0 gI (fun r S1 k1 n1 => S = S1 ∧ kc = k1 ∧ ns = n1 ∧ (r = 0 ∨ r = 1))) args s 0 0 (mF H0)) (F0 m 2 ls []) := by
    intro fu
    induction fu with
    | zero => intro o H locs ls h2_0 hfu; exact absurd hfu (by omega)
    | succ fu ih2 =>
      intro o H locs ls h2_0 hfu hl hM
      have ko := h2_0
      refine lv_aload_nQ hx hb dX5_isHarmful_2 rfl (lv_at hl 0 rfl) ?_
      cases o with
      | none =>
        refine lv_ifnullN (tgt := 23) hx hb dX5_isHarmful_3 (by decide) ?_
        refine lv_iconst (v := 0) hx hb dX5_isHarmful_23 (by decide) ?_
        exact r_retZ C hr hlk rfl hM (⟨rfl, rfl, rfl, by decide⟩) dX5_isHarmful_24
      | some q1 =>
        have kq1 : mK S q1 = 6 := ko q1 rfl
        refine lv_ifnull hx hb dX5_isHarmful_3 ?_
        refine lv_aload_n hx hb dX5_isHarmful_6 rfl (lv_at hl 0 rfl) ?_
        refine r_get (ci := 5) (k := 14) (v := .int (mI S 514 q1)) C hM kq1 f_X5_32 rfl dX5_isHarmful_7 ?_
        refine lv_topi (fun x2 ex2 => ?_)
        refine lv_if_eq (tgt := 15) hx hb dX5_isHarmful_10 (by decide) (fun c3 => ?_) (fun c3 => ?_)
        · have tc3 := eqT c3
          refine lv_aload_n hx hb dX5_isHarmful_15 rfl (lv_at hl 0 rfl) ?_
          refine r_get (ci := 5) (k := 3) C hM kq1 f_X5_49 rfl dX5_isHarmful_16 ?_
          obtain ⟨r4, er4, kr4⟩ : ∃ r : Option Nat, mR S 503 q1 = r ∧ ∀ q, r = some q → mK S q = 6 := ⟨_, rfl, TI.opt hI.1 (ci := 5) (k := 3) kq1⟩
          refine W.eq (g2 := F0 m 19 ls [va_rf r4]) (by rw [← er4]; rfl) ?_
          refine lv_astore_nQ (lv' := [(1, va_rf r4)]) hx hb dX5_isHarmful_19 rfl hl (by decide) rfl (fun ls hl => ?_)
          refine lv_goto (tgt := 2) hx hb dX5_isHarmful_20 (by decide) ?_
          have h91 := cm503 hI kq1; rw [er4] at h91
          exact ih2 r4 _ _ _ ((kr4)) (by omega) (lv_sub hl [0] rfl) hM
        · have tc3 := eqF c3
          refine lv_iconst (v := 1) hx hb dX5_isHarmful_13 (by decide) ?_
          exact r_retZ C hr hlk rfl hM (⟨rfl, rfl, rfl, by decide⟩) dX5_isHarmful_14
  exact loop2 ((cm S h0) + 1) (some h0) _ _ _ (fun z h => by cases h; exact kh0) (by omega) (lv_sub hl [0] rfl) hM
set_option maxHeartbeats 4000000 in
set_option maxRecDepth 100000 in
theorem c_X5_hasTextOf (l : Launch) (D : gD) (H0 : Heap) (S : Mem) (kc ns : Nat) (h0 h1 : Nat) {u : Nat} {tl : Int} {rho : Nat} (hI : CI x0 u tl rho S) (kh0 : mK S h0 = 6) (kh1 : mK S h1 = 6) : Met l yX5_hasTextOf (wsU yX5_hasTextOf cX5_hasTextOf 2 (some .boolean)) ({ frames := 0, cells := 0, slots := 0, locals := 0 } : Room) (mP D H0 S kc ns [.ref h0, .ref h1]) (mQ D H0 gI (fun r S1 k1 n1 => S = S1 ∧ kc = k1 ∧ ns = n1 ∧ (r = 0 ∨ r = 1))) 0 0 (mF H0) := by
  refine r_met (own := RX5) (by decide +kernel) rfl (Nat.le_of_ble_eq_true rfl) ?_
  intro p e s m args below meth c C hr hlk hnm H ls hl hM
  obtain ⟨hx, hb, hml, hown, hts, -, -⟩ := id C
  have hl : lv_has ls 2 [(0, .ref h0), (1, .ref h1)] := hl
  have t_0 : (0 : Int32).toInt = 0 := by decide
  have t_1 : (1 : Int32).toInt = 1 := by decide
  refine lv_aload_n hx hb dX5_hasTextOf_0 rfl (lv_at hl 0 rfl) ?_
  refine r_get (ci := 5) (k := 13) (v := .int (mI S 513 h0)) C hM kh0 f_X5_29 rfl dX5_hasTextOf_1 ?_
  refine lv_topi (fun x1 ex1 => ?_)
  refine lv_aload_n hx hb dX5_hasTextOf_4 rfl (lv_at hl 1 rfl) ?_
  refine r_get (ci := 5) (k := 13) (v := .int (mI S 513 h1)) C hM kh1 f_X5_29 rfl dX5_hasTextOf_5 ?_
  refine lv_topi (fun x2 ex2 => ?_)
  refine lv_icmp_ne (tgt := 39) hx hb dX5_hasTextOf_8 (by decide) (fun c3 => ?_) (fun c3 => ?_)
  · have tc3 := eqF c3
    refine lv_iconst (v := 0) hx hb dX5_hasTextOf_39 (by decide) ?_
    exact r_retZ C hr hlk rfl hM (⟨rfl, rfl, rfl, by decide⟩) dX5_hasTextOf_40
  · have tc3 := eqT c3
    refine lv_aload_n hx hb dX5_hasTextOf_11 rfl (lv_at hl 0 rfl) ?_
    refine r_get (ci := 5) (k := 11) (v := .long (mL S 511 h0)) C hM kh0 f_X5_23 rfl dX5_hasTextOf_12 ?_
    refine lv_topl (fun l4 el4 => ?_)
    refine lv_aload_n hx hb dX5_hasTextOf_15 rfl (lv_at hl 1 rfl) ?_
    refine r_get (ci := 5) (k := 11) (v := .long (mL S 511 h1)) C hM kh1 f_X5_23 rfl dX5_hasTextOf_16 ?_
    refine lv_topl (fun l5 el5 => ?_)
    refine W.lcmp hx hb dX5_hasTextOf_19 ?_
    refine lv_topi (fun x6 ex6 => ?_)
    refine lv_if_ne (tgt := 39) hx hb dX5_hasTextOf_20 (by decide) (fun c7 => ?_) (fun c7 => ?_)
    · have tc7 := eqF c7
      refine lv_iconst (v := 0) hx hb dX5_hasTextOf_39 (by decide) ?_
      exact r_retZ C hr hlk rfl hM (⟨rfl, rfl, rfl, by decide⟩) dX5_hasTextOf_40
    · have tc7 := eqT c7
      refine lv_aload_n hx hb dX5_hasTextOf_23 rfl (lv_at hl 0 rfl) ?_
      refine r_get (ci := 5) (k := 12) (v := .long (mL S 512 h0)) C hM kh0 f_X5_26 rfl dX5_hasTextOf_24 ?_
      refine lv_topl (fun l8 el8 => ?_)
      refine lv_aload_n hx hb dX5_hasTextOf_27 rfl (lv_at hl 1 rfl) ?_
      refine r_get (ci := 5) (k := 12) (v := .long (mL S 512 h1)) C hM kh1 f_X5_26 rfl dX5_hasTextOf_28 ?_
      refine lv_topl (fun l9 el9 => ?_)
      refine W.lcmp hx hb dX5_hasTextOf_31 ?_
      refine lv_topi (fun x10 ex10 => ?_)
      refine lv_if_ne (tgt := 39) hx hb dX5_hasTextOf_32 (by decide) (fun c11 => ?_) (fun c11 => ?_)
      · have tc11 := eqF c11
        refine lv_iconst (v := 0) hx hb dX5_hasTextOf_39 (by decide) ?_
        exact r_retZ C hr hlk rfl hM (⟨rfl, rfl, rfl, by decide⟩) dX5_hasTextOf_40
      · have tc11 := eqT c11
        refine lv_iconst (v := 1) hx hb dX5_hasTextOf_35 (by decide) ?_
        refine lv_goto (tgt := 40) hx hb dX5_hasTextOf_36 (by decide) ?_
        exact r_retZ C hr hlk rfl hM (⟨rfl, rfl, rfl, by decide⟩) dX5_hasTextOf_40
set_option maxHeartbeats 4000000 in
set_option maxRecDepth 100000 in
theorem c_X5_hasPathOf (l : Launch) (D : gD) (H0 : Heap) (S : Mem) (kc ns : Nat) (h0 h1 : Nat) (i0 i1 : Int32) {u : Nat} {tl : Int} {rho : Nat} (hI : CI x0 u tl rho S) (kh0 : mK S h0 = 6) (kh1 : mK S h1 = 6) : Met l yX5_hasPathOf (wsU yX5_hasPathOf cX5_hasPathOf 7 (some .boolean)) ({ frames := 0, cells := 0, slots := 0, locals := 0 } : Room) (mP D H0 S kc ns [.ref h0, .ref h1, .int i0, .int i1]) (mQ D H0 gI (fun r S1 k1 n1 => S = S1 ∧ kc = k1 ∧ ns = n1 ∧ (r = 0 ∨ r = 1))) 0 0 (mF H0) := by
  refine r_met (own := RX5) (by decide +kernel) rfl (Nat.le_of_ble_eq_true rfl) ?_
  intro p e s m args below meth c C hr hlk hnm H ls hl hM
  obtain ⟨hx, hb, hml, hown, hts, -, -⟩ := id C
  have hl : lv_has ls 7 [(0, .ref h0), (1, .ref h1), (2, .int i0), (3, .int i1)] := hl
  have t_0 : (0 : Int32).toInt = 0 := by decide
  have t_1 : (1 : Int32).toInt = 1 := by decide
  refine lv_aload_n hx hb dX5_hasPathOf_0 rfl (lv_at hl 0 rfl) ?_
  refine lv_astore (lv' := [(4, .ref h0), (0, .ref h0), (1, .ref h1), (2, .int i0), (3, .int i1)]) hx hb dX5_hasPathOf_1 hl (by decide) rfl (fun ls hl => ?_)
  refine lv_aload_n hx hb dX5_hasPathOf_3 rfl (lv_at hl 2 rfl) ?_
  refine lv_astore (lv' := [(5, .ref h1), (4, .ref h0), (0, .ref h0), (1, .ref h1), (2, .int i0), (3, .int i1)]) hx hb dX5_hasPathOf_4 hl (by decide) rfl (fun ls hl => ?_)
  have loop6 : ∀ (fu : Nat) (o2 : Option Nat) (o : Option Nat) (H : Heap) (locs : List Loc) (ls : Array Slot), (∀ q, o = some q → mK S q = 6) → (∀ q, o2 = some q → mK S q = 6) → cm S o < fu → lv_has ls 7 [(2, .int i0), (3, .int i1), (4, va_rf o), (5, va_rf o2)] → mH D H0 S kc ns H locs → W p l e ({ frames := 0, cells := 0, slots := 0, locals := 0 } : Room) s m args below meth c H locs 0 0 (MQ below (mQ D H0 gI (fun r S1 k1 n1 => S = S1 ∧ kc = k1 ∧ ns = n1 ∧ (r = 0 ∨ r = 1))) args s 0 0 (mF H0)) (F0 m 6 ls []) := by
    intro fu
    induction fu with
    | zero => intro o2 o H locs ls h6_0 h6_1 hfu; exact absurd hfu (by omega)
    | succ fu ih6 =>
      intro o2 o H locs ls h6_0 h6_1 hfu hl hM
      have ko := h6_0
      have ko2 := h6_1
      refine lv_aloadQ hx hb dX5_hasPathOf_6 (lv_at hl 2 rfl) ?_
      cases o with
      | none =>
        refine lv_ifnullN (tgt := 79) hx hb dX5_hasPathOf_8 (by decide) ?_
        refine lv_aloadN hx hb dX5_hasPathOf_79 (lv_at hl 2 rfl) ?_
        refine lv_ifnonnullN hx hb dX5_hasPathOf_81 ?_
        refine lv_aloadQ hx hb dX5_hasPathOf_84 (lv_at hl 3 rfl) ?_
        cases o2 with
        | none =>
          refine lv_ifnonnullN hx hb dX5_hasPathOf_86 ?_
          refine lv_iconst (v := 1) hx hb dX5_hasPathOf_89 (by decide) ?_
          refine lv_goto (tgt := 94) hx hb dX5_hasPathOf_90 (by decide) ?_
          exact r_retZ C hr hlk rfl hM (⟨rfl, rfl, rfl, by decide⟩) dX5_hasPathOf_94
        | some q2 =>
          have kq2 : mK S q2 = 6 := ko2 q2 rfl
          refine lv_ifnonnull (tgt := 93) hx hb dX5_hasPathOf_86 (by decide) ?_
          refine lv_iconst (v := 0) hx hb dX5_hasPathOf_93 (by decide) ?_
          exact r_retZ C hr hlk rfl hM (⟨rfl, rfl, rfl, by decide⟩) dX5_hasPathOf_94
      | some q1 =>
        have kq1 : mK S q1 = 6 := ko q1 rfl
        refine lv_ifnull hx hb dX5_hasPathOf_8 ?_
        refine lv_aloadQ hx hb dX5_hasPathOf_11 (lv_at hl 3 rfl) ?_
        cases o2 with
        | none =>
          refine lv_ifnullN (tgt := 79) hx hb dX5_hasPathOf_13 (by decide) ?_
          refine lv_aload hx hb dX5_hasPathOf_79 (lv_at hl 2 rfl) ?_
          refine lv_ifnonnull (tgt := 93) hx hb dX5_hasPathOf_81 (by decide) ?_
          refine lv_iconst (v := 0) hx hb dX5_hasPathOf_93 (by decide) ?_
          exact r_retZ C hr hlk rfl hM (⟨rfl, rfl, rfl, by decide⟩) dX5_hasPathOf_94
        | some q3 =>
          have kq3 : mK S q3 = 6 := ko2 q3 rfl
          refine lv_ifnull hx hb dX5_hasPathOf_13 ?_
          refine lv_aload hx hb dX5_hasPathOf_16 (lv_at hl 3 rfl) ?_
          refine r_get (ci := 5) (k := 7) (v := .int (mI S 507 q3)) C hM kq3 f_X5_81 rfl dX5_hasPathOf_18 ?_
          refine lv_topi (fun x4 ex4 => ?_)
          refine lv_iload_n hx hb dX5_hasPathOf_21 rfl (lv_at hl 0 rfl) ?_
          refine lv_icmp_ne (tgt := 29) hx hb dX5_hasPathOf_22 (by decide) (fun c5 => ?_) (fun c5 => ?_)
          · have tc5 := eqF c5
            refine lv_aload hx hb dX5_hasPathOf_29 (lv_at hl 3 rfl) ?_
            refine r_get (ci := 5) (k := 6) (v := .int (mI S 506 q3)) C hM kq3 f_X5_78 rfl dX5_hasPathOf_31 ?_
            refine lv_topi (fun x6 ex6 => ?_)
            refine lv_istore (lv' := [(6, .int x6), (2, .int i0), (3, .int i1), (4, .ref q1), (5, .ref q3)]) hx hb dX5_hasPathOf_34 hl (by decide) rfl (fun ls hl => ?_)
            refine lv_aload hx hb dX5_hasPathOf_36 (lv_at hl 3 rfl) ?_
            refine r_get (ci := 5) (k := 2) (v := .long (mL S 502 q1)) C hM kq1 f_X5_46 rfl dX5_hasPathOf_38 ?_
            refine lv_topl (fun l7 el7 => ?_)
            refine lv_aload hx hb dX5_hasPathOf_41 (lv_at hl 4 rfl) ?_
            refine r_get (ci := 5) (k := 2) (v := .long (mL S 502 q3)) C hM kq3 f_X5_46 rfl dX5_hasPathOf_43 ?_
            refine lv_topl (fun l8 el8 => ?_)
            refine W.lcmp hx hb dX5_hasPathOf_46 ?_
            refine lv_topi (fun x9 ex9 => ?_)
            refine lv_if_ne (tgt := 60) hx hb dX5_hasPathOf_47 (by decide) (fun c10 => ?_) (fun c10 => ?_)
            · have tc10 := eqF c10
              refine lv_iconst (v := 0) hx hb dX5_hasPathOf_60 (by decide) ?_
              exact r_retZ C hr hlk rfl hM (⟨rfl, rfl, rfl, by decide⟩) dX5_hasPathOf_61
            · have tc10 := eqT c10
              refine lv_aload hx hb dX5_hasPathOf_50 (lv_at hl 3 rfl) ?_
              refine r_get (ci := 5) (k := 6) (v := .int (mI S 506 q1)) C hM kq1 f_X5_78 rfl dX5_hasPathOf_52 ?_
              refine lv_topi (fun x11 ex11 => ?_)
              refine lv_iload hx hb dX5_hasPathOf_55 (lv_at hl 0 rfl) ?_
              refine lv_icmp_eq (tgt := 62) hx hb dX5_hasPathOf_57 (by decide) (fun c12 => ?_) (fun c12 => ?_)
              · have tc12 := eqT c12
                refine lv_aload hx hb dX5_hasPathOf_62 (lv_at hl 3 rfl) ?_
                refine r_get (ci := 5) (k := 3) C hM kq1 f_X5_49 rfl dX5_hasPathOf_64 ?_
                obtain ⟨r13, er13, kr13⟩ : ∃ r : Option Nat, mR S 503 q1 = r ∧ ∀ q, r = some q → mK S q = 6 := ⟨_, rfl, TI.opt hI.1 (ci := 5) (k := 3) kq1⟩
                refine W.eq (g2 := F0 m 67 ls [va_rf r13]) (by rw [← er13]; rfl) ?_
                refine lv_astoreQ (lv' := [(4, va_rf r13), (6, .int x6), (2, .int i0), (3, .int i1), (5, .ref q3)]) hx hb dX5_hasPathOf_67 hl (by decide) rfl (fun ls hl => ?_)
                refine lv_aload hx hb dX5_hasPathOf_69 (lv_at hl 4 rfl) ?_
                refine r_get (ci := 5) (k := 3) C hM kq3 f_X5_49 rfl dX5_hasPathOf_71 ?_
                obtain ⟨r14, er14, kr14⟩ : ∃ r : Option Nat, mR S 503 q3 = r ∧ ∀ q, r = some q → mK S q = 6 := ⟨_, rfl, TI.opt hI.1 (ci := 5) (k := 3) kq3⟩
                refine W.eq (g2 := F0 m 74 ls [va_rf r14]) (by rw [← er14]; rfl) ?_
                refine lv_astoreQ (lv' := [(5, va_rf r14), (4, va_rf r13), (6, .int x6), (2, .int i0), (3, .int i1)]) hx hb dX5_hasPathOf_74 hl (by decide) (by simp [cat_rf, cat_i, cat_l, cat_a, cat_n]) (fun ls hl => ?_)
                refine lv_goto (tgt := 6) hx hb dX5_hasPathOf_76 (by decide) ?_
                have h94 := cm503 hI kq1; rw [er13] at h94
                exact ih6 r14 r13 _ _ _ ((kr13)) ((kr14)) (by omega) (lv_sub hl [3, 4, 1, 0] rfl) hM
              · have tc12 := eqF c12
                refine lv_iconst (v := 0) hx hb dX5_hasPathOf_60 (by decide) ?_
                exact r_retZ C hr hlk rfl hM (⟨rfl, rfl, rfl, by decide⟩) dX5_hasPathOf_61
          · have tc5 := eqT c5
            refine lv_iload_n hx hb dX5_hasPathOf_25 rfl (lv_at hl 1 rfl) ?_
            refine lv_goto (tgt := 34) hx hb dX5_hasPathOf_26 (by decide) ?_
            refine lv_istore (lv' := [(6, .int i1), (2, .int i0), (3, .int i1), (4, .ref q1), (5, .ref q3)]) hx hb dX5_hasPathOf_34 hl (by decide) rfl (fun ls hl => ?_)
            refine lv_aload hx hb dX5_hasPathOf_36 (lv_at hl 3 rfl) ?_
            refine r_get (ci := 5) (k := 2) (v := .long (mL S 502 q1)) C hM kq1 f_X5_46 rfl dX5_hasPathOf_38 ?_
            refine lv_topl (fun l15 el15 => ?_)
            refine lv_aload hx hb dX5_hasPathOf_41 (lv_at hl 4 rfl) ?_
            refine r_get (ci := 5) (k := 2) (v := .long (mL S 502 q3)) C hM kq3 f_X5_46 rfl dX5_hasPathOf_43 ?_
            refine lv_topl (fun l16 el16 => ?_)
            refine W.lcmp hx hb dX5_hasPathOf_46 ?_
            refine lv_topi (fun x17 ex17 => ?_)
            refine lv_if_ne (tgt := 60) hx hb dX5_hasPathOf_47 (by decide) (fun c18 => ?_) (fun c18 => ?_)
            · have tc18 := eqF c18
              refine lv_iconst (v := 0) hx hb dX5_hasPathOf_60 (by decide) ?_
              exact r_retZ C hr hlk rfl hM (⟨rfl, rfl, rfl, by decide⟩) dX5_hasPathOf_61
            · have tc18 := eqT c18
              refine lv_aload hx hb dX5_hasPathOf_50 (lv_at hl 3 rfl) ?_
              refine r_get (ci := 5) (k := 6) (v := .int (mI S 506 q1)) C hM kq1 f_X5_78 rfl dX5_hasPathOf_52 ?_
              refine lv_topi (fun x19 ex19 => ?_)
              refine lv_iload hx hb dX5_hasPathOf_55 (lv_at hl 0 rfl) ?_
              refine lv_icmp_eq (tgt := 62) hx hb dX5_hasPathOf_57 (by decide) (fun c20 => ?_) (fun c20 => ?_)
              · have tc20 := eqT c20
                refine lv_aload hx hb dX5_hasPathOf_62 (lv_at hl 3 rfl) ?_
                refine r_get (ci := 5) (k := 3) C hM kq1 f_X5_49 rfl dX5_hasPathOf_64 ?_
                obtain ⟨r21, er21, kr21⟩ : ∃ r : Option Nat, mR S 503 q1 = r ∧ ∀ q, r = some q → mK S q = 6 := ⟨_, rfl, TI.opt hI.1 (ci := 5) (k := 3) kq1⟩
                refine W.eq (g2 := F0 m 67 ls [va_rf r21]) (by rw [← er21]; rfl) ?_
                refine lv_astoreQ (lv' := [(4, va_rf r21), (6, .int i1), (2, .int i0), (3, .int i1), (5, .ref q3)]) hx hb dX5_hasPathOf_67 hl (by decide) rfl (fun ls hl => ?_)
                refine lv_aload hx hb dX5_hasPathOf_69 (lv_at hl 4 rfl) ?_
                refine r_get (ci := 5) (k := 3) C hM kq3 f_X5_49 rfl dX5_hasPathOf_71 ?_
                obtain ⟨r22, er22, kr22⟩ : ∃ r : Option Nat, mR S 503 q3 = r ∧ ∀ q, r = some q → mK S q = 6 := ⟨_, rfl, TI.opt hI.1 (ci := 5) (k := 3) kq3⟩
                refine W.eq (g2 := F0 m 74 ls [va_rf r22]) (by rw [← er22]; rfl) ?_
                refine lv_astoreQ (lv' := [(5, va_rf r22), (4, va_rf r21), (6, .int i1), (2, .int i0), (3, .int i1)]) hx hb dX5_hasPathOf_74 hl (by decide) (by simp [cat_rf, cat_i, cat_l, cat_a, cat_n]) (fun ls hl => ?_)
                refine lv_goto (tgt := 6) hx hb dX5_hasPathOf_76 (by decide) ?_
                have h94 := cm503 hI kq1; rw [er21] at h94
                exact ih6 r22 r21 _ _ _ ((kr21)) ((kr22)) (by omega) (lv_sub hl [3, 4, 1, 0] rfl) hM
              · have tc20 := eqF c20
                refine lv_iconst (v := 0) hx hb dX5_hasPathOf_60 (by decide) ?_
                exact r_retZ C hr hlk rfl hM (⟨rfl, rfl, rfl, by decide⟩) dX5_hasPathOf_61
  exact loop6 ((cm S h0) + 1) (some h1) (some h0) _ _ _ (fun z h => by cases h; exact kh0) (fun z h => by cases h; exact kh1) (by omega) (lv_sub hl [4, 5, 1, 0] rfl) hM
set_option maxHeartbeats 4000000 in
set_option maxRecDepth 100000 in
theorem c_X5_kindOf (l : Launch) (D : gD) (H0 : Heap) (S : Mem) (kc ns : Nat) (o0 : Option Nat) {u : Nat} {tl : Int} {rho : Nat} (hI : CI x0 u tl rho S) (ko0 : ∀ q, o0 = some q → mK S q = 6) : Met l yX5_kindOf (wsU yX5_kindOf cX5_kindOf 1 (some .long)) ({ frames := 0, cells := 0, slots := 0, locals := 0 } : Room) (mP D H0 S kc ns [va_rf o0]) (mQ D H0 gL (fun r S1 k1 n1 => S = S1 ∧ kc = k1 ∧ ns = n1 ∧ True)) 0 0 (mF H0) := by
  refine r_met (own := RX5) (by decide +kernel) rfl (by simp [lg_sl, cat_rf, cat_i, cat_l, cat_a, cat_n]) ?_
  intro p e s m args below meth c C hr hlk hnm H ls hl hM
  obtain ⟨hx, hb, hml, hown, hts, -, -⟩ := id C
  have hl : lv_has ls 1 [(0, va_rf o0)] := by simpa [lv_args, cat_rf, cat_i, cat_l, cat_a, cat_n] using hl
  have t_0 : (0 : Int32).toInt = 0 := by decide
  refine lv_aload_nQ hx hb dX5_kindOf_0 rfl (lv_at hl 0 rfl) ?_
  cases o0 with
  | none =>
    refine lv_ifnonnullN hx hb dX5_kindOf_1 ?_
    refine lv_lconst (v := 0) hx hb dX5_kindOf_4 (by decide) ?_
    refine lv_goto (tgt := 12) hx hb dX5_kindOf_5 (by decide) ?_
    exact r_retL C hr hlk hM (⟨rfl, rfl, rfl, trivial⟩) dX5_kindOf_12
  | some q1 =>
    have kq1 : mK S q1 = 6 := ko0 q1 rfl
    refine lv_ifnonnull (tgt := 8) hx hb dX5_kindOf_1 (by decide) ?_
    refine lv_aload_n hx hb dX5_kindOf_8 rfl (lv_at hl 0 rfl) ?_
    refine r_get (ci := 5) (k := 2) (v := .long (mL S 502 q1)) C hM kq1 f_X5_46 rfl dX5_kindOf_9 ?_
    refine lv_topl (fun l2 el2 => ?_)
    exact r_retL C hr hlk hM (⟨rfl, rfl, rfl, trivial⟩) dX5_kindOf_12
set_option maxHeartbeats 4000000 in
set_option maxRecDepth 100000 in
theorem c_X5_nameOf (l : Launch) (D : gD) (H0 : Heap) (S : Mem) (kc ns : Nat) (o0 : Option Nat) {u : Nat} {tl : Int} {rho : Nat} (hI : CI x0 u tl rho S) (ko0 : ∀ q, o0 = some q → mK S q = 6) : Met l yX5_nameOf (wsU yX5_nameOf cX5_nameOf 1 (some .long)) ({ frames := 0, cells := 0, slots := 0, locals := 0 } : Room) (mP D H0 S kc ns [va_rf o0]) (mQ D H0 gL (fun r S1 k1 n1 => S = S1 ∧ kc = k1 ∧ ns = n1 ∧ True)) 0 0 (mF H0) := by
  refine r_met (own := RX5) (by decide +kernel) rfl (by simp [lg_sl, cat_rf, cat_i, cat_l, cat_a, cat_n]) ?_
  intro p e s m args below meth c C hr hlk hnm H ls hl hM
  obtain ⟨hx, hb, hml, hown, hts, -, -⟩ := id C
  have hl : lv_has ls 1 [(0, va_rf o0)] := by simpa [lv_args, cat_rf, cat_i, cat_l, cat_a, cat_n] using hl
  have t_0 : (0 : Int32).toInt = 0 := by decide
  refine lv_aload_nQ hx hb dX5_nameOf_0 rfl (lv_at hl 0 rfl) ?_
  cases o0 with
  | none =>
    refine lv_ifnonnullN hx hb dX5_nameOf_1 ?_
    refine lv_lconst (v := 0) hx hb dX5_nameOf_4 (by decide) ?_
    refine lv_goto (tgt := 12) hx hb dX5_nameOf_5 (by decide) ?_
    exact r_retL C hr hlk hM (⟨rfl, rfl, rfl, trivial⟩) dX5_nameOf_12
  | some q1 =>
    have kq1 : mK S q1 = 6 := ko0 q1 rfl
    refine lv_ifnonnull (tgt := 8) hx hb dX5_nameOf_1 (by decide) ?_
    refine lv_aload_n hx hb dX5_nameOf_8 rfl (lv_at hl 0 rfl) ?_
    refine r_get (ci := 5) (k := 10) (v := .long (mL S 510 q1)) C hM kq1 f_X5_19 rfl dX5_nameOf_9 ?_
    refine lv_topl (fun l2 el2 => ?_)
    exact r_retL C hr hlk hM (⟨rfl, rfl, rfl, trivial⟩) dX5_nameOf_12
set_option maxHeartbeats 4000000 in
set_option maxRecDepth 100000 in
theorem c_X5_sameLabel (l : Launch) (D : gD) (H0 : Heap) (S : Mem) (kc ns : Nat) (o0 o1 : Option Nat) {u : Nat} {tl : Int} {rho : Nat} (hI : CI x0 u tl rho S) (ko0 : ∀ q, o0 = some q → mK S q = 6) (ko1 : ∀ q, o1 = some q → mK S q = 6) : Met l yX5_sameLabel (wsU yX5_sameLabel cX5_sameLabel 2 (some .boolean)) ({ frames := 1, cells := 0, slots := 0, locals := 21 } : Room) (mP D H0 S kc ns [va_rf o0, va_rf o1]) (mQ D H0 gI (fun r S1 k1 n1 => S = S1 ∧ kc = k1 ∧ ns = n1 ∧ (r = 0 ∨ r = 1))) 0 0 (mF H0) := by
  refine r_met (own := RX5) (by decide +kernel) rfl (by simp [lg_sl, cat_rf, cat_i, cat_l, cat_a, cat_n]) ?_
  intro p e s m args below meth c C hr hlk hnm H ls hl hM
  obtain ⟨hx, hb, hml, hown, hts, -, -⟩ := id C
  have hl : lv_has ls 2 [(0, va_rf o0), (1, va_rf o1)] := by simpa [lv_args, cat_rf, cat_i, cat_l, cat_a, cat_n] using hl
  have t_0 : (0 : Int32).toInt = 0 := by decide
  have t_1 : (1 : Int32).toInt = 1 := by decide
  refine lv_aload_nQ hx hb dX5_sameLabel_0 rfl (lv_at hl 0 rfl) ?_
  cases o0 with
  | none =>
    refine lv_ifnullN (tgt := 8) hx hb dX5_sameLabel_1 (by decide) ?_
    refine lv_aload_nN hx hb dX5_sameLabel_8 rfl (lv_at hl 0 rfl) ?_
    refine lv_aload_nQ hx hb dX5_sameLabel_9 rfl (lv_at hl 1 rfl) ?_
    refine lv_acmp_ne (rx := none) (ry := o1) (tgt := 17) hx hb dX5_sameLabel_10 (by decide) (fun c2 => ?_) (fun c2 => ?_)
    · have tc2 := trivial
      refine lv_iconst (v := 0) hx hb dX5_sameLabel_17 (by decide) ?_
      refine lv_goto (tgt := 26) hx hb dX5_sameLabel_18 (by decide) ?_
      exact r_retZ C hr hlk rfl hM (⟨rfl, rfl, rfl, by decide⟩) dX5_sameLabel_26
    · have tc2 := trivial
      refine lv_iconst (v := 1) hx hb dX5_sameLabel_13 (by decide) ?_
      refine lv_goto (tgt := 26) hx hb dX5_sameLabel_14 (by decide) ?_
      exact r_retZ C hr hlk rfl hM (⟨rfl, rfl, rfl, by decide⟩) dX5_sameLabel_26
  | some q1 =>
    have kq1 : mK S q1 = 6 := ko0 q1 rfl
    refine lv_ifnull hx hb dX5_sameLabel_1 ?_
    refine lv_aload_nQ hx hb dX5_sameLabel_4 rfl (lv_at hl 1 rfl) ?_
    cases o1 with
    | none =>
      refine lv_ifnonnullN hx hb dX5_sameLabel_5 ?_
      refine lv_aload_n hx hb dX5_sameLabel_8 rfl (lv_at hl 0 rfl) ?_
      refine lv_aload_nN hx hb dX5_sameLabel_9 rfl (lv_at hl 1 rfl) ?_
      refine lv_acmp_ne (rx := some q1) (ry := none) (tgt := 17) hx hb dX5_sameLabel_10 (by decide) (fun c4 => ?_) (fun c4 => ?_)
      · have tc4 := trivial
        refine lv_iconst (v := 0) hx hb dX5_sameLabel_17 (by decide) ?_
        refine lv_goto (tgt := 26) hx hb dX5_sameLabel_18 (by decide) ?_
        exact r_retZ C hr hlk rfl hM (⟨rfl, rfl, rfl, by decide⟩) dX5_sameLabel_26
      · have tc4 := trivial
        refine lv_iconst (v := 1) hx hb dX5_sameLabel_13 (by decide) ?_
        refine lv_goto (tgt := 26) hx hb dX5_sameLabel_14 (by decide) ?_
        exact r_retZ C hr hlk rfl hM (⟨rfl, rfl, rfl, by decide⟩) dX5_sameLabel_26
    | some q3 =>
      have kq3 : mK S q3 = 6 := ko1 q3 rfl
      refine lv_ifnonnull (tgt := 21) hx hb dX5_sameLabel_5 (by decide) ?_
      refine lv_aload_n hx hb dX5_sameLabel_21 rfl (lv_at hl 0 rfl) ?_
      refine lv_aload_n hx hb dX5_sameLabel_22 rfl (lv_at hl 1 rfl) ?_
      refine r_V (As := [.ref q3]) (rest := []) (ci := 5) C hM (c_X5_hasTextOf l D H0 S kc ns q1 q3 hI kq1 kq3) i_X5_hasTextOf m_X5_88 kq1 rfl rfl rfl hl.1 rfl (Nat.le_of_ble_eq_true rfl) ⟨by decide, by decide⟩ ⟨by decide, by decide⟩ dX5_sameLabel_23 (fun x8 S5 k6 n7 H locs p9 hM => ?_)
      obtain ⟨rfl, rfl, rfl, hx8⟩ := p9
      refine W.eq (g2 := F0 m 26 ls [.int x8]) rfl ?_
      exact r_retZ C hr hlk (nzb hx8) hM (⟨rfl, rfl, rfl, hx8⟩) dX5_sameLabel_26
set_option maxHeartbeats 4000000 in
set_option maxRecDepth 100000 in
theorem c_X5_marksSharedWith (l : Launch) (D : gD) (H0 : Heap) (S : Mem) (kc ns : Nat) (h0 h1 : Nat) {u : Nat} {tl : Int} {rho : Nat} (hI : CI x0 u tl rho S) (kh0 : mK S h0 = 6) (kh1 : mK S h1 = 6) : Met l yX5_marksSharedWith (wsU yX5_marksSharedWith cX5_marksSharedWith 3 (some .int)) ({ frames := 2, cells := 0, slots := 0, locals := 42 } : Room) (mP D H0 S kc ns [.ref h0, .ref h1]) (mQ D H0 gI (fun r S1 k1 n1 => S = S1 ∧ kc = k1 ∧ ns = n1 ∧ True)) 0 0 (mF H0) := by
  refine r_met (own := RX5) (by decide +kernel) rfl (Nat.le_of_ble_eq_true rfl) ?_
  intro p e s m args below meth c C hr hlk hnm H ls hl hM
  obtain ⟨hx, hb, hml, hown, hts, -, -⟩ := id C
  have hl : lv_has ls 3 [(0, .ref h0), (1, .ref h1)] := hl
  have t_m1 : (-1 : Int32).toInt = -1 := by decide
  have t_0 : (0 : Int32).toInt = 0 := by decide
  have t_1 : (1 : Int32).toInt = 1 := by decide
  have t_2 : (2 : Int32).toInt = 2 := by decide
  have t_4 : (4 : Int32).toInt = 4 := by decide
  have t_8 : (8 : Int32).toInt = 8 := by decide
  have t_16 : (16 : Int32).toInt = 16 := by decide
  have t_32 : (32 : Int32).toInt = 32 := by decide
  have t_64 : (64 : Int32).toInt = 64 := by decide
  have t_128 : (128 : Int32).toInt = 128 := by decide
  refine lv_iconst (v := 0) hx hb dX5_marksSharedWith_0 (by decide) ?_
  refine lv_istore_n (lv' := [(2, .int 0), (0, .ref h0), (1, .ref h1)]) hx hb dX5_marksSharedWith_1 rfl hl (by decide) rfl (fun ls hl => ?_)
  refine lv_iload_n hx hb dX5_marksSharedWith_2 rfl (lv_at hl 0 rfl) ?_
  refine lv_aload_n hx hb dX5_marksSharedWith_3 rfl (lv_at hl 1 rfl) ?_
  refine r_get (ci := 5) (k := 10) (v := .long (mL S 510 h0)) C hM kh0 f_X5_19 rfl dX5_marksSharedWith_4 ?_
  refine lv_topl (fun l1 el1 => ?_)
  refine lv_aload_n hx hb dX5_marksSharedWith_7 rfl (lv_at hl 2 rfl) ?_
  refine r_get (ci := 5) (k := 10) (v := .long (mL S 510 h1)) C hM kh1 f_X5_19 rfl dX5_marksSharedWith_8 ?_
  refine lv_topl (fun l2 el2 => ?_)
  refine W.lcmp hx hb dX5_marksSharedWith_11 ?_
  refine lv_topi (fun x3 ex3 => ?_)
  have join20 : ∀ (j20 : Int32) (H : Heap) (locs : List Loc) (ls : Array Slot), lv_has ls 3 [(2, .int 0), (0, .ref h0), (1, .ref h1)] → mH D H0 S kc ns H locs → W p l e ({ frames := 2, cells := 0, slots := 0, locals := 42 } : Room) s m args below meth c H locs 0 0 (MQ below (mQ D H0 gI (fun r S1 k1 n1 => S = S1 ∧ kc = k1 ∧ ns = n1 ∧ True)) args s 0 0 (mF H0)) (F0 m 20 ls [.int j20, .int 0]) := by
    intro j20 H locs ls  hl hM
    refine lv_ior hx hb dX5_marksSharedWith_20 ?_
    refine lv_topi (fun x4 ex4 => ?_)
    refine lv_istore_n (lv' := [(2, .int x4), (0, .ref h0), (1, .ref h1)]) hx hb dX5_marksSharedWith_21 rfl hl (by decide) rfl (fun ls hl => ?_)
    refine lv_iload_n hx hb dX5_marksSharedWith_22 rfl (lv_at hl 0 rfl) ?_
    refine lv_aload_n hx hb dX5_marksSharedWith_23 rfl (lv_at hl 1 rfl) ?_
    refine lv_aload_n hx hb dX5_marksSharedWith_24 rfl (lv_at hl 2 rfl) ?_
    refine r_V (As := [.ref h1]) (rest := [.int x4]) (ci := 5) C hM (c_X5_hasTextOf l D H0 S kc ns h0 h1 hI kh0 kh1) i_X5_hasTextOf m_X5_88 kh0 rfl rfl rfl hl.1 rfl (Nat.le_of_ble_eq_true rfl) ⟨by decide, by decide⟩ ⟨by decide, by decide⟩ dX5_marksSharedWith_25 (fun x8 S5 k6 n7 H locs p9 hM => ?_)
    obtain ⟨rfl, rfl, rfl, hx8⟩ := p9
    refine W.eq (g2 := F0 m 28 ls [.int x8, .int x4]) rfl ?_
    have join36 : ∀ (j36 : Int32) (H : Heap) (locs : List Loc) (ls : Array Slot), lv_has ls 3 [(2, .int x4), (0, .ref h0), (1, .ref h1)] → mH D H0 S kc ns H locs → W p l e ({ frames := 2, cells := 0, slots := 0, locals := 42 } : Room) s m args below meth c H locs 0 0 (MQ below (mQ D H0 gI (fun r S1 k1 n1 => S = S1 ∧ kc = k1 ∧ ns = n1 ∧ True)) args s 0 0 (mF H0)) (F0 m 36 ls [.int j36, .int x4]) := by
      intro j36 H locs ls  hl hM
      refine lv_ior hx hb dX5_marksSharedWith_36 ?_
      refine lv_topi (fun x10 ex10 => ?_)
      refine lv_istore_n (lv' := [(2, .int x10), (0, .ref h0), (1, .ref h1)]) hx hb dX5_marksSharedWith_37 rfl hl (by decide) rfl (fun ls hl => ?_)
      refine lv_iload_n hx hb dX5_marksSharedWith_38 rfl (lv_at hl 0 rfl) ?_
      refine lv_aload_n hx hb dX5_marksSharedWith_39 rfl (lv_at hl 1 rfl) ?_
      refine r_get (ci := 5) (k := 2) (v := .long (mL S 502 h0)) C hM kh0 f_X5_46 rfl dX5_marksSharedWith_40 ?_
      refine lv_topl (fun l11 el11 => ?_)
      refine lv_aload_n hx hb dX5_marksSharedWith_43 rfl (lv_at hl 2 rfl) ?_
      refine r_get (ci := 5) (k := 2) (v := .long (mL S 502 h1)) C hM kh1 f_X5_46 rfl dX5_marksSharedWith_44 ?_
      refine lv_topl (fun l12 el12 => ?_)
      refine W.lcmp hx hb dX5_marksSharedWith_47 ?_
      refine lv_topi (fun x13 ex13 => ?_)
      have join56 : ∀ (j56 : Int32) (H : Heap) (locs : List Loc) (ls : Array Slot), lv_has ls 3 [(2, .int x10), (0, .ref h0), (1, .ref h1)] → mH D H0 S kc ns H locs → W p l e ({ frames := 2, cells := 0, slots := 0, locals := 42 } : Room) s m args below meth c H locs 0 0 (MQ below (mQ D H0 gI (fun r S1 k1 n1 => S = S1 ∧ kc = k1 ∧ ns = n1 ∧ True)) args s 0 0 (mF H0)) (F0 m 56 ls [.int j56, .int x10]) := by
        intro j56 H locs ls  hl hM
        refine lv_ior hx hb dX5_marksSharedWith_56 ?_
        refine lv_topi (fun x14 ex14 => ?_)
        refine lv_istore_n (lv' := [(2, .int x14), (0, .ref h0), (1, .ref h1)]) hx hb dX5_marksSharedWith_57 rfl hl (by decide) rfl (fun ls hl => ?_)
        refine lv_iload_n hx hb dX5_marksSharedWith_58 rfl (lv_at hl 0 rfl) ?_
        refine lv_aload_n hx hb dX5_marksSharedWith_59 rfl (lv_at hl 1 rfl) ?_
        refine r_get (ci := 5) (k := 6) (v := .int (mI S 506 h0)) C hM kh0 f_X5_78 rfl dX5_marksSharedWith_60 ?_
        refine lv_topi (fun x15 ex15 => ?_)
        refine lv_aload_n hx hb dX5_marksSharedWith_63 rfl (lv_at hl 2 rfl) ?_
        refine r_get (ci := 5) (k := 6) (v := .int (mI S 506 h1)) C hM kh1 f_X5_78 rfl dX5_marksSharedWith_64 ?_
        refine lv_topi (fun x16 ex16 => ?_)
        have join76 : ∀ (j76 : Int32) (H : Heap) (locs : List Loc) (ls : Array Slot), lv_has ls 3 [(2, .int x14), (0, .ref h0), (1, .ref h1)] → mH D H0 S kc ns H locs → W p l e ({ frames := 2, cells := 0, slots := 0, locals := 42 } : Room) s m args below meth c H locs 0 0 (MQ below (mQ D H0 gI (fun r S1 k1 n1 => S = S1 ∧ kc = k1 ∧ ns = n1 ∧ True)) args s 0 0 (mF H0)) (F0 m 76 ls [.int j76, .int x14]) := by
          intro j76 H locs ls  hl hM
          refine lv_ior hx hb dX5_marksSharedWith_76 ?_
          refine lv_topi (fun x17 ex17 => ?_)
          refine lv_istore_n (lv' := [(2, .int x17), (0, .ref h0), (1, .ref h1)]) hx hb dX5_marksSharedWith_77 rfl hl (by decide) rfl (fun ls hl => ?_)
          refine lv_iload_n hx hb dX5_marksSharedWith_78 rfl (lv_at hl 0 rfl) ?_
          refine lv_aload_n hx hb dX5_marksSharedWith_79 rfl (lv_at hl 1 rfl) ?_
          refine r_get (ci := 5) (k := 3) C hM kh0 f_X5_49 rfl dX5_marksSharedWith_80 ?_
          obtain ⟨r18, er18, kr18⟩ : ∃ r : Option Nat, mR S 503 h0 = r ∧ ∀ q, r = some q → mK S q = 6 := ⟨_, rfl, TI.opt hI.1 (ci := 5) (k := 3) kh0⟩
          refine W.eq (g2 := F0 m 83 ls [va_rf r18, .int x17]) (by rw [← er18]; rfl) ?_
          refine r_S (As := [va_rf r18]) (rest := [.int x17]) C hM (c_X5_kindOf l D H0 S kc ns r18 hI (kr18)) i_X5_kindOf m_X5_92 rfl hl.1 rfl (Nat.le_of_ble_eq_true rfl) ⟨by decide, by decide⟩ ⟨by decide, by decide⟩ dX5_marksSharedWith_83 (fun l22 S19 k20 n21 H locs p23 hM => ?_)
          obtain ⟨rfl, rfl, rfl, hl22⟩ := p23
          refine W.eq (g2 := F0 m 86 ls [.long l22, .int x17]) rfl ?_
          refine lv_aload_n hx hb dX5_marksSharedWith_86 rfl (lv_at hl 2 rfl) ?_
          refine r_get (ci := 5) (k := 3) C hM kh1 f_X5_49 rfl dX5_marksSharedWith_87 ?_
          obtain ⟨r24, er24, kr24⟩ : ∃ r : Option Nat, mR S 503 h1 = r ∧ ∀ q, r = some q → mK S q = 6 := ⟨_, rfl, TI.opt hI.1 (ci := 5) (k := 3) kh1⟩
          refine W.eq (g2 := F0 m 90 ls [va_rf r24, .long l22, .int x17]) (by rw [← er24]; rfl) ?_
          refine r_S (As := [va_rf r24]) (rest := [.long l22, .int x17]) C hM (c_X5_kindOf l D H0 S kc ns r24 hI (kr24)) i_X5_kindOf m_X5_92 rfl hl.1 rfl (Nat.le_of_ble_eq_true rfl) ⟨by decide, by decide⟩ ⟨by decide, by decide⟩ dX5_marksSharedWith_90 (fun l28 S25 k26 n27 H locs p29 hM => ?_)
          obtain ⟨rfl, rfl, rfl, hl28⟩ := p29
          refine W.eq (g2 := F0 m 93 ls [.long l28, .long l22, .int x17]) rfl ?_
          refine W.lcmp hx hb dX5_marksSharedWith_93 ?_
          refine lv_topi (fun x30 ex30 => ?_)
          have join103 : ∀ (j103 : Int32) (H : Heap) (locs : List Loc) (ls : Array Slot), lv_has ls 3 [(2, .int x17), (0, .ref h0), (1, .ref h1)] → mH D H0 S kc ns H locs → W p l e ({ frames := 2, cells := 0, slots := 0, locals := 42 } : Room) s m args below meth c H locs 0 0 (MQ below (mQ D H0 gI (fun r S1 k1 n1 => S = S1 ∧ kc = k1 ∧ ns = n1 ∧ True)) args s 0 0 (mF H0)) (F0 m 103 ls [.int j103, .int x17]) := by
            intro j103 H locs ls  hl hM
            refine lv_ior hx hb dX5_marksSharedWith_103 ?_
            refine lv_topi (fun x31 ex31 => ?_)
            refine lv_istore_n (lv' := [(2, .int x31), (0, .ref h0), (1, .ref h1)]) hx hb dX5_marksSharedWith_104 rfl hl (by decide) rfl (fun ls hl => ?_)
            refine lv_iload_n hx hb dX5_marksSharedWith_105 rfl (lv_at hl 0 rfl) ?_
            refine lv_aload_n hx hb dX5_marksSharedWith_106 rfl (lv_at hl 1 rfl) ?_
            refine r_get (ci := 5) (k := 3) (v := va_rf r18) C hM kh0 f_X5_49 (congrArg va_rf (er18)) dX5_marksSharedWith_107 ?_
            refine r_S (As := [va_rf r18]) (rest := [.int x31]) C hM (c_X5_nameOf l D H0 S kc ns r18 hI (kr18)) i_X5_nameOf m_X5_96 rfl hl.1 rfl (Nat.le_of_ble_eq_true rfl) ⟨by decide, by decide⟩ ⟨by decide, by decide⟩ dX5_marksSharedWith_110 (fun l35 S32 k33 n34 H locs p36 hM => ?_)
            obtain ⟨rfl, rfl, rfl, hl35⟩ := p36
            refine W.eq (g2 := F0 m 113 ls [.long l35, .int x31]) rfl ?_
            refine lv_aload_n hx hb dX5_marksSharedWith_113 rfl (lv_at hl 2 rfl) ?_
            refine r_get (ci := 5) (k := 3) (v := va_rf r24) C hM kh1 f_X5_49 (congrArg va_rf (er24)) dX5_marksSharedWith_114 ?_
            refine r_S (As := [va_rf r24]) (rest := [.long l35, .int x31]) C hM (c_X5_nameOf l D H0 S kc ns r24 hI (kr24)) i_X5_nameOf m_X5_96 rfl hl.1 rfl (Nat.le_of_ble_eq_true rfl) ⟨by decide, by decide⟩ ⟨by decide, by decide⟩ dX5_marksSharedWith_117 (fun l40 S37 k38 n39 H locs p41 hM => ?_)
            obtain ⟨rfl, rfl, rfl, hl40⟩ := p41
            refine W.eq (g2 := F0 m 120 ls [.long l40, .long l35, .int x31]) rfl ?_
            refine W.lcmp hx hb dX5_marksSharedWith_120 ?_
            refine lv_topi (fun x42 ex42 => ?_)
            have join130 : ∀ (j130 : Int32) (H : Heap) (locs : List Loc) (ls : Array Slot), lv_has ls 3 [(2, .int x31), (0, .ref h0), (1, .ref h1)] → mH D H0 S kc ns H locs → W p l e ({ frames := 2, cells := 0, slots := 0, locals := 42 } : Room) s m args below meth c H locs 0 0 (MQ below (mQ D H0 gI (fun r S1 k1 n1 => S = S1 ∧ kc = k1 ∧ ns = n1 ∧ True)) args s 0 0 (mF H0)) (F0 m 130 ls [.int j130, .int x31]) := by
              intro j130 H locs ls  hl hM
              refine lv_ior hx hb dX5_marksSharedWith_130 ?_
              refine lv_topi (fun x43 ex43 => ?_)
              refine lv_istore_n (lv' := [(2, .int x43), (0, .ref h0), (1, .ref h1)]) hx hb dX5_marksSharedWith_131 rfl hl (by decide) rfl (fun ls hl => ?_)
              refine lv_iload_n hx hb dX5_marksSharedWith_132 rfl (lv_at hl 0 rfl) ?_
              refine lv_aload_n hx hb dX5_marksSharedWith_133 rfl (lv_at hl 1 rfl) ?_
              refine r_get (ci := 5) (k := 5) C hM kh0 f_X5_71 rfl dX5_marksSharedWith_134 ?_
              obtain ⟨r44, er44, kr44⟩ : ∃ r : Option Nat, mR S 505 h0 = r ∧ ∀ q, r = some q → mK S q = 6 := ⟨_, rfl, TI.opt hI.1 (ci := 5) (k := 5) kh0⟩
              refine W.eq (g2 := F0 m 137 ls [va_rf r44, .int x43]) (by rw [← er44]; rfl) ?_
              refine lv_aload_n hx hb dX5_marksSharedWith_137 rfl (lv_at hl 2 rfl) ?_
              refine r_get (ci := 5) (k := 5) C hM kh1 f_X5_71 rfl dX5_marksSharedWith_138 ?_
              obtain ⟨r45, er45, kr45⟩ : ∃ r : Option Nat, mR S 505 h1 = r ∧ ∀ q, r = some q → mK S q = 6 := ⟨_, rfl, TI.opt hI.1 (ci := 5) (k := 5) kh1⟩
              refine W.eq (g2 := F0 m 141 ls [va_rf r45, va_rf r44, .int x43]) (by rw [← er45]; rfl) ?_
              refine r_S (As := [va_rf r44, va_rf r45]) (rest := [.int x43]) C hM (c_X5_sameLabel l D H0 S kc ns r44 r45 hI (kr44) (kr45)) i_X5_sameLabel m_X5_99 rfl hl.1 rfl (Nat.le_of_ble_eq_true rfl) ⟨by decide, by decide⟩ ⟨by decide, by decide⟩ dX5_marksSharedWith_141 (fun x49 S46 k47 n48 H locs p50 hM => ?_)
              obtain ⟨rfl, rfl, rfl, hx49⟩ := p50
              refine W.eq (g2 := F0 m 144 ls [.int x49, .int x43]) rfl ?_
              have join153 : ∀ (j153 : Int32) (H : Heap) (locs : List Loc) (ls : Array Slot), lv_has ls 3 [(2, .int x43), (0, .ref h0), (1, .ref h1)] → mH D H0 S kc ns H locs → W p l e ({ frames := 2, cells := 0, slots := 0, locals := 42 } : Room) s m args below meth c H locs 0 0 (MQ below (mQ D H0 gI (fun r S1 k1 n1 => S = S1 ∧ kc = k1 ∧ ns = n1 ∧ True)) args s 0 0 (mF H0)) (F0 m 153 ls [.int j153, .int x43]) := by
                intro j153 H locs ls  hl hM
                refine lv_ior hx hb dX5_marksSharedWith_153 ?_
                refine lv_topi (fun x51 ex51 => ?_)
                refine lv_istore_n (lv' := [(2, .int x51), (0, .ref h0), (1, .ref h1)]) hx hb dX5_marksSharedWith_154 rfl hl (by decide) rfl (fun ls hl => ?_)
                refine lv_iload_n hx hb dX5_marksSharedWith_155 rfl (lv_at hl 0 rfl) ?_
                refine lv_aload_n hx hb dX5_marksSharedWith_156 rfl (lv_at hl 1 rfl) ?_
                refine lv_aload_n hx hb dX5_marksSharedWith_157 rfl (lv_at hl 2 rfl) ?_
                refine lv_iconst (v := -1) hx hb dX5_marksSharedWith_158 (by decide) ?_
                refine lv_iconst (v := 0) hx hb dX5_marksSharedWith_159 (by decide) ?_
                refine r_V (As := [.ref h1, .int (-1), .int 0]) (rest := [.int x51]) (ci := 5) C hM (c_X5_hasPathOf l D H0 S kc ns h0 h1 (-1) 0 hI kh0 kh1) i_X5_hasPathOf m_X5_103 kh0 rfl rfl rfl hl.1 rfl (Nat.le_of_ble_eq_true rfl) ⟨by decide, by decide⟩ ⟨by decide, by decide⟩ dX5_marksSharedWith_160 (fun x55 S52 k53 n54 H locs p56 hM => ?_)
                obtain ⟨rfl, rfl, rfl, hx55⟩ := p56
                refine W.eq (g2 := F0 m 163 ls [.int x55, .int x51]) rfl ?_
                have join173 : ∀ (j173 : Int32) (H : Heap) (locs : List Loc) (ls : Array Slot), lv_has ls 3 [(2, .int x51), (0, .ref h0), (1, .ref h1)] → mH D H0 S kc ns H locs → W p l e ({ frames := 2, cells := 0, slots := 0, locals := 42 } : Room) s m args below meth c H locs 0 0 (MQ below (mQ D H0 gI (fun r S1 k1 n1 => S = S1 ∧ kc = k1 ∧ ns = n1 ∧ True)) args s 0 0 (mF H0)) (F0 m 173 ls [.int j173, .int x51]) := by
                  intro j173 H locs ls  hl hM
                  refine lv_ior hx hb dX5_marksSharedWith_173 ?_
                  refine lv_topi (fun x57 ex57 => ?_)
                  refine lv_istore_n (lv' := [(2, .int x57), (0, .ref h0), (1, .ref h1)]) hx hb dX5_marksSharedWith_174 rfl hl (by decide) rfl (fun ls hl => ?_)
                  refine lv_iload_n hx hb dX5_marksSharedWith_175 rfl (lv_at hl 0 rfl) ?_
                  exact r_retI C hr hlk hM (⟨rfl, rfl, rfl, trivial⟩) dX5_marksSharedWith_176
                refine lv_if_eq (tgt := 172) hx hb dX5_marksSharedWith_163 (by decide) (fun c58 => ?_) (fun c58 => ?_)
                · have tc58 := eqT c58
                  refine lv_iconst (v := 0) hx hb dX5_marksSharedWith_172 (by decide) ?_
                  exact join173 0 _ _ _  (lv_sub hl [0, 1, 2] rfl) hM
                · have tc58 := eqF c58
                  refine lv_sipush (v := 128) hx hb dX5_marksSharedWith_166 (by decide) ?_
                  refine lv_goto (tgt := 173) hx hb dX5_marksSharedWith_169 (by decide) ?_
                  exact join173 128 _ _ _  (lv_sub hl [0, 1, 2] rfl) hM
              refine lv_if_eq (tgt := 152) hx hb dX5_marksSharedWith_144 (by decide) (fun c59 => ?_) (fun c59 => ?_)
              · have tc59 := eqT c59
                refine lv_iconst (v := 0) hx hb dX5_marksSharedWith_152 (by decide) ?_
                exact join153 0 _ _ _  (lv_sub hl [0, 1, 2] rfl) hM
              · have tc59 := eqF c59
                refine lv_bipush (v := 64) hx hb dX5_marksSharedWith_147 (by decide) ?_
                refine lv_goto (tgt := 153) hx hb dX5_marksSharedWith_149 (by decide) ?_
                exact join153 64 _ _ _  (lv_sub hl [0, 1, 2] rfl) hM
            refine lv_if_ne (tgt := 129) hx hb dX5_marksSharedWith_121 (by decide) (fun c60 => ?_) (fun c60 => ?_)
            · have tc60 := eqF c60
              refine lv_iconst (v := 0) hx hb dX5_marksSharedWith_129 (by decide) ?_
              exact join130 0 _ _ _  (lv_sub hl [0, 1, 2] rfl) hM
            · have tc60 := eqT c60
              refine lv_bipush (v := 32) hx hb dX5_marksSharedWith_124 (by decide) ?_
              refine lv_goto (tgt := 130) hx hb dX5_marksSharedWith_126 (by decide) ?_
              exact join130 32 _ _ _  (lv_sub hl [0, 1, 2] rfl) hM
          refine lv_if_ne (tgt := 102) hx hb dX5_marksSharedWith_94 (by decide) (fun c61 => ?_) (fun c61 => ?_)
          · have tc61 := eqF c61
            refine lv_iconst (v := 0) hx hb dX5_marksSharedWith_102 (by decide) ?_
            exact join103 0 _ _ _  (lv_sub hl [0, 1, 2] rfl) hM
          · have tc61 := eqT c61
            refine lv_bipush (v := 16) hx hb dX5_marksSharedWith_97 (by decide) ?_
            refine lv_goto (tgt := 103) hx hb dX5_marksSharedWith_99 (by decide) ?_
            exact join103 16 _ _ _  (lv_sub hl [0, 1, 2] rfl) hM
        refine lv_icmp_ne (tgt := 75) hx hb dX5_marksSharedWith_67 (by decide) (fun c62 => ?_) (fun c62 => ?_)
        · have tc62 := eqF c62
          refine lv_iconst (v := 0) hx hb dX5_marksSharedWith_75 (by decide) ?_
          exact join76 0 _ _ _  (lv_sub hl [0, 1, 2] rfl) hM
        · have tc62 := eqT c62
          refine lv_bipush (v := 8) hx hb dX5_marksSharedWith_70 (by decide) ?_
          refine lv_goto (tgt := 76) hx hb dX5_marksSharedWith_72 (by decide) ?_
          exact join76 8 _ _ _  (lv_sub hl [0, 1, 2] rfl) hM
      refine lv_if_ne (tgt := 55) hx hb dX5_marksSharedWith_48 (by decide) (fun c63 => ?_) (fun c63 => ?_)
      · have tc63 := eqF c63
        refine lv_iconst (v := 0) hx hb dX5_marksSharedWith_55 (by decide) ?_
        exact join56 0 _ _ _  (lv_sub hl [0, 1, 2] rfl) hM
      · have tc63 := eqT c63
        refine lv_iconst (v := 4) hx hb dX5_marksSharedWith_51 (by decide) ?_
        refine lv_goto (tgt := 56) hx hb dX5_marksSharedWith_52 (by decide) ?_
        exact join56 4 _ _ _  (lv_sub hl [0, 1, 2] rfl) hM
    refine lv_if_eq (tgt := 35) hx hb dX5_marksSharedWith_28 (by decide) (fun c64 => ?_) (fun c64 => ?_)
    · have tc64 := eqT c64
      refine lv_iconst (v := 0) hx hb dX5_marksSharedWith_35 (by decide) ?_
      exact join36 0 _ _ _  (lv_sub hl [0, 1, 2] rfl) hM
    · have tc64 := eqF c64
      refine lv_iconst (v := 2) hx hb dX5_marksSharedWith_31 (by decide) ?_
      refine lv_goto (tgt := 36) hx hb dX5_marksSharedWith_32 (by decide) ?_
      exact join36 2 _ _ _  (lv_sub hl [0, 1, 2] rfl) hM
  refine lv_if_ne (tgt := 19) hx hb dX5_marksSharedWith_12 (by decide) (fun c65 => ?_) (fun c65 => ?_)
  · have tc65 := eqF c65
    refine lv_iconst (v := 0) hx hb dX5_marksSharedWith_19 (by decide) ?_
    exact join20 0 _ _ _  (lv_sub hl [0, 1, 2] rfl) hM
  · have tc65 := eqT c65
    refine lv_iconst (v := 1) hx hb dX5_marksSharedWith_15 (by decide) ?_
    refine lv_goto (tgt := 20) hx hb dX5_marksSharedWith_16 (by decide) ?_
    exact join20 1 _ _ _  (lv_sub hl [0, 1, 2] rfl) hM
set_option maxHeartbeats 4000000 in
set_option maxRecDepth 100000 in
theorem c_X5_fitsMarksOf (l : Launch) (D : gD) (H0 : Heap) (S : Mem) (kc ns : Nat) (h0 h1 : Nat) (i0 : Int32) {u : Nat} {tl : Int} {rho : Nat} (hI : CI x0 u tl rho S) (kh0 : mK S h0 = 6) (kh1 : mK S h1 = 6) : Met l yX5_fitsMarksOf (wsU yX5_fitsMarksOf cX5_fitsMarksOf 3 (some .boolean)) ({ frames := 3, cells := 0, slots := 0, locals := 64 } : Room) (mP D H0 S kc ns [.ref h0, .ref h1, .int i0]) (mQ D H0 gI (fun r S1 k1 n1 => S = S1 ∧ kc = k1 ∧ ns = n1 ∧ (r = 0 ∨ r = 1))) 0 0 (mF H0) := by
  refine r_met (own := RX5) (by decide +kernel) rfl (Nat.le_of_ble_eq_true rfl) ?_
  intro p e s m args below meth c C hr hlk hnm H ls hl hM
  obtain ⟨hx, hb, hml, hown, hts, -, -⟩ := id C
  have hl : lv_has ls 3 [(0, .ref h0), (1, .ref h1), (2, .int i0)] := hl
  have t_0 : (0 : Int32).toInt = 0 := by decide
  have t_1 : (1 : Int32).toInt = 1 := by decide
  refine lv_aload_n hx hb dX5_fitsMarksOf_0 rfl (lv_at hl 0 rfl) ?_
  refine lv_aload_n hx hb dX5_fitsMarksOf_1 rfl (lv_at hl 1 rfl) ?_
  refine r_V (As := [.ref h1]) (rest := []) (ci := 5) C hM (c_X5_marksSharedWith l D H0 S kc ns h0 h1 hI kh0 kh1) i_X5_marksSharedWith m_X5_107 kh0 rfl rfl rfl hl.1 rfl (Nat.le_of_ble_eq_true rfl) ⟨by decide, by decide⟩ ⟨by decide, by decide⟩ dX5_fitsMarksOf_2 (fun x4 S1 k2 n3 H locs p5 hM => ?_)
  obtain ⟨rfl, rfl, rfl, hx4⟩ := p5
  refine W.eq (g2 := F0 m 5 ls [.int x4]) rfl ?_
  refine lv_iload_n hx hb dX5_fitsMarksOf_5 rfl (lv_at hl 2 rfl) ?_
  refine lv_iand hx hb dX5_fitsMarksOf_6 ?_
  refine lv_topi (fun x6 ex6 => ?_)
  refine lv_iload_n hx hb dX5_fitsMarksOf_7 rfl (lv_at hl 2 rfl) ?_
  refine lv_icmp_ne (tgt := 15) hx hb dX5_fitsMarksOf_8 (by decide) (fun c7 => ?_) (fun c7 => ?_)
  · have tc7 := eqF c7
    refine lv_iconst (v := 0) hx hb dX5_fitsMarksOf_15 (by decide) ?_
    exact r_retZ C hr hlk rfl hM (⟨rfl, rfl, rfl, by decide⟩) dX5_fitsMarksOf_16
  · have tc7 := eqT c7
    refine lv_iconst (v := 1) hx hb dX5_fitsMarksOf_11 (by decide) ?_
    refine lv_goto (tgt := 16) hx hb dX5_fitsMarksOf_12 (by decide) ?_
    exact r_retZ C hr hlk rfl hM (⟨rfl, rfl, rfl, by decide⟩) dX5_fitsMarksOf_16
set_option maxHeartbeats 4000000 in
set_option maxRecDepth 100000 in
theorem c_X4_countFitting (l : Launch) (D : gD) (H0 : Heap) (S : Mem) (kc ns : Nat) (h0 h1 : Nat) (i0 : Int32) {u : Nat} {tl : Int} {rho : Nat} (hI : CI x0 u tl rho S) (kh0 : mK S h0 = 5) (kh1 : mK S h1 = 6) : Met l yX4_countFitting (wsU yX4_countFitting cX4_countFitting 6 (some .int)) ({ frames := 4, cells := 0, slots := 0, locals := 86 } : Room) (mP D H0 S kc ns [.ref h0, .ref h1, .int i0]) (mQ D H0 gI (fun r S1 k1 n1 => S = S1 ∧ kc = k1 ∧ ns = n1 ∧ True)) 0 0 (mF H0) := by
  refine r_met (own := RX4) (by decide +kernel) rfl (Nat.le_of_ble_eq_true rfl) ?_
  intro p e s m args below meth c C hr hlk hnm H ls hl hM
  obtain ⟨hx, hb, hml, hown, hts, -, -⟩ := id C
  have hl : lv_has ls 6 [(0, .ref h0), (1, .ref h1), (2, .int i0)] := hl
  have t_0 : (0 : Int32).toInt = 0 := by decide
  have t_1 : (1 : Int32).toInt = 1 := by decide
  refine lv_iconst (v := 0) hx hb dX4_countFitting_0 (by decide) ?_
  refine lv_istore_n (lv' := [(3, .int 0), (0, .ref h0), (1, .ref h1), (2, .int i0)]) hx hb dX4_countFitting_1 rfl hl (by decide) rfl (fun ls hl => ?_)
  refine lv_iconst (v := 0) hx hb dX4_countFitting_2 (by decide) ?_
  refine lv_istore (lv' := [(4, .int 0), (3, .int 0), (0, .ref h0), (1, .ref h1), (2, .int i0)]) hx hb dX4_countFitting_3 hl (by decide) rfl (fun ls hl => ?_)
  have loop5 : ∀ (fu : Nat) (j : Int32) (n3 : Int32) (H : Heap) (locs : List Loc) (ls : Array Slot), (0 ≤ j.toInt) → (60 - j.toInt).toNat < fu → lv_has ls 6 [(0, .ref h0), (1, .ref h1), (2, .int i0), (3, .int n3), (4, .int j)] → mH D H0 S kc ns H locs → W p l e ({ frames := 4, cells := 0, slots := 0, locals := 86 } : Room) s m args below meth c H locs 0 0 (MQ below (mQ D H0 gI (fun r S1 k1 n1 => S = S1 ∧ kc = k1 ∧ ns = n1 ∧ True)) args s 0 0 (mF H0)) (F0 m 5 ls []) := by
    intro fu
    induction fu with
    | zero => intro j n3 H locs ls h5_0 hfu; exact absurd hfu (by omega)
    | succ fu ih5 =>
      intro j n3 H locs ls h5_0 hfu hl hM
      refine lv_iload hx hb dX4_countFitting_5 (lv_at hl 4 rfl) ?_
      refine lv_aload_n hx hb dX4_countFitting_7 rfl (lv_at hl 0 rfl) ?_
      refine r_get (ci := 4) (k := 1) (v := .int (mI S 401 h0)) C hM kh0 f_X4_17 rfl dX4_countFitting_8 ?_
      refine lv_topi (fun x1 ex1 => ?_)
      have fx1 := NI.f401 hI.2 kh0
      rw [← ex1] at fx1
      refine lv_icmp_ge (tgt := 46) hx hb dX4_countFitting_11 (by decide) (fun c2 => ?_) (fun c2 => ?_)
      · have tc2 := leT c2
        refine lv_iload_n hx hb dX4_countFitting_46 rfl (lv_at hl 3 rfl) ?_
        exact r_retI C hr hlk hM (⟨rfl, rfl, rfl, trivial⟩) dX4_countFitting_47
      · have tc2 := leF c2
        refine lv_aload_n hx hb dX4_countFitting_14 rfl (lv_at hl 0 rfl) ?_
        refine lv_iload hx hb dX4_countFitting_15 (lv_at hl 4 rfl) ?_
        refine r_V (As := [.int j]) (rest := []) (ci := 4) C hM (c_X4_at l D H0 S kc ns h0 j hI id kh0) i_X4_at m_X4_34 kh0 rfl rfl rfl hl.1 rfl (Nat.le_of_ble_eq_true rfl) ⟨by decide, by decide⟩ ⟨by decide, by decide⟩ dX4_countFitting_17 (fun r6 S3 k4 n5 H locs p7 hM => ?_)
        obtain ⟨rfl, rfl, rfl, kr6⟩ := p7
        refine W.eq (g2 := F0 m 20 ls [va_rf r6]) rfl ?_
        refine lv_astoreQ (lv' := [(5, va_rf r6), (0, .ref h0), (1, .ref h1), (2, .int i0), (3, .int n3), (4, .int j)]) hx hb dX4_countFitting_20 hl (by decide) rfl (fun ls hl => ?_)
        refine lv_aloadQ hx hb dX4_countFitting_22 (lv_at hl 0 rfl) ?_
        cases r6 with
        | none =>
          refine lv_ifnullN (tgt := 40) hx hb dX4_countFitting_24 (by decide) ?_
          obtain ⟨x9, ex9⟩ : ∃ y : Int32, y = j + 1 := ⟨_, rfl⟩
          try (have tx9 := addI (a := j) (b := 1) (by omega) (by omega); rw [← ex9] at tx9)
          refine lv_iinc (v := x9) (lv' := [(4, .int x9), (5, .null), (0, .ref h0), (1, .ref h1), (2, .int i0), (3, .int n3)]) hx hb dX4_countFitting_40 hl (k := 5) rfl (by rw [ex9]; rfl) (by decide) rfl (fun ls hl => ?_)
          refine lv_goto (tgt := 5) hx hb dX4_countFitting_43 (by decide) ?_
          exact ih5 x9 n3 _ _ _ (by omega) (by omega) (lv_sub hl [2, 3, 4, 5, 0] rfl) hM
        | some q8 =>
          have kq8 : mK S q8 = 6 := kr6 q8 rfl
          refine lv_ifnull hx hb dX4_countFitting_24 ?_
          refine lv_aload hx hb dX4_countFitting_27 (lv_at hl 0 rfl) ?_
          refine lv_aload_n hx hb dX4_countFitting_29 rfl (lv_at hl 2 rfl) ?_
          refine lv_iload_n hx hb dX4_countFitting_30 rfl (lv_at hl 3 rfl) ?_
          refine r_VN (As := [.ref h1, .int i0]) (rest := []) (ci := 5) C hM (c_X5_fitsMarksOf l D H0 S kc ns q8 h1 i0 hI kq8 kh1) i_X5_fitsMarksOf m_X4_38 kq8 rfl rfl rfl hl.1 rfl (Nat.le_of_ble_eq_true rfl) ⟨by decide, by decide⟩ ⟨by decide, by decide⟩ dX4_countFitting_31 (fun x13 S10 k11 n12 H locs p14 hM => ?_)
          obtain ⟨rfl, rfl, rfl, hx13⟩ := p14
          refine W.eq (g2 := F0 m 34 ls [.int x13]) rfl ?_
          refine lv_if_eq (tgt := 40) hx hb dX4_countFitting_34 (by decide) (fun c15 => ?_) (fun c15 => ?_)
          · have tc15 := eqT c15
            obtain ⟨x16, ex16⟩ : ∃ y : Int32, y = j + 1 := ⟨_, rfl⟩
            try (have tx16 := addI (a := j) (b := 1) (by omega) (by omega); rw [← ex16] at tx16)
            refine lv_iinc (v := x16) (lv' := [(4, .int x16), (5, .ref q8), (0, .ref h0), (1, .ref h1), (2, .int i0), (3, .int n3)]) hx hb dX4_countFitting_40 hl (k := 5) rfl (by rw [ex16]; rfl) (by decide) rfl (fun ls hl => ?_)
            refine lv_goto (tgt := 5) hx hb dX4_countFitting_43 (by decide) ?_
            exact ih5 x16 n3 _ _ _ (by omega) (by omega) (lv_sub hl [2, 3, 4, 5, 0] rfl) hM
          · have tc15 := eqF c15
            obtain ⟨x17, ex17⟩ : ∃ y : Int32, y = n3 + 1 := ⟨_, rfl⟩
            try (have tx17 := addI (a := n3) (b := 1) (by omega) (by omega); rw [← ex17] at tx17)
            refine lv_iinc (v := x17) (lv' := [(3, .int x17), (5, .ref q8), (0, .ref h0), (1, .ref h1), (2, .int i0), (4, .int j)]) hx hb dX4_countFitting_37 hl (k := 4) rfl (by rw [ex17]; rfl) (by decide) rfl (fun ls hl => ?_)
            obtain ⟨x18, ex18⟩ : ∃ y : Int32, y = j + 1 := ⟨_, rfl⟩
            try (have tx18 := addI (a := j) (b := 1) (by omega) (by omega); rw [← ex18] at tx18)
            refine lv_iinc (v := x18) (lv' := [(4, .int x18), (3, .int x17), (5, .ref q8), (0, .ref h0), (1, .ref h1), (2, .int i0)]) hx hb dX4_countFitting_40 hl (k := 5) rfl (by rw [ex18]; rfl) (by decide) rfl (fun ls hl => ?_)
            refine lv_goto (tgt := 5) hx hb dX4_countFitting_43 (by decide) ?_
            exact ih5 x18 x17 _ _ _ (by omega) (by omega) (lv_sub hl [3, 4, 5, 1, 0] rfl) hM
  exact loop5 (((60 - (0 : Int32).toInt).toNat) + 1) 0 0 _ _ _ (by omega) (by omega) (lv_sub hl [2, 3, 4, 1, 0] rfl) hM
set_option maxHeartbeats 4000000 in
set_option maxRecDepth 100000 in
theorem c_X4_fitting (l : Launch) (D : gD) (H0 : Heap) (S : Mem) (kc ns : Nat) (h0 h1 : Nat) (i0 i1 : Int32) {u : Nat} {tl : Int} {rho : Nat} (hI : CI x0 u tl rho S) (kh0 : mK S h0 = 5) (kh1 : mK S h1 = 6) : Met l yX4_fitting (wsU yX4_fitting cX4_fitting 7 (some (.object "ClickBench$Part"))) ({ frames := 4, cells := 0, slots := 0, locals := 86 } : Room) (mP D H0 S kc ns [.ref h0, .ref h1, .int i0, .int i1]) (mQ D H0 gR (fun r S1 k1 n1 => S = S1 ∧ kc = k1 ∧ ns = n1 ∧ (∀ q, r = some q → mK S q = 6))) 0 0 (mF H0) := by
  refine r_met (own := RX4) (by decide +kernel) rfl (Nat.le_of_ble_eq_true rfl) ?_
  intro p e s m args below meth c C hr hlk hnm H ls hl hM
  obtain ⟨hx, hb, hml, hown, hts, -, -⟩ := id C
  have hl : lv_has ls 7 [(0, .ref h0), (1, .ref h1), (2, .int i0), (3, .int i1)] := hl
  have t_m1 : (-1 : Int32).toInt = -1 := by decide
  have t_0 : (0 : Int32).toInt = 0 := by decide
  have t_1 : (1 : Int32).toInt = 1 := by decide
  refine lv_iload_n hx hb dX4_fitting_0 rfl (lv_at hl 3 rfl) ?_
  refine lv_istore (lv' := [(4, .int i1), (0, .ref h0), (1, .ref h1), (2, .int i0), (3, .int i1)]) hx hb dX4_fitting_1 hl (by decide) rfl (fun ls hl => ?_)
  refine lv_iconst (v := 0) hx hb dX4_fitting_3 (by decide) ?_
  refine lv_istore (lv' := [(5, .int 0), (4, .int i1), (0, .ref h0), (1, .ref h1), (2, .int i0), (3, .int i1)]) hx hb dX4_fitting_4 hl (by decide) rfl (fun ls hl => ?_)
  have loop6 : ∀ (fu : Nat) (j : Int32) (n3 : Int32) (H : Heap) (locs : List Loc) (ls : Array Slot), (0 ≤ j.toInt) → (60 - j.toInt).toNat < fu → lv_has ls 7 [(0, .ref h0), (1, .ref h1), (2, .int i0), (4, .int n3), (5, .int j)] → mH D H0 S kc ns H locs → W p l e ({ frames := 4, cells := 0, slots := 0, locals := 86 } : Room) s m args below meth c H locs 0 0 (MQ below (mQ D H0 gR (fun r S1 k1 n1 => S = S1 ∧ kc = k1 ∧ ns = n1 ∧ (∀ q, r = some q → mK S q = 6))) args s 0 0 (mF H0)) (F0 m 6 ls []) := by
    intro fu
    induction fu with
    | zero => intro j n3 H locs ls h6_0 hfu; exact absurd hfu (by omega)
    | succ fu ih6 =>
      intro j n3 H locs ls h6_0 hfu hl hM
      refine lv_iload hx hb dX4_fitting_6 (lv_at hl 4 rfl) ?_
      refine lv_aload_n hx hb dX4_fitting_8 rfl (lv_at hl 0 rfl) ?_
      refine r_get (ci := 4) (k := 1) (v := .int (mI S 401 h0)) C hM kh0 f_X4_17 rfl dX4_fitting_9 ?_
      refine lv_topi (fun x1 ex1 => ?_)
      have fx1 := NI.f401 hI.2 kh0
      rw [← ex1] at fx1
      refine lv_icmp_ge (tgt := 60) hx hb dX4_fitting_12 (by decide) (fun c2 => ?_) (fun c2 => ?_)
      · have tc2 := leT c2
        refine lv_null hx hb dX4_fitting_60 ?_
        exact r_retR (v := none) C hr hlk hM (⟨rfl, rfl, rfl, fun z h => by cases h⟩) dX4_fitting_61
      · have tc2 := leF c2
        refine lv_iload hx hb dX4_fitting_15 (lv_at hl 3 rfl) ?_
        refine lv_if_lt (tgt := 60) hx hb dX4_fitting_17 (by decide) (fun c3 => ?_) (fun c3 => ?_)
        · have tc3 := ltT c3
          refine lv_null hx hb dX4_fitting_60 ?_
          exact r_retR (v := none) C hr hlk hM (⟨rfl, rfl, rfl, fun z h => by cases h⟩) dX4_fitting_61
        · have tc3 := ltF c3
          refine lv_aload_n hx hb dX4_fitting_20 rfl (lv_at hl 0 rfl) ?_
          refine lv_iload hx hb dX4_fitting_21 (lv_at hl 4 rfl) ?_
          refine r_V (As := [.int j]) (rest := []) (ci := 4) C hM (c_X4_at l D H0 S kc ns h0 j hI id kh0) i_X4_at m_X4_34 kh0 rfl rfl rfl hl.1 rfl (Nat.le_of_ble_eq_true rfl) ⟨by decide, by decide⟩ ⟨by decide, by decide⟩ dX4_fitting_23 (fun r7 S4 k5 n6 H locs p8 hM => ?_)
          obtain ⟨rfl, rfl, rfl, kr7⟩ := p8
          refine W.eq (g2 := F0 m 26 ls [va_rf r7]) rfl ?_
          refine lv_astoreQ (lv' := [(6, va_rf r7), (0, .ref h0), (1, .ref h1), (2, .int i0), (4, .int n3), (5, .int j)]) hx hb dX4_fitting_26 hl (by decide) rfl (fun ls hl => ?_)
          refine lv_aloadQ hx hb dX4_fitting_28 (lv_at hl 0 rfl) ?_
          cases r7 with
          | none =>
            refine lv_ifnullN (tgt := 54) hx hb dX4_fitting_30 (by decide) ?_
            obtain ⟨x10, ex10⟩ : ∃ y : Int32, y = j + 1 := ⟨_, rfl⟩
            try (have tx10 := addI (a := j) (b := 1) (by omega) (by omega); rw [← ex10] at tx10)
            refine lv_iinc (v := x10) (lv' := [(5, .int x10), (6, .null), (0, .ref h0), (1, .ref h1), (2, .int i0), (4, .int n3)]) hx hb dX4_fitting_54 hl (k := 5) rfl (by rw [ex10]; rfl) (by decide) rfl (fun ls hl => ?_)
            refine lv_goto (tgt := 6) hx hb dX4_fitting_57 (by decide) ?_
            exact ih6 x10 n3 _ _ _ (by omega) (by omega) (lv_sub hl [2, 3, 4, 5, 0] rfl) hM
          | some q9 =>
            have kq9 : mK S q9 = 6 := kr7 q9 rfl
            refine lv_ifnull hx hb dX4_fitting_30 ?_
            refine lv_aload hx hb dX4_fitting_33 (lv_at hl 0 rfl) ?_
            refine lv_aload_n hx hb dX4_fitting_35 rfl (lv_at hl 2 rfl) ?_
            refine lv_iload_n hx hb dX4_fitting_36 rfl (lv_at hl 3 rfl) ?_
            refine r_VN (As := [.ref h1, .int i0]) (rest := []) (ci := 5) C hM (c_X5_fitsMarksOf l D H0 S kc ns q9 h1 i0 hI kq9 kh1) i_X5_fitsMarksOf m_X4_38 kq9 rfl rfl rfl hl.1 rfl (Nat.le_of_ble_eq_true rfl) ⟨by decide, by decide⟩ ⟨by decide, by decide⟩ dX4_fitting_37 (fun x14 S11 k12 n13 H locs p15 hM => ?_)
            obtain ⟨rfl, rfl, rfl, hx14⟩ := p15
            refine W.eq (g2 := F0 m 40 ls [.int x14]) rfl ?_
            refine lv_if_eq (tgt := 54) hx hb dX4_fitting_40 (by decide) (fun c16 => ?_) (fun c16 => ?_)
            · have tc16 := eqT c16
              obtain ⟨x17, ex17⟩ : ∃ y : Int32, y = j + 1 := ⟨_, rfl⟩
              try (have tx17 := addI (a := j) (b := 1) (by omega) (by omega); rw [← ex17] at tx17)
              refine lv_iinc (v := x17) (lv' := [(5, .int x17), (6, .ref q9), (0, .ref h0), (1, .ref h1), (2, .int i0), (4, .int n3)]) hx hb dX4_fitting_54 hl (k := 5) rfl (by rw [ex17]; rfl) (by decide) rfl (fun ls hl => ?_)
              refine lv_goto (tgt := 6) hx hb dX4_fitting_57 (by decide) ?_
              exact ih6 x17 n3 _ _ _ (by omega) (by omega) (lv_sub hl [2, 3, 4, 5, 0] rfl) hM
            · have tc16 := eqF c16
              refine lv_iload hx hb dX4_fitting_43 (lv_at hl 4 rfl) ?_
              refine lv_if_ne (tgt := 51) hx hb dX4_fitting_45 (by decide) (fun c18 => ?_) (fun c18 => ?_)
              · have tc18 := eqF c18
                obtain ⟨x19, ex19⟩ : ∃ y : Int32, y = n3 + (-1) := ⟨_, rfl⟩
                try (have tx19 := addI (a := n3) (b := (-1)) (by omega) (by omega); rw [← ex19] at tx19)
                refine lv_iinc (v := x19) (lv' := [(4, .int x19), (6, .ref q9), (0, .ref h0), (1, .ref h1), (2, .int i0), (5, .int j)]) hx hb dX4_fitting_51 hl (k := 4) rfl (by rw [ex19]; rfl) (by decide) rfl (fun ls hl => ?_)
                obtain ⟨x20, ex20⟩ : ∃ y : Int32, y = j + 1 := ⟨_, rfl⟩
                try (have tx20 := addI (a := j) (b := 1) (by omega) (by omega); rw [← ex20] at tx20)
                refine lv_iinc (v := x20) (lv' := [(5, .int x20), (4, .int x19), (6, .ref q9), (0, .ref h0), (1, .ref h1), (2, .int i0)]) hx hb dX4_fitting_54 hl (k := 5) rfl (by rw [ex20]; rfl) (by decide) rfl (fun ls hl => ?_)
                refine lv_goto (tgt := 6) hx hb dX4_fitting_57 (by decide) ?_
                exact ih6 x20 x19 _ _ _ (by omega) (by omega) (lv_sub hl [3, 4, 5, 1, 0] rfl) hM
              · have tc18 := eqT c18
                refine lv_aload hx hb dX4_fitting_48 (lv_at hl 0 rfl) ?_
                exact r_retR (v := (some q9)) C hr hlk hM (⟨rfl, rfl, rfl, fun z h => by cases h; exact kq9⟩) dX4_fitting_50
  exact loop6 (((60 - (0 : Int32).toInt).toNat) + 1) 0 i1 _ _ _ (by omega) (by omega) (lv_sub hl [2, 3, 4, 1, 0] rfl) hM
