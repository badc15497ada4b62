set_option maxHeartbeats 4000000 in
set_option maxRecDepth 100000 in
theorem c_X12_isLetter (l : Launch) (D : gD) (H0 : gB) (S : Mem) (kc ns : Nat) (i0 : Int32) : Met l yX12_isLetter (wsU yX12_isLetter cX12_isLetter 1 (some .boolean)) ({ frames := 0, cells := 0, slots := 0, locals := 0 } : Room) (mP D H0 S kc ns [.int i0]) (mQ D H0 gI (fun r S1 k1 n1 => S = S1 ∧ kc = k1 ∧ ns = n1 ∧ (r.toInt = 0 ∨ (r.toInt = 1 ∧ 97 ≤ i0.toInt)))) 0 0 (mF H0) := by
  refine r_met (own := RX12) (by decide +kernel) rfl (Nat.le_of_ble_eq_true rfl) ?_
  intro p e s m args below meth c C hr hlk hnm H ls hl hM
  obtain ⟨hx, hb, hml, hown, hts, -, -⟩ := id C
  have hl : lv_has ls 1 [(0, .int i0)] := hl
  have t_0 : (0 : Int32).toInt = 0 := by decide
  have t_1 : (1 : Int32).toInt = 1 := by decide
  have t_97 : (97 : Int32).toInt = 97 := by decide
  have t_122 : (122 : Int32).toInt = 122 := by decide
  refine lv_iload_n hx hb dX12_isLetter_0 rfl (lv_at hl 0 rfl) ?_
  refine lv_bipush (v := 97) hx hb dX12_isLetter_1 (by decide) ?_
  refine lv_icmp_lt (tgt := 16) hx hb dX12_isLetter_3 (by decide) (fun cv1 => ?_) (fun cv1 => ?_)
  · have tcv1 := ltT cv1
    refine lv_iconst (v := 0) hx hb dX12_isLetter_16 (by decide) ?_
    exact r_retZ C hr hlk rfl hM (⟨rfl, rfl, rfl, by omega⟩) dX12_isLetter_17
  · have tcv1 := ltF cv1
    refine lv_iload_n hx hb dX12_isLetter_6 rfl (lv_at hl 0 rfl) ?_
    refine lv_bipush (v := 122) hx hb dX12_isLetter_7 (by decide) ?_
    refine lv_icmp_gt (tgt := 16) hx hb dX12_isLetter_9 (by decide) (fun cv2 => ?_) (fun cv2 => ?_)
    · have tcv2 := ltT cv2
      refine lv_iconst (v := 0) hx hb dX12_isLetter_16 (by decide) ?_
      exact r_retZ C hr hlk rfl hM (⟨rfl, rfl, rfl, by omega⟩) dX12_isLetter_17
    · have tcv2 := ltF cv2
      refine lv_iconst (v := 1) hx hb dX12_isLetter_12 (by decide) ?_
      refine lv_goto (tgt := 17) hx hb dX12_isLetter_13 (by decide) ?_
      exact r_retZ C hr hlk rfl hM (⟨rfl, rfl, rfl, by omega⟩) dX12_isLetter_17
set_option maxHeartbeats 4000000 in
set_option maxRecDepth 100000 in
theorem c_X12_spot (l : Launch) (D : gD) (H0 : gB) (S : Mem) (kc ns : Nat) (i0 i1 : Int32) (a0 : 0 ≤ i0.toInt) (a1 : i0.toInt ≤ 30) (a2 : 0 ≤ i1.toInt) (a3 : i1.toInt ≤ 60) : Met l yX12_spot (wsU yX12_spot cX12_spot 2 (some .int)) ({ frames := 0, cells := 0, slots := 0, locals := 0 } : Room) (mP D H0 S kc ns [.int i0, .int i1]) (mQ D H0 gI (fun r S1 k1 n1 => S = S1 ∧ kc = k1 ∧ ns = n1 ∧ r.toInt = 60 * i0.toInt + i1.toInt)) 0 0 (mF H0) := by
  refine r_met (own := RX12) (by decide +kernel) rfl (Nat.le_of_ble_eq_true rfl) ?_
  intro p e s m args below meth c C hr hlk hnm H ls hl hM
  obtain ⟨hx, hb, hml, hown, hts, -, -⟩ := id C
  have hl : lv_has ls 2 [(0, .int i0), (1, .int i1)] := hl
  have t_0 : (0 : Int32).toInt = 0 := by decide
  have t_60 : (60 : Int32).toInt = 60 := by decide
  refine lv_bipush (v := 60) hx hb dX12_spot_0 (by decide) ?_
  refine lv_iload_n hx hb dX12_spot_2 rfl (lv_at hl 0 rfl) ?_
  refine lv_imul hx hb dX12_spot_3 ?_
  refine lv_topi (fun xv1 exv1 => ?_)
  try (have txv1 := mulD (a := i0) (k := 60) (n := 60) (by decide) (by omega) (by omega); rw [← exv1] at txv1)
  refine lv_iload_n hx hb dX12_spot_4 rfl (lv_at hl 1 rfl) ?_
  refine lv_iadd hx hb dX12_spot_5 ?_
  refine lv_topi (fun xv2 exv2 => ?_)
  try (have txv2 := addI (a := xv1) (b := i1) (by omega) (by omega); rw [← exv2] at txv2)
  exact r_retI C hr hlk hM (⟨rfl, rfl, rfl, by omega⟩) dX12_spot_6
set_option maxHeartbeats 4000000 in
set_option maxRecDepth 100000 in
theorem c_X12_isShelf (l : Launch) (D : gD) (H0 : gB) (S : Mem) (kc ns : Nat) (i0 : Int32) : Met l yX12_isShelf (wsU yX12_isShelf cX12_isShelf 1 (some .boolean)) ({ frames := 0, cells := 0, slots := 0, locals := 0 } : Room) (mP D H0 S kc ns [.int i0]) (mQ D H0 gI (fun r S1 k1 n1 => S = S1 ∧ kc = k1 ∧ ns = n1 ∧ ((r.toInt = 0 ∧ (i0.toInt < 0 ∨ 4 ≤ i0.toInt)) ∨ (r.toInt = 1 ∧ 0 ≤ i0.toInt ∧ i0.toInt < 4)))) 0 0 (mF H0) := by
  refine r_met (own := RX12) (by decide +kernel) rfl (Nat.le_of_ble_eq_true rfl) ?_
  intro p e s m args below meth c C hr hlk hnm H ls hl hM
  obtain ⟨hx, hb, hml, hown, hts, -, -⟩ := id C
  have hl : lv_has ls 1 [(0, .int i0)] := hl
  have t_0 : (0 : Int32).toInt = 0 := by decide
  have t_1 : (1 : Int32).toInt = 1 := by decide
  have t_4 : (4 : Int32).toInt = 4 := by decide
  refine lv_iload_n hx hb dX12_isShelf_0 rfl (lv_at hl 0 rfl) ?_
  refine lv_if_lt (tgt := 13) hx hb dX12_isShelf_1 (by decide) (fun cv1 => ?_) (fun cv1 => ?_)
  · have tcv1 := ltT cv1
    refine lv_iconst (v := 0) hx hb dX12_isShelf_13 (by decide) ?_
    exact r_retZ C hr hlk rfl hM (⟨rfl, rfl, rfl, by omega⟩) dX12_isShelf_14
  · have tcv1 := ltF cv1
    refine lv_iload_n hx hb dX12_isShelf_4 rfl (lv_at hl 0 rfl) ?_
    refine lv_iconst (v := 4) hx hb dX12_isShelf_5 (by decide) ?_
    refine lv_icmp_ge (tgt := 13) hx hb dX12_isShelf_6 (by decide) (fun cv2 => ?_) (fun cv2 => ?_)
    · have tcv2 := leT cv2
      refine lv_iconst (v := 0) hx hb dX12_isShelf_13 (by decide) ?_
      exact r_retZ C hr hlk rfl hM (⟨rfl, rfl, rfl, by omega⟩) dX12_isShelf_14
    · have tcv2 := leF cv2
      refine lv_iconst (v := 1) hx hb dX12_isShelf_9 (by decide) ?_
      refine lv_goto (tgt := 14) hx hb dX12_isShelf_10 (by decide) ?_
      exact r_retZ C hr hlk rfl hM (⟨rfl, rfl, rfl, by omega⟩) dX12_isShelf_14
set_option maxHeartbeats 4000000 in
set_option maxRecDepth 100000 in
theorem c_X12_sizeOf (l : Launch) (D : gD) (H0 : gB) (S : Mem) (kc ns : Nat) (j0 : Int64) : Met l yX12_sizeOf (wsU yX12_sizeOf cX12_sizeOf 3 (some .int)) ({ frames := 0, cells := 0, slots := 0, locals := 0 } : Room) (mP D H0 S kc ns [.long j0]) (mQ D H0 gI (fun r S1 k1 n1 => S = S1 ∧ kc = k1 ∧ ns = n1 ∧ True)) 0 0 (mF H0) := by
  refine r_met (own := RX12) (by decide +kernel) rfl (Nat.le_of_ble_eq_true rfl) ?_
  intro p e s m args below meth c C hr hlk hnm H ls hl hM
  obtain ⟨hx, hb, hml, hown, hts, -, -⟩ := id C
  have hl : lv_has ls 3 [(0, .long j0)] := hl
  have t_0 : (0 : Int32).toInt = 0 := by decide
  have t_1 : (1 : Int32).toInt = 1 := by decide
  have t_8 : (8 : Int32).toInt = 8 := by decide
  refine lv_iconst (v := 0) hx hb dX12_sizeOf_0 (by decide) ?_
  refine lv_istore_n (lv' := [(2, .int 0), (0, .long j0)]) hx hb dX12_sizeOf_1 rfl hl (by decide) rfl (fun ls hl => ?_)
  have loop2 : ∀ (fu : Nat) (n : Int32) (H : Heap) (locs : List Loc) (ls : Array Slot), (0 ≤ n.toInt) → (8 - n.toInt).toNat < fu → lv_has ls 3 [(0, .long j0), (2, .int n)] → mH D H0 S kc ns H locs → W p l e ({ frames := 0, cells := 0, slots := 0, locals := 0 } : Room) s m args below meth c H locs 0 0 (MQ below (mQ D H0 gI (fun r S1 k1 n1 => S = S1 ∧ kc = k1 ∧ ns = n1 ∧ True)) args s 0 0 (mF H0)) (F0 m 2 ls []) := by
    intro fu
    induction fu with
    | zero => intro n H locs ls h2_0 hfu; exact absurd hfu (by omega)
    | succ fu ih2 =>
      intro n H locs ls h2_0 hfu hl hM
      refine lv_iload_n hx hb dX12_sizeOf_2 rfl (lv_at hl 1 rfl) ?_
      refine lv_bipush (v := 8) hx hb dX12_sizeOf_3 (by decide) ?_
      refine lv_icmp_ge (tgt := 25) hx hb dX12_sizeOf_5 (by decide) (fun cv1 => ?_) (fun cv1 => ?_)
      · have tcv1 := leT cv1
        refine lv_iload_n hx hb dX12_sizeOf_25 rfl (lv_at hl 1 rfl) ?_
        exact r_retI C hr hlk hM (⟨rfl, rfl, rfl, trivial⟩) dX12_sizeOf_26
      · have tcv1 := leF cv1
        refine lv_lload_n hx hb dX12_sizeOf_8 rfl (lv_at hl 0 rfl) ?_
        refine lv_bipush (v := 8) hx hb dX12_sizeOf_9 (by decide) ?_
        refine lv_iload_n hx hb dX12_sizeOf_11 rfl (lv_at hl 1 rfl) ?_
        refine lv_imul hx hb dX12_sizeOf_12 ?_
        refine lv_topi (fun xv2 exv2 => ?_)
        try (have txv2 := mulD (a := n) (k := 8) (n := 8) (by decide) (by omega) (by omega); rw [← exv2] at txv2)
        refine lv_lushr hx hb dX12_sizeOf_13 rfl ?_
        refine lv_topl (fun lv3 elv3 => ?_)
        refine lv_lconst (v := 0) hx hb dX12_sizeOf_14 (by decide) ?_
        refine W.lcmp hx hb dX12_sizeOf_15 ?_
        refine lv_topi (fun xv4 exv4 => ?_)
        refine lv_if_eq (tgt := 25) hx hb dX12_sizeOf_16 (by decide) (fun cv5 => ?_) (fun cv5 => ?_)
        · have tcv5 := eqT cv5
          refine lv_iload_n hx hb dX12_sizeOf_25 rfl (lv_at hl 1 rfl) ?_
          exact r_retI C hr hlk hM (⟨rfl, rfl, rfl, trivial⟩) dX12_sizeOf_26
        · have tcv5 := eqF cv5
          obtain ⟨xv6, exv6⟩ : ∃ y : Int32, y = n + 1 := ⟨_, rfl⟩
          try (have txv6 := addI (a := n) (b := 1) (by omega) (by omega); rw [← exv6] at txv6)
          refine lv_iinc (v := xv6) (lv' := [(2, .int xv6), (0, .long j0)]) hx hb dX12_sizeOf_19 hl (k := 1) rfl (by rw [exv6]; rfl) (by decide) rfl (fun ls hl => ?_)
          refine lv_goto (tgt := 2) hx hb dX12_sizeOf_22 (by decide) ?_
          exact ih2 xv6 _ _ _ (by omega) (by omega) (lv_sub hl [1, 0] rfl) hM
  exact loop2 (((8 - (0 : Int32).toInt).toNat) + 1) 0 _ _ _ (by omega) (by omega) (lv_sub hl [1, 0] rfl) hM
set_option maxHeartbeats 4000000 in
set_option maxRecDepth 100000 in
theorem c_X12_bitsOf (l : Launch) (D : gD) (H0 : gB) (S : Mem) (kc ns : Nat) (i0 : Int32) : Met l yX12_bitsOf (wsU yX12_bitsOf cX12_bitsOf 3 (some .int)) ({ frames := 0, cells := 0, slots := 0, locals := 0 } : Room) (mP D H0 S kc ns [.int i0]) (mQ D H0 gI (fun r S1 k1 n1 => S = S1 ∧ kc = k1 ∧ ns = n1 ∧ True)) 0 0 (mF H0) := by
  refine r_met (own := RX12) (by decide +kernel) rfl (Nat.le_of_ble_eq_true rfl) ?_
  intro p e s m args below meth c C hr hlk hnm H ls hl hM
  obtain ⟨hx, hb, hml, hown, hts, -, -⟩ := id C
  have hl : lv_has ls 3 [(0, .int i0)] := hl
  have t_0 : (0 : Int32).toInt = 0 := by decide
  have t_1 : (1 : Int32).toInt = 1 := by decide
  have t_8 : (8 : Int32).toInt = 8 := by decide
  refine lv_iconst (v := 0) hx hb dX12_bitsOf_0 (by decide) ?_
  refine lv_istore_n (lv' := [(1, .int 0), (0, .int i0)]) hx hb dX12_bitsOf_1 rfl hl (by decide) rfl (fun ls hl => ?_)
  refine lv_iconst (v := 0) hx hb dX12_bitsOf_2 (by decide) ?_
  refine lv_istore_n (lv' := [(2, .int 0), (1, .int 0), (0, .int i0)]) hx hb dX12_bitsOf_3 rfl hl (by decide) rfl (fun ls hl => ?_)
  have loop4 : ∀ (fu : Nat) (k : Int32) (n : Int32) (H : Heap) (locs : List Loc) (ls : Array Slot), (0 ≤ k.toInt) → (8 - k.toInt).toNat < fu → lv_has ls 3 [(0, .int i0), (1, .int n), (2, .int k)] → mH D H0 S kc ns H locs → W p l e ({ frames := 0, cells := 0, slots := 0, locals := 0 } : Room) s m args below meth c H locs 0 0 (MQ below (mQ D H0 gI (fun r S1 k1 n1 => S = S1 ∧ kc = k1 ∧ ns = n1 ∧ True)) args s 0 0 (mF H0)) (F0 m 4 ls []) := by
    intro fu
    induction fu with
    | zero => intro k n H locs ls h4_0 hfu; exact absurd hfu (by omega)
    | succ fu ih4 =>
      intro k n H locs ls h4_0 hfu hl hM
      refine lv_iload_n hx hb dX12_bitsOf_4 rfl (lv_at hl 2 rfl) ?_
      refine lv_bipush (v := 8) hx hb dX12_bitsOf_5 (by decide) ?_
      refine lv_icmp_ge (tgt := 24) hx hb dX12_bitsOf_7 (by decide) (fun cv1 => ?_) (fun cv1 => ?_)
      · have tcv1 := leT cv1
        refine lv_iload_n hx hb dX12_bitsOf_24 rfl (lv_at hl 1 rfl) ?_
        exact r_retI C hr hlk hM (⟨rfl, rfl, rfl, trivial⟩) dX12_bitsOf_25
      · have tcv1 := leF cv1
        refine lv_iload_n hx hb dX12_bitsOf_10 rfl (lv_at hl 1 rfl) ?_
        refine lv_iload_n hx hb dX12_bitsOf_11 rfl (lv_at hl 0 rfl) ?_
        refine lv_iload_n hx hb dX12_bitsOf_12 rfl (lv_at hl 2 rfl) ?_
        refine lv_ishr hx hb dX12_bitsOf_13 ?_
        refine lv_topi (fun xv2 exv2 => ?_)
        refine lv_iconst (v := 1) hx hb dX12_bitsOf_14 (by decide) ?_
        refine lv_iand hx hb dX12_bitsOf_15 ?_
        refine lv_topi (fun xv3 exv3 => ?_)
        refine lv_iadd hx hb dX12_bitsOf_16 ?_
        refine lv_topi (fun xv4 exv4 => ?_)
        try (have txv4 := addI (a := n) (b := xv3) (by omega) (by omega); rw [← exv4] at txv4)
        refine lv_istore_n (lv' := [(1, .int xv4), (0, .int i0), (2, .int k)]) hx hb dX12_bitsOf_17 rfl hl (by decide) rfl (fun ls hl => ?_)
        obtain ⟨xv5, exv5⟩ : ∃ y : Int32, y = k + 1 := ⟨_, rfl⟩
        try (have txv5 := addI (a := k) (b := 1) (by omega) (by omega); rw [← exv5] at txv5)
        refine lv_iinc (v := xv5) (lv' := [(2, .int xv5), (1, .int xv4), (0, .int i0)]) hx hb dX12_bitsOf_18 hl (k := 2) rfl (by rw [exv5]; rfl) (by decide) rfl (fun ls hl => ?_)
        refine lv_goto (tgt := 4) hx hb dX12_bitsOf_21 (by decide) ?_
        exact ih4 xv5 xv4 _ _ _ (by omega) (by omega) (lv_sub hl [2, 1, 0] rfl) hM
  exact loop4 (((8 - (0 : Int32).toInt).toNat) + 1) 0 0 _ _ _ (by omega) (by omega) (lv_sub hl [2, 1, 0] rfl) hM
set_option maxHeartbeats 4000000 in
set_option maxRecDepth 100000 in
theorem c_X12_sign (l : Launch) (D : gD) (H0 : gB) (h0 : Nat) (R : RS) (kc ns : Nat) (i0 : Int32) (hI : RI R) (a0 : 0 ≤ i0.toInt)  : Met l yX12_sign (wsU yX12_sign cX12_sign 2 (some .int)) ({ frames := 0, cells := 0, slots := 0, locals := 0 } : Room) (mP D H0 (rM h0 R) kc ns [.ref h0, .int i0]) (mQ D H0 gI (fun r S1 k1 n1 => rM h0 R = S1 ∧ kc = k1 ∧ ns = n1 ∧ (r.toInt = 0 ∨ i0.toInt < (rI R 3).toInt))) 0 0 (mF H0) := by
  refine r_met (own := RX12) (by decide +kernel) rfl (Nat.le_of_ble_eq_true rfl) ?_
  intro p e s m args below meth c C hr hlk hnm H ls hl hM
  obtain ⟨hx, hb, hml, hown, hts, -, -⟩ := id C
  have hl : lv_has ls 2 [(0, .ref h0), (1, .int i0)] := hl
  have hF : fr [] R R := fr.rf
  have hI0 := hI
  have t_0 : (0 : Int32).toInt = 0 := by decide
  have t_255 : (255 : Int32).toInt = 255 := by decide
  refine lv_iload_n hx hb dX12_sign_0 rfl (lv_at hl 1 rfl) ?_
  refine lv_aload_n hx hb dX12_sign_1 rfl (lv_at hl 0 rfl) ?_
  refine rr_getI (k := 3) (v := rI R 3) C hM f_X12_110 rfl (hF.gI 3 (by decide)) dX12_sign_2 ?_
  refine lv_topi (fun xv1 exv1 => ?_)
  have mxv1 : xv1.toInt = (rI R 3).toInt := by rw [exv1]
  have fxv1 := RI.size hI0; rw [← exv1] at fxv1
  refine lv_icmp_ge (tgt := 21) hx hb dX12_sign_5 (by decide) (fun cv2 => ?_) (fun cv2 => ?_)
  · have tcv2 := leT cv2
    refine lv_iconst (v := 0) hx hb dX12_sign_21 (by decide) ?_
    exact r_retI C hr hlk hM (⟨rfl, rfl, rfl, by omega⟩) dX12_sign_22
  · have tcv2 := leF cv2
    refine lv_aload_n hx hb dX12_sign_8 rfl (lv_at hl 0 rfl) ?_
    refine rr_getA (k := 1) (j := 1) C hM f_X12_13 rfl rfl dX12_sign_9 ?_
    refine lv_iload_n hx hb dX12_sign_12 rfl (lv_at hl 1 rfl) ?_
    refine rr_ldB (j := 1) (k := 1) (n := 1600) (v := rA R 1 i0.toNatClampNeg) C hM rfl rfl rfl (inI (by omega) (by show _ < (1600 : Int); omega)) (congrFun (hF.gA 1 (by decide)) i0.toNatClampNeg) dX12_sign_13 ?_
    refine lv_topi (fun xv3 exv3 => ?_)
    refine lv_sipush (v := 255) hx hb dX12_sign_14 (by decide) ?_
    refine lv_iand hx hb dX12_sign_17 ?_
    refine lv_topi (fun xv4 exv4 => ?_)
    refine lv_goto (tgt := 22) hx hb dX12_sign_18 (by decide) ?_
    exact r_retI C hr hlk hM (⟨rfl, rfl, rfl, by omega⟩) dX12_sign_22
set_option maxHeartbeats 4000000 in
set_option maxRecDepth 100000 in
theorem c_X12_isGood (l : Launch) (D : gD) (H0 : gB) (h0 : Nat) (R : RS) (kc ns : Nat)  : Met l yX12_isGood (wsU yX12_isGood cX12_isGood 1 (some .boolean)) ({ frames := 0, cells := 0, slots := 0, locals := 0 } : Room) (mP D H0 (rM h0 R) kc ns [.ref h0]) (mQ D H0 gI (fun r S1 k1 n1 => rM h0 R = S1 ∧ kc = k1 ∧ ns = n1 ∧ ((r.toInt = 1 ∧ (rI R 4).toInt = 0) ∨ (r.toInt = 0 ∧ (rI R 4).toInt ≠ 0)))) 0 0 (mF H0) := by
  refine r_met (own := RX12) (by decide +kernel) rfl (Nat.le_of_ble_eq_true rfl) ?_
  intro p e s m args below meth c C hr hlk hnm H ls hl hM
  obtain ⟨hx, hb, hml, hown, hts, -, -⟩ := id C
  have hl : lv_has ls 1 [(0, .ref h0)] := hl
  have hF : fr [] R R := fr.rf
  have t_0 : (0 : Int32).toInt = 0 := by decide
  have t_1 : (1 : Int32).toInt = 1 := by decide
  refine lv_aload_n hx hb dX12_isGood_0 rfl (lv_at hl 0 rfl) ?_
  refine rr_getI (k := 4) (v := rI R 4) C hM f_X12_113 rfl (hF.gI 4 (by decide)) dX12_isGood_1 ?_
  refine lv_topi (fun xv1 exv1 => ?_)
  have mxv1 : xv1.toInt = (rI R 4).toInt := by rw [exv1]
  refine lv_if_ne (tgt := 11) hx hb dX12_isGood_4 (by decide) (fun cv2 => ?_) (fun cv2 => ?_)
  · have tcv2 := eqF cv2
    refine lv_iconst (v := 0) hx hb dX12_isGood_11 (by decide) ?_
    exact r_retZ C hr hlk rfl hM (⟨rfl, rfl, rfl, by omega⟩) dX12_isGood_12
  · have tcv2 := eqT cv2
    refine lv_iconst (v := 1) hx hb dX12_isGood_7 (by decide) ?_
    refine lv_goto (tgt := 12) hx hb dX12_isGood_8 (by decide) ?_
    exact r_retZ C hr hlk rfl hM (⟨rfl, rfl, rfl, by omega⟩) dX12_isGood_12
set_option maxHeartbeats 4000000 in
set_option maxRecDepth 100000 in
theorem c_X12_is (l : Launch) (D : gD) (H0 : gB) (h0 : Nat) (R : RS) (kc ns : Nat) (i0 : Int32) (hI : RI R) (a0 : 0 ≤ (rI R 6).toInt)  : Met l yX12_is (wsU yX12_is cX12_is 2 (some .boolean)) ({ frames := 1, cells := 0, slots := 0, locals := 21 } : Room) (mP D H0 (rM h0 R) kc ns [.ref h0, .int i0]) (mQ D H0 gI (fun r S1 k1 n1 => rM h0 R = S1 ∧ kc = k1 ∧ ns = n1 ∧ (r = 0 ∨ r = 1))) 0 0 (mF H0) := by
  refine r_met (own := RX12) (by decide +kernel) rfl (Nat.le_of_ble_eq_true rfl) ?_
  intro p e s m args below meth c C hr hlk hnm H ls hl hM
  obtain ⟨hx, hb, hml, hown, hts, -, -⟩ := id C
  have hl : lv_has ls 2 [(0, .ref h0), (1, .int i0)] := hl
  have hF : fr [] R R := fr.rf
  have hI0 := hI
  have t_0 : (0 : Int32).toInt = 0 := by decide
  have t_1 : (1 : Int32).toInt = 1 := by decide
  have t_4 : (4 : Int32).toInt = 4 := by decide
  refine lv_aload_n hx hb dX12_is_0 rfl (lv_at hl 0 rfl) ?_
  refine rr_getI (k := 8) (v := rI R 8) C hM f_X12_126 rfl (hF.gI 8 (by decide)) dX12_is_1 ?_
  refine lv_topi (fun xv1 exv1 => ?_)
  have mxv1 : xv1.toInt = (rI R 8).toInt := by rw [exv1]
  refine lv_iconst (v := 4) hx hb dX12_is_4 (by decide) ?_
  refine lv_icmp_ne (tgt := 24) hx hb dX12_is_5 (by decide) (fun cv2 => ?_) (fun cv2 => ?_)
  · have tcv2 := eqF cv2
    refine lv_iconst (v := 0) hx hb dX12_is_24 (by decide) ?_
    exact r_retZ C hr hlk rfl hM (⟨rfl, rfl, rfl, by decide⟩) dX12_is_25
  · have tcv2 := eqT cv2
    refine lv_aload_n hx hb dX12_is_8 rfl (lv_at hl 0 rfl) ?_
    refine lv_aload_n hx hb dX12_is_9 rfl (lv_at hl 0 rfl) ?_
    refine rr_getI (k := 6) (v := rI R 6) C hM f_X12_119 rfl (hF.gI 6 (by decide)) dX12_is_10 ?_
    refine lv_topi (fun xv3 exv3 => ?_)
    have mxv3 : xv3.toInt = (rI R 6).toInt := by rw [exv3]
    refine r_V (As := [.int xv3]) (rest := []) (ci := 12) C hM (c_X12_sign l D H0 h0 R kc ns xv3 hI0 (by omega)) i_X12_sign m_X12_122 rK0 rfl rfl rfl hl.1 rfl (Nat.le_of_ble_eq_true rfl) ⟨by decide, by decide⟩ ⟨by decide, by decide⟩ dX12_is_13 (fun xv7 Sv4 kv5 nv6 H locs pv8 hM => ?_)
    obtain ⟨rfl, rfl, rfl, hxv7⟩ := pv8
    refine W.eq (g2 := F0 m 16 ls [.int xv7]) rfl ?_
    refine lv_iload_n hx hb dX12_is_16 rfl (lv_at hl 1 rfl) ?_
    refine lv_icmp_ne (tgt := 24) hx hb dX12_is_17 (by decide) (fun cv9 => ?_) (fun cv9 => ?_)
    · have tcv9 := eqF cv9
      refine lv_iconst (v := 0) hx hb dX12_is_24 (by decide) ?_
      exact r_retZ C hr hlk rfl hM (⟨rfl, rfl, rfl, by decide⟩) dX12_is_25
    · have tcv9 := eqT cv9
      refine lv_iconst (v := 1) hx hb dX12_is_20 (by decide) ?_
      refine lv_goto (tgt := 25) hx hb dX12_is_21 (by decide) ?_
      exact r_retZ C hr hlk rfl hM (⟨rfl, rfl, rfl, by decide⟩) dX12_is_25
set_option maxHeartbeats 4000000 in
set_option maxRecDepth 100000 in
theorem c_X12_isPart (l : Launch) (D : gD) (H0 : gB) (h0 : Nat) (R : RS) (kc ns : Nat) (i0 i1 : Int32) (hI : RI R)  : Met l yX12_isPart (wsU yX12_isPart cX12_isPart 3 (some .boolean)) ({ frames := 1, cells := 0, slots := 0, locals := 20 } : Room) (mP D H0 (rM h0 R) kc ns [.ref h0, .int i0, .int i1]) (mQ D H0 gI (fun r S1 k1 n1 => rM h0 R = S1 ∧ kc = k1 ∧ ns = n1 ∧ (r.toInt = 0 ∨ (r.toInt = 1 ∧ 0 ≤ i0.toInt ∧ i0.toInt < 4 ∧ 0 ≤ i1.toInt ∧ i1.toInt < (rA R 10 i0.toNatClampNeg).toInt)))) 0 0 (mF H0) := by
  refine r_met (own := RX12) (by decide +kernel) rfl (Nat.le_of_ble_eq_true rfl) ?_
  intro p e s m args below meth c C hr hlk hnm H ls hl hM
  obtain ⟨hx, hb, hml, hown, hts, -, -⟩ := id C
  have hl : lv_has ls 3 [(0, .ref h0), (1, .int i0), (2, .int i1)] := hl
  have hF : fr [] R R := fr.rf
  have hI0 := hI
  have t_0 : (0 : Int32).toInt = 0 := by decide
  have t_1 : (1 : Int32).toInt = 1 := by decide
  refine lv_iload_n hx hb dX12_isPart_0 rfl (lv_at hl 1 rfl) ?_
  refine r_S (As := [.int i0]) (rest := []) C hM (c_X12_isShelf l D H0 (rM h0 R) kc ns i0) i_X12_isShelf m_X12_168 rfl hl.1 rfl (Nat.le_of_ble_eq_true rfl) ⟨by decide, by decide⟩ ⟨by decide, by decide⟩ dX12_isPart_1 (fun xv4 Sv1 kv2 nv3 H locs pv5 hM => ?_)
  obtain ⟨rfl, rfl, rfl, hxv4⟩ := pv5
  refine W.eq (g2 := F0 m 4 ls [.int xv4]) rfl ?_
  refine lv_if_eq (tgt := 25) hx hb dX12_isPart_4 (by decide) (fun cv6 => ?_) (fun cv6 => ?_)
  · have tcv6 := eqT cv6
    refine lv_iconst (v := 0) hx hb dX12_isPart_25 (by decide) ?_
    exact r_retZ C hr hlk rfl hM (⟨rfl, rfl, rfl, by omega⟩) dX12_isPart_26
  · have tcv6 := eqF cv6
    refine lv_iload_n hx hb dX12_isPart_7 rfl (lv_at hl 2 rfl) ?_
    refine lv_if_lt (tgt := 25) hx hb dX12_isPart_8 (by decide) (fun cv7 => ?_) (fun cv7 => ?_)
    · have tcv7 := ltT cv7
      refine lv_iconst (v := 0) hx hb dX12_isPart_25 (by decide) ?_
      exact r_retZ C hr hlk rfl hM (⟨rfl, rfl, rfl, by omega⟩) dX12_isPart_26
    · have tcv7 := ltF cv7
      refine lv_iload_n hx hb dX12_isPart_11 rfl (lv_at hl 2 rfl) ?_
      refine lv_aload_n hx hb dX12_isPart_12 rfl (lv_at hl 0 rfl) ?_
      refine rr_getA (k := 10) (j := 2) C hM f_X12_20 rfl rfl dX12_isPart_13 ?_
      refine lv_iload_n hx hb dX12_isPart_16 rfl (lv_at hl 1 rfl) ?_
      refine rr_ldI (j := 2) (k := 10) (n := 31) (v := rA R 10 i0.toNatClampNeg) C hM rfl rfl rfl (inI (by omega) (by show _ < (31 : Int); omega)) (congrFun (hF.gA 10 (by decide)) i0.toNatClampNeg) dX12_isPart_17 ?_
      refine lv_topi (fun xv8 exv8 => ?_)
      have mxv8 : xv8.toInt = (rA R 10 i0.toNatClampNeg).toInt := by rw [exv8]
      have fxv8 := RI.many hI0 i0.toNatClampNeg; rw [← exv8] at fxv8
      refine lv_icmp_ge (tgt := 25) hx hb dX12_isPart_18 (by decide) (fun cv9 => ?_) (fun cv9 => ?_)
      · have tcv9 := leT cv9
        refine lv_iconst (v := 0) hx hb dX12_isPart_25 (by decide) ?_
        exact r_retZ C hr hlk rfl hM (⟨rfl, rfl, rfl, by omega⟩) dX12_isPart_26
      · have tcv9 := leF cv9
        refine lv_iconst (v := 1) hx hb dX12_isPart_21 (by decide) ?_
        refine lv_goto (tgt := 26) hx hb dX12_isPart_22 (by decide) ?_
        exact r_retZ C hr hlk rfl hM (⟨rfl, rfl, rfl, by omega⟩) dX12_isPart_26
set_option maxHeartbeats 4000000 in
set_option maxRecDepth 100000 in
theorem c_X12_hasPage (l : Launch) (D : gD) (H0 : gB) (h0 : Nat) (R : RS) (kc ns : Nat) (i0 : Int32) (hI : RI R)  : Met l yX12_hasPage (wsU yX12_hasPage cX12_hasPage 2 (some .boolean)) ({ frames := 1, cells := 0, slots := 0, locals := 20 } : Room) (mP D H0 (rM h0 R) kc ns [.ref h0, .int i0]) (mQ D H0 gI (fun r S1 k1 n1 => rM h0 R = S1 ∧ kc = k1 ∧ ns = n1 ∧ (r.toInt = 0 ∨ (r.toInt = 1 ∧ 0 ≤ i0.toInt ∧ i0.toInt < 4 ∧ 0 < (rA R 10 i0.toNatClampNeg).toInt)))) 0 0 (mF H0) := by
  refine r_met (own := RX12) (by decide +kernel) rfl (Nat.le_of_ble_eq_true rfl) ?_
  intro p e s m args below meth c C hr hlk hnm H ls hl hM
  obtain ⟨hx, hb, hml, hown, hts, -, -⟩ := id C
  have hl : lv_has ls 2 [(0, .ref h0), (1, .int i0)] := hl
  have hF : fr [] R R := fr.rf
  have hI0 := hI
  have t_0 : (0 : Int32).toInt = 0 := by decide
  have t_1 : (1 : Int32).toInt = 1 := by decide
  refine lv_iload_n hx hb dX12_hasPage_0 rfl (lv_at hl 1 rfl) ?_
  refine r_S (As := [.int i0]) (rest := []) C hM (c_X12_isShelf l D H0 (rM h0 R) kc ns i0) i_X12_isShelf m_X12_168 rfl hl.1 rfl (Nat.le_of_ble_eq_true rfl) ⟨by decide, by decide⟩ ⟨by decide, by decide⟩ dX12_hasPage_1 (fun xv4 Sv1 kv2 nv3 H locs pv5 hM => ?_)
  obtain ⟨rfl, rfl, rfl, hxv4⟩ := pv5
  refine W.eq (g2 := F0 m 4 ls [.int xv4]) rfl ?_
  refine lv_if_eq (tgt := 20) hx hb dX12_hasPage_4 (by decide) (fun cv6 => ?_) (fun cv6 => ?_)
  · have tcv6 := eqT cv6
    refine lv_iconst (v := 0) hx hb dX12_hasPage_20 (by decide) ?_
    exact r_retZ C hr hlk rfl hM (⟨rfl, rfl, rfl, by omega⟩) dX12_hasPage_21
  · have tcv6 := eqF cv6
    refine lv_aload_n hx hb dX12_hasPage_7 rfl (lv_at hl 0 rfl) ?_
    refine rr_getA (k := 10) (j := 2) C hM f_X12_20 rfl rfl dX12_hasPage_8 ?_
    refine lv_iload_n hx hb dX12_hasPage_11 rfl (lv_at hl 1 rfl) ?_
    refine rr_ldI (j := 2) (k := 10) (n := 31) (v := rA R 10 i0.toNatClampNeg) C hM rfl rfl rfl (inI (by omega) (by show _ < (31 : Int); omega)) (congrFun (hF.gA 10 (by decide)) i0.toNatClampNeg) dX12_hasPage_12 ?_
    refine lv_topi (fun xv7 exv7 => ?_)
    have mxv7 : xv7.toInt = (rA R 10 i0.toNatClampNeg).toInt := by rw [exv7]
    have fxv7 := RI.many hI0 i0.toNatClampNeg; rw [← exv7] at fxv7
    refine lv_if_le (tgt := 20) hx hb dX12_hasPage_13 (by decide) (fun cv8 => ?_) (fun cv8 => ?_)
    · have tcv8 := leT cv8
      refine lv_iconst (v := 0) hx hb dX12_hasPage_20 (by decide) ?_
      exact r_retZ C hr hlk rfl hM (⟨rfl, rfl, rfl, by omega⟩) dX12_hasPage_21
    · have tcv8 := leF cv8
      refine lv_iconst (v := 1) hx hb dX12_hasPage_16 (by decide) ?_
      refine lv_goto (tgt := 21) hx hb dX12_hasPage_17 (by decide) ?_
      exact r_retZ C hr hlk rfl hM (⟨rfl, rfl, rfl, by omega⟩) dX12_hasPage_21
set_option maxHeartbeats 4000000 in
set_option maxRecDepth 100000 in
theorem c_X12_fault (l : Launch) (D : gD) (H0 : gB) (h0 : Nat) (R : RS) (kc ns : Nat) (i0 : Int32) (hI : RI R)  : Met l yX12_fault (wsU yX12_fault cX12_fault 2 (some .int)) ({ frames := 0, cells := 0, slots := 0, locals := 0 } : Room) (mP D H0 (rM h0 R) kc ns [.ref h0, .int i0]) (mQ D H0 gI (fun r S1 k1 n1 => rM h0 R = S1 ∧ kc = k1 ∧ ns = n1 ∧ True)) 0 0 (mF H0) := by
  refine r_met (own := RX12) (by decide +kernel) rfl (Nat.le_of_ble_eq_true rfl) ?_
  intro p e s m args below meth c C hr hlk hnm H ls hl hM
  obtain ⟨hx, hb, hml, hown, hts, -, -⟩ := id C
  have hl : lv_has ls 2 [(0, .ref h0), (1, .int i0)] := hl
  have hF : fr [] R R := fr.rf
  have hI0 := hI
  have t_m1 : (-1 : Int32).toInt = -1 := by decide
  have t_0 : (0 : Int32).toInt = 0 := by decide
  have t_1 : (1 : Int32).toInt = 1 := by decide
  refine lv_iload_n hx hb dX12_fault_0 rfl (lv_at hl 1 rfl) ?_
  refine lv_if_ne (tgt := 11) hx hb dX12_fault_1 (by decide) (fun cv1 => ?_) (fun cv1 => ?_)
  · have tcv1 := eqF cv1
    refine lv_iload_n hx hb dX12_fault_11 rfl (lv_at hl 1 rfl) ?_
    refine lv_iconst (v := 1) hx hb dX12_fault_12 (by decide) ?_
    refine lv_icmp_ne (tgt := 23) hx hb dX12_fault_13 (by decide) (fun cv2 => ?_) (fun cv2 => ?_)
    · have tcv2 := eqF cv2
      refine lv_iconst (v := -1) hx hb dX12_fault_23 (by decide) ?_
      exact r_retI C hr hlk hM (⟨rfl, rfl, rfl, trivial⟩) dX12_fault_24
    · have tcv2 := eqT cv2
      refine lv_aload_n hx hb dX12_fault_16 rfl (lv_at hl 0 rfl) ?_
      refine rr_getI (k := 5) (v := rI R 5) C hM f_X12_16 rfl (hF.gI 5 (by decide)) dX12_fault_17 ?_
      refine lv_topi (fun xv3 exv3 => ?_)
      have mxv3 : xv3.toInt = (rI R 5).toInt := by rw [exv3]
      refine lv_goto (tgt := 24) hx hb dX12_fault_20 (by decide) ?_
      exact r_retI C hr hlk hM (⟨rfl, rfl, rfl, trivial⟩) dX12_fault_24
  · have tcv1 := eqT cv1
    refine lv_aload_n hx hb dX12_fault_4 rfl (lv_at hl 0 rfl) ?_
    refine rr_getI (k := 4) (v := rI R 4) C hM f_X12_113 rfl (hF.gI 4 (by decide)) dX12_fault_5 ?_
    refine lv_topi (fun xv4 exv4 => ?_)
    have mxv4 : xv4.toInt = (rI R 4).toInt := by rw [exv4]
    refine lv_goto (tgt := 24) hx hb dX12_fault_8 (by decide) ?_
    exact r_retI C hr hlk hM (⟨rfl, rfl, rfl, trivial⟩) dX12_fault_24
set_option maxHeartbeats 4000000 in
set_option maxRecDepth 100000 in
theorem c_X12_found (l : Launch) (D : gD) (H0 : gB) (h0 : Nat) (R : RS) (kc ns : Nat) (i0 : Int32) (hI : RI R)  : Met l yX12_found (wsU yX12_found cX12_found 2 (some .int)) ({ frames := 0, cells := 0, slots := 0, locals := 0 } : Room) (mP D H0 (rM h0 R) kc ns [.ref h0, .int i0]) (mQ D H0 gI (fun r S1 k1 n1 => rM h0 R = S1 ∧ kc = k1 ∧ ns = n1 ∧ True)) 0 0 (mF H0) := by
  refine r_met (own := RX12) (by decide +kernel) rfl (Nat.le_of_ble_eq_true rfl) ?_
  intro p e s m args below meth c C hr hlk hnm H ls hl hM
  obtain ⟨hx, hb, hml, hown, hts, -, -⟩ := id C
  have hl : lv_has ls 2 [(0, .ref h0), (1, .int i0)] := hl
  have hF : fr [] R R := fr.rf
  have hI0 := hI
  have t_m1 : (-1 : Int32).toInt = -1 := by decide
  have t_0 : (0 : Int32).toInt = 0 := by decide
  have t_1 : (1 : Int32).toInt = 1 := by decide
  have t_2 : (2 : Int32).toInt = 2 := by decide
  have t_3 : (3 : Int32).toInt = 3 := by decide
  refine lv_aload_n hx hb dX12_found_0 rfl (lv_at hl 0 rfl) ?_
  refine rr_getI (k := 30) (v := rI R 30) C hM f_X12_242 rfl (hF.gI 30 (by decide)) dX12_found_1 ?_
  refine lv_topi (fun xv1 exv1 => ?_)
  have mxv1 : xv1.toInt = (rI R 30).toInt := by rw [exv1]
  refine lv_if_ne (tgt := 11) hx hb dX12_found_4 (by decide) (fun cv2 => ?_) (fun cv2 => ?_)
  · have tcv2 := eqF cv2
    refine lv_iload_n hx hb dX12_found_11 rfl (lv_at hl 1 rfl) ?_
    refine lv_if_ne (tgt := 22) hx hb dX12_found_12 (by decide) (fun cv3 => ?_) (fun cv3 => ?_)
    · have tcv3 := eqF cv3
      refine lv_iload_n hx hb dX12_found_22 rfl (lv_at hl 1 rfl) ?_
      refine lv_iconst (v := 1) hx hb dX12_found_23 (by decide) ?_
      refine lv_icmp_ne (tgt := 34) hx hb dX12_found_24 (by decide) (fun cv4 => ?_) (fun cv4 => ?_)
      · have tcv4 := eqF cv4
        refine lv_iload_n hx hb dX12_found_34 rfl (lv_at hl 1 rfl) ?_
        refine lv_iconst (v := 2) hx hb dX12_found_35 (by decide) ?_
        refine lv_icmp_ne (tgt := 46) hx hb dX12_found_36 (by decide) (fun cv5 => ?_) (fun cv5 => ?_)
        · have tcv5 := eqF cv5
          refine lv_iload_n hx hb dX12_found_46 rfl (lv_at hl 1 rfl) ?_
          refine lv_iconst (v := 3) hx hb dX12_found_47 (by decide) ?_
          refine lv_icmp_ne (tgt := 58) hx hb dX12_found_48 (by decide) (fun cv6 => ?_) (fun cv6 => ?_)
          · have tcv6 := eqF cv6
            refine lv_iconst (v := -1) hx hb dX12_found_58 (by decide) ?_
            exact r_retI C hr hlk hM (⟨rfl, rfl, rfl, trivial⟩) dX12_found_59
          · have tcv6 := eqT cv6
            refine lv_aload_n hx hb dX12_found_51 rfl (lv_at hl 0 rfl) ?_
            refine rr_getI (k := 34) (v := rI R 34) C hM f_X12_255 rfl (hF.gI 34 (by decide)) dX12_found_52 ?_
            refine lv_topi (fun xv7 exv7 => ?_)
            have mxv7 : xv7.toInt = (rI R 34).toInt := by rw [exv7]
            refine lv_goto (tgt := 59) hx hb dX12_found_55 (by decide) ?_
            exact r_retI C hr hlk hM (⟨rfl, rfl, rfl, trivial⟩) dX12_found_59
        · have tcv5 := eqT cv5
          refine lv_aload_n hx hb dX12_found_39 rfl (lv_at hl 0 rfl) ?_
          refine rr_getI (k := 33) (v := rI R 33) C hM f_X12_252 rfl (hF.gI 33 (by decide)) dX12_found_40 ?_
          refine lv_topi (fun xv8 exv8 => ?_)
          have mxv8 : xv8.toInt = (rI R 33).toInt := by rw [exv8]
          refine lv_goto (tgt := 59) hx hb dX12_found_43 (by decide) ?_
          exact r_retI C hr hlk hM (⟨rfl, rfl, rfl, trivial⟩) dX12_found_59
      · have tcv4 := eqT cv4
        refine lv_aload_n hx hb dX12_found_27 rfl (lv_at hl 0 rfl) ?_
        refine rr_getI (k := 32) (v := rI R 32) C hM f_X12_249 rfl (hF.gI 32 (by decide)) dX12_found_28 ?_
        refine lv_topi (fun xv9 exv9 => ?_)
        have mxv9 : xv9.toInt = (rI R 32).toInt := by rw [exv9]
        refine lv_goto (tgt := 59) hx hb dX12_found_31 (by decide) ?_
        exact r_retI C hr hlk hM (⟨rfl, rfl, rfl, trivial⟩) dX12_found_59
    · have tcv3 := eqT cv3
      refine lv_aload_n hx hb dX12_found_15 rfl (lv_at hl 0 rfl) ?_
      refine rr_getI (k := 31) (v := rI R 31) C hM f_X12_246 rfl (hF.gI 31 (by decide)) dX12_found_16 ?_
      refine lv_topi (fun xv10 exv10 => ?_)
      have mxv10 : xv10.toInt = (rI R 31).toInt := by rw [exv10]
      refine lv_goto (tgt := 59) hx hb dX12_found_19 (by decide) ?_
      exact r_retI C hr hlk hM (⟨rfl, rfl, rfl, trivial⟩) dX12_found_59
  · have tcv2 := eqT cv2
    refine lv_iconst (v := -1) hx hb dX12_found_7 (by decide) ?_
    refine lv_goto (tgt := 59) hx hb dX12_found_8 (by decide) ?_
    exact r_retI C hr hlk hM (⟨rfl, rfl, rfl, trivial⟩) dX12_found_59
set_option maxHeartbeats 4000000 in
set_option maxRecDepth 100000 in
theorem c_X12_ran (l : Launch) (D : gD) (H0 : gB) (h0 : Nat) (R : RS) (kc ns : Nat) (i0 : Int32) (hI : RI R)  : Met l yX12_ran (wsU yX12_ran cX12_ran 2 (some .int)) ({ frames := 0, cells := 0, slots := 0, locals := 0 } : Room) (mP D H0 (rM h0 R) kc ns [.ref h0, .int i0]) (mQ D H0 gI (fun r S1 k1 n1 => rM h0 R = S1 ∧ kc = k1 ∧ ns = n1 ∧ True)) 0 0 (mF H0) := by
  refine r_met (own := RX12) (by decide +kernel) rfl (Nat.le_of_ble_eq_true rfl) ?_
  intro p e s m args below meth c C hr hlk hnm H ls hl hM
  obtain ⟨hx, hb, hml, hown, hts, -, -⟩ := id C
  have hl : lv_has ls 2 [(0, .ref h0), (1, .int i0)] := hl
  have hF : fr [] R R := fr.rf
  have hI0 := hI
  have t_m1 : (-1 : Int32).toInt = -1 := by decide
  have t_0 : (0 : Int32).toInt = 0 := by decide
  have t_1 : (1 : Int32).toInt = 1 := by decide
  have t_2 : (2 : Int32).toInt = 2 := by decide
  have t_3 : (3 : Int32).toInt = 3 := by decide
  refine lv_aload_n hx hb dX12_ran_0 rfl (lv_at hl 0 rfl) ?_
  refine rr_getI (k := 56) (v := rI R 56) C hM f_X12_334 rfl (hF.gI 56 (by decide)) dX12_ran_1 ?_
  refine lv_topi (fun xv1 exv1 => ?_)
  have mxv1 : xv1.toInt = (rI R 56).toInt := by rw [exv1]
  refine lv_if_ne (tgt := 11) hx hb dX12_ran_4 (by decide) (fun cv2 => ?_) (fun cv2 => ?_)
  · have tcv2 := eqF cv2
    refine lv_iload_n hx hb dX12_ran_11 rfl (lv_at hl 1 rfl) ?_
    refine lv_if_ne (tgt := 22) hx hb dX12_ran_12 (by decide) (fun cv3 => ?_) (fun cv3 => ?_)
    · have tcv3 := eqF cv3
      refine lv_iload_n hx hb dX12_ran_22 rfl (lv_at hl 1 rfl) ?_
      refine lv_iconst (v := 1) hx hb dX12_ran_23 (by decide) ?_
      refine lv_icmp_ne (tgt := 34) hx hb dX12_ran_24 (by decide) (fun cv4 => ?_) (fun cv4 => ?_)
      · have tcv4 := eqF cv4
        refine lv_iload_n hx hb dX12_ran_34 rfl (lv_at hl 1 rfl) ?_
        refine lv_iconst (v := 2) hx hb dX12_ran_35 (by decide) ?_
        refine lv_icmp_ne (tgt := 46) hx hb dX12_ran_36 (by decide) (fun cv5 => ?_) (fun cv5 => ?_)
        · have tcv5 := eqF cv5
          refine lv_iload_n hx hb dX12_ran_46 rfl (lv_at hl 1 rfl) ?_
          refine lv_iconst (v := 3) hx hb dX12_ran_47 (by decide) ?_
          refine lv_icmp_ne (tgt := 58) hx hb dX12_ran_48 (by decide) (fun cv6 => ?_) (fun cv6 => ?_)
          · have tcv6 := eqF cv6
            refine lv_iconst (v := -1) hx hb dX12_ran_58 (by decide) ?_
            exact r_retI C hr hlk hM (⟨rfl, rfl, rfl, trivial⟩) dX12_ran_59
          · have tcv6 := eqT cv6
            refine lv_aload_n hx hb dX12_ran_51 rfl (lv_at hl 0 rfl) ?_
            refine rr_getI (k := 55) (v := rI R 55) C hM f_X12_316 rfl (hF.gI 55 (by decide)) dX12_ran_52 ?_
            refine lv_topi (fun xv7 exv7 => ?_)
            have mxv7 : xv7.toInt = (rI R 55).toInt := by rw [exv7]
            refine lv_goto (tgt := 59) hx hb dX12_ran_55 (by decide) ?_
            exact r_retI C hr hlk hM (⟨rfl, rfl, rfl, trivial⟩) dX12_ran_59
        · have tcv5 := eqT cv5
          refine lv_aload_n hx hb dX12_ran_39 rfl (lv_at hl 0 rfl) ?_
          refine rr_getI (k := 54) (v := rI R 54) C hM f_X12_328 rfl (hF.gI 54 (by decide)) dX12_ran_40 ?_
          refine lv_topi (fun xv8 exv8 => ?_)
          have mxv8 : xv8.toInt = (rI R 54).toInt := by rw [exv8]
          refine lv_goto (tgt := 59) hx hb dX12_ran_43 (by decide) ?_
          exact r_retI C hr hlk hM (⟨rfl, rfl, rfl, trivial⟩) dX12_ran_59
      · have tcv4 := eqT cv4
        refine lv_aload_n hx hb dX12_ran_27 rfl (lv_at hl 0 rfl) ?_
        refine rr_getI (k := 53) (v := rI R 53) C hM f_X12_325 rfl (hF.gI 53 (by decide)) dX12_ran_28 ?_
        refine lv_topi (fun xv9 exv9 => ?_)
        have mxv9 : xv9.toInt = (rI R 53).toInt := by rw [exv9]
        refine lv_goto (tgt := 59) hx hb dX12_ran_31 (by decide) ?_
        exact r_retI C hr hlk hM (⟨rfl, rfl, rfl, trivial⟩) dX12_ran_59
    · have tcv3 := eqT cv3
      refine lv_aload_n hx hb dX12_ran_15 rfl (lv_at hl 0 rfl) ?_
      refine rr_getI (k := 52) (v := rI R 52) C hM f_X12_322 rfl (hF.gI 52 (by decide)) dX12_ran_16 ?_
      refine lv_topi (fun xv10 exv10 => ?_)
      have mxv10 : xv10.toInt = (rI R 52).toInt := by rw [exv10]
      refine lv_goto (tgt := 59) hx hb dX12_ran_19 (by decide) ?_
      exact r_retI C hr hlk hM (⟨rfl, rfl, rfl, trivial⟩) dX12_ran_59
  · have tcv2 := eqT cv2
    refine lv_iconst (v := -1) hx hb dX12_ran_7 (by decide) ?_
    refine lv_goto (tgt := 59) hx hb dX12_ran_8 (by decide) ?_
    exact r_retI C hr hlk hM (⟨rfl, rfl, rfl, trivial⟩) dX12_ran_59
set_option maxHeartbeats 4000000 in
set_option maxRecDepth 100000 in
theorem c_X12_left (l : Launch) (D : gD) (H0 : gB) (h0 : Nat) (R : RS) (kc ns : Nat) (i0 i1 : Int32) (hI : RI R) (g00 : 0 ≤ i0.toInt) (g10 : i0.toInt < 30) (p01 : 0 ≤ i1.toInt) (p11 : i1.toInt < (rA R 10 i0.toNatClampNeg).toInt)  : Met l yX12_left (wsU yX12_left cX12_left 5 (some .int)) ({ frames := 1, cells := 0, slots := 0, locals := 21 } : Room) (mP D H0 (rM h0 R) kc ns [.ref h0, .int i0, .int i1]) (mQ D H0 gI (fun r S1 k1 n1 => rM h0 R = S1 ∧ kc = k1 ∧ ns = n1 ∧ -1 ≤ r.toInt ∧ r.toInt < i1.toInt)) 0 0 (mF H0) := by
  refine r_met (own := RX12) (by decide +kernel) rfl (Nat.le_of_ble_eq_true rfl) ?_
  intro p e s m args below meth c C hr hlk hnm H ls hl hM
  obtain ⟨hx, hb, hml, hown, hts, -, -⟩ := id C
  have hl : lv_has ls 5 [(0, .ref h0), (1, .int i0), (2, .int i1)] := hl
  have hF : fr [] R R := fr.rf
  have hI0 := hI
  have t_m1 : (-1 : Int32).toInt = -1 := by decide
  have t_0 : (0 : Int32).toInt = 0 := by decide
  have t_1 : (1 : Int32).toInt = 1 := by decide
  have fm0 := RI.many hI i0.toNatClampNeg
  refine lv_iconst (v := -1) hx hb dX12_left_0 (by decide) ?_
  refine lv_istore_n (lv' := [(3, .int (-1)), (0, .ref h0), (1, .int i0), (2, .int i1)]) hx hb dX12_left_1 rfl hl (by decide) rfl (fun ls hl => ?_)
  refine lv_iconst (v := 0) hx hb dX12_left_2 (by decide) ?_
  refine lv_istore (lv' := [(4, .int 0), (3, .int (-1)), (0, .ref h0), (1, .int i0), (2, .int i1)]) hx hb dX12_left_3 hl (by decide) rfl (fun ls hl => ?_)
  have loop5 : ∀ (fu : Nat) (q : Int32) (f : Int32) (H : Heap) (locs : List Loc) (ls : Array Slot), (-1 ≤ f.toInt ∧ f.toInt < i1.toInt) → (0 ≤ q.toInt) → (60 - q.toInt).toNat < fu → lv_has ls 5 [(0, .ref h0), (1, .int i0), (2, .int i1), (3, .int f), (4, .int q)] → mH D H0 (rM h0 R) kc ns H locs → W p l e ({ frames := 1, cells := 0, slots := 0, locals := 21 } : Room) s m args below meth c H locs 0 0 (MQ below (mQ D H0 gI (fun r S1 k1 n1 => rM h0 R = S1 ∧ kc = k1 ∧ ns = n1 ∧ -1 ≤ r.toInt ∧ r.toInt < i1.toInt)) args s 0 0 (mF H0)) (F0 m 5 ls []) := by
    intro fu
    induction fu with
    | zero => intro q f H locs ls h5_0 h5_1 hfu; exact absurd hfu (by omega)
    | succ fu ih5 =>
      intro q f H locs ls h5_0 h5_1 hfu hl hM
      refine lv_iload hx hb dX12_left_5 (lv_at hl 4 rfl) ?_
      refine lv_iload_n hx hb dX12_left_7 rfl (lv_at hl 2 rfl) ?_
      refine lv_icmp_ge (tgt := 53) hx hb dX12_left_8 (by decide) (fun cv1 => ?_) (fun cv1 => ?_)
      · have tcv1 := leT cv1
        refine lv_iload_n hx hb dX12_left_53 rfl (lv_at hl 3 rfl) ?_
        exact r_retI C hr hlk hM (⟨rfl, rfl, rfl, by omega⟩) dX12_left_54
      · have tcv1 := leF cv1
        refine lv_iload_n hx hb dX12_left_11 rfl (lv_at hl 2 rfl) ?_
        refine lv_if_le (tgt := 47) hx hb dX12_left_12 (by decide) (fun cv2 => ?_) (fun cv2 => ?_)
        · have tcv2 := leT cv2
          obtain ⟨xv3, exv3⟩ : ∃ y : Int32, y = q + 1 := ⟨_, rfl⟩
          try (have txv3 := addI (a := q) (b := 1) (by omega) (by omega); rw [← exv3] at txv3)
          refine lv_iinc (v := xv3) (lv' := [(4, .int xv3), (0, .ref h0), (1, .int i0), (2, .int i1), (3, .int f)]) hx hb dX12_left_47 hl (k := 4) rfl (by rw [exv3]; rfl) (by decide) rfl (fun ls hl => ?_)
          refine lv_goto (tgt := 5) hx hb dX12_left_50 (by decide) ?_
          exact ih5 xv3 f _ _ _ (by omega) (by omega) (by omega) (lv_sub hl [1, 2, 3, 4, 0] rfl) hM
        · have tcv2 := leF cv2
          refine lv_iload hx hb dX12_left_15 (lv_at hl 4 rfl) ?_
          refine lv_if_le (tgt := 47) hx hb dX12_left_17 (by decide) (fun cv4 => ?_) (fun cv4 => ?_)
          · have tcv4 := leT cv4
            obtain ⟨xv5, exv5⟩ : ∃ y : Int32, y = q + 1 := ⟨_, rfl⟩
            try (have txv5 := addI (a := q) (b := 1) (by omega) (by omega); rw [← exv5] at txv5)
            refine lv_iinc (v := xv5) (lv' := [(4, .int xv5), (0, .ref h0), (1, .int i0), (2, .int i1), (3, .int f)]) hx hb dX12_left_47 hl (k := 4) rfl (by rw [exv5]; rfl) (by decide) rfl (fun ls hl => ?_)
            refine lv_goto (tgt := 5) hx hb dX12_left_50 (by decide) ?_
            exact ih5 xv5 f _ _ _ (by omega) (by omega) (by omega) (lv_sub hl [1, 2, 3, 4, 0] rfl) hM
          · have tcv4 := leF cv4
            refine lv_aload_n hx hb dX12_left_20 rfl (lv_at hl 0 rfl) ?_
            refine rr_getA (k := 11) (j := 3) C hM f_X12_24 rfl rfl dX12_left_21 ?_
            refine lv_iload_n hx hb dX12_left_24 rfl (lv_at hl 1 rfl) ?_
            refine lv_iload hx hb dX12_left_25 (lv_at hl 4 rfl) ?_
            refine r_S (As := [.int i0, .int q]) (rest := [.ref (h0 + 1 + 3)]) C hM (c_X12_spot l D H0 (rM h0 R) kc ns i0 q (by omega) (by omega) (by omega) (by omega)) i_X12_spot m_X12_151 rfl hl.1 rfl (Nat.le_of_ble_eq_true rfl) ⟨by decide, by decide⟩ ⟨by decide, by decide⟩ dX12_left_27 (fun xv9 Sv6 kv7 nv8 H locs pv10 hM => ?_)
            obtain ⟨rfl, rfl, rfl, hxv9⟩ := pv10
            refine W.eq (g2 := F0 m 30 ls [.int xv9, .ref (h0 + 1 + 3)]) rfl ?_
            refine rr_ldI (j := 3) (k := 11) (n := 1860) (v := rA R 11 xv9.toNatClampNeg) C hM rfl rfl rfl (inI (by omega) (by show _ < (1860 : Int); omega)) (congrFun (hF.gA 11 (by decide)) xv9.toNatClampNeg) dX12_left_30 ?_
            refine lv_topi (fun xv11 exv11 => ?_)
            try (have fxv11 := PG.at11 hI0 (g := i0) (p := q) (x := xv9) (by omega) (by omega) (by omega) (by omega) (by omega); rw [← exv11] at fxv11)
            refine lv_aload_n hx hb dX12_left_31 rfl (lv_at hl 0 rfl) ?_
            refine rr_getA (k := 11) (j := 3) C hM f_X12_24 rfl rfl dX12_left_32 ?_
            refine lv_iload_n hx hb dX12_left_35 rfl (lv_at hl 1 rfl) ?_
            refine lv_iload_n hx hb dX12_left_36 rfl (lv_at hl 2 rfl) ?_
            refine r_S (As := [.int i0, .int i1]) (rest := [.ref (h0 + 1 + 3), .int xv11]) C hM (c_X12_spot l D H0 (rM h0 R) kc ns i0 i1 (by omega) (by omega) (by omega) (by omega)) i_X12_spot m_X12_151 rfl hl.1 rfl (Nat.le_of_ble_eq_true rfl) ⟨by decide, by decide⟩ ⟨by decide, by decide⟩ dX12_left_37 (fun xv15 Sv12 kv13 nv14 H locs pv16 hM => ?_)
            obtain ⟨rfl, rfl, rfl, hxv15⟩ := pv16
            refine W.eq (g2 := F0 m 40 ls [.int xv15, .ref (h0 + 1 + 3), .int xv11]) rfl ?_
            refine rr_ldI (j := 3) (k := 11) (n := 1860) (v := rA R 11 xv15.toNatClampNeg) C hM rfl rfl rfl (inI (by omega) (by show _ < (1860 : Int); omega)) (congrFun (hF.gA 11 (by decide)) xv15.toNatClampNeg) dX12_left_40 ?_
            refine lv_topi (fun xv17 exv17 => ?_)
            try (have fxv17 := PG.at11 hI0 (g := i0) (p := i1) (x := xv15) (by omega) (by omega) (by omega) (by omega) (by omega); rw [← exv17] at fxv17)
            refine lv_icmp_ne (tgt := 47) hx hb dX12_left_41 (by decide) (fun cv18 => ?_) (fun cv18 => ?_)
            · have tcv18 := eqF cv18
              obtain ⟨xv19, exv19⟩ : ∃ y : Int32, y = q + 1 := ⟨_, rfl⟩
              try (have txv19 := addI (a := q) (b := 1) (by omega) (by omega); rw [← exv19] at txv19)
              refine lv_iinc (v := xv19) (lv' := [(4, .int xv19), (0, .ref h0), (1, .int i0), (2, .int i1), (3, .int f)]) hx hb dX12_left_47 hl (k := 4) rfl (by rw [exv19]; rfl) (by decide) rfl (fun ls hl => ?_)
              refine lv_goto (tgt := 5) hx hb dX12_left_50 (by decide) ?_
              exact ih5 xv19 f _ _ _ (by omega) (by omega) (by omega) (lv_sub hl [1, 2, 3, 4, 0] rfl) hM
            · have tcv18 := eqT cv18
              refine lv_iload hx hb dX12_left_44 (lv_at hl 4 rfl) ?_
              refine lv_istore_n (lv' := [(3, .int q), (0, .ref h0), (1, .int i0), (2, .int i1), (4, .int q)]) hx hb dX12_left_46 rfl hl (by decide) rfl (fun ls hl => ?_)
              obtain ⟨xv20, exv20⟩ : ∃ y : Int32, y = q + 1 := ⟨_, rfl⟩
              try (have txv20 := addI (a := q) (b := 1) (by omega) (by omega); rw [← exv20] at txv20)
              refine lv_iinc (v := xv20) (lv' := [(4, .int xv20), (3, .int q), (0, .ref h0), (1, .int i0), (2, .int i1)]) hx hb dX12_left_47 hl (k := 4) rfl (by rw [exv20]; rfl) (by decide) rfl (fun ls hl => ?_)
              refine lv_goto (tgt := 5) hx hb dX12_left_50 (by decide) ?_
              exact ih5 xv20 q _ _ _ (by omega) (by omega) (by omega) (lv_sub hl [2, 3, 4, 1, 0] rfl) hM
  exact loop5 (((60 - (0 : Int32).toInt).toNat) + 1) 0 (-1) _ _ _ (by omega) (by omega) (by omega) (lv_sub hl [2, 3, 4, 1, 0] rfl) hM
set_option maxHeartbeats 4000000 in
set_option maxRecDepth 100000 in
theorem c_X12_right (l : Launch) (D : gD) (H0 : gB) (h0 : Nat) (R : RS) (kc ns : Nat) (i0 i1 : Int32) (hI : RI R) (g00 : 0 ≤ i0.toInt) (g10 : i0.toInt < 30) (p01 : 0 ≤ i1.toInt) (p11 : i1.toInt < (rA R 10 i0.toNatClampNeg).toInt)  : Met l yX12_right (wsU yX12_right cX12_right 4 (some .int)) ({ frames := 1, cells := 0, slots := 0, locals := 21 } : Room) (mP D H0 (rM h0 R) kc ns [.ref h0, .int i0, .int i1]) (mQ D H0 gI (fun r S1 k1 n1 => rM h0 R = S1 ∧ kc = k1 ∧ ns = n1 ∧ -1 ≤ r.toInt ∧ r.toInt < (rA R 10 i0.toNatClampNeg).toInt)) 0 0 (mF H0) := by
  refine r_met (own := RX12) (by decide +kernel) rfl (Nat.le_of_ble_eq_true rfl) ?_
  intro p e s m args below meth c C hr hlk hnm H ls hl hM
  obtain ⟨hx, hb, hml, hown, hts, -, -⟩ := id C
  have hl : lv_has ls 4 [(0, .ref h0), (1, .int i0), (2, .int i1)] := hl
  have hF : fr [] R R := fr.rf
  have hI0 := hI
  have t_m1 : (-1 : Int32).toInt = -1 := by decide
  have t_0 : (0 : Int32).toInt = 0 := by decide
  have fm0 := RI.many hI i0.toNatClampNeg
  refine lv_iload_n hx hb dX12_right_0 rfl (lv_at hl 2 rfl) ?_
  refine lv_aload_n hx hb dX12_right_1 rfl (lv_at hl 0 rfl) ?_
  refine rr_getA (k := 12) (j := 4) C hM f_X12_27 rfl rfl dX12_right_2 ?_
  refine lv_iload_n hx hb dX12_right_5 rfl (lv_at hl 1 rfl) ?_
  refine lv_iload_n hx hb dX12_right_6 rfl (lv_at hl 2 rfl) ?_
  refine r_S (As := [.int i0, .int i1]) (rest := [.ref (h0 + 1 + 4), .int i1]) C hM (c_X12_spot l D H0 (rM h0 R) kc ns i0 i1 (by omega) (by omega) (by omega) (by omega)) i_X12_spot m_X12_151 rfl hl.1 rfl (Nat.le_of_ble_eq_true rfl) ⟨by decide, by decide⟩ ⟨by decide, by decide⟩ dX12_right_7 (fun xv4 Sv1 kv2 nv3 H locs pv5 hM => ?_)
  obtain ⟨rfl, rfl, rfl, hxv4⟩ := pv5
  refine W.eq (g2 := F0 m 10 ls [.int xv4, .ref (h0 + 1 + 4), .int i1]) rfl ?_
  refine rr_ldI (j := 4) (k := 12) (n := 1860) (v := rA R 12 xv4.toNatClampNeg) C hM rfl rfl rfl (inI (by omega) (by show _ < (1860 : Int); omega)) (congrFun (hF.gA 12 (by decide)) xv4.toNatClampNeg) dX12_right_10 ?_
  refine lv_topi (fun xv6 exv6 => ?_)
  try (have fxv6 := PG.at12 hI0 (g := i0) (p := i1) (x := xv4) (by omega) (by omega) (by omega) (by omega) (by omega); rw [← exv6] at fxv6)
  refine lv_iadd hx hb dX12_right_11 ?_
  refine lv_topi (fun xv7 exv7 => ?_)
  try (have txv7 := addI (a := i1) (b := xv6) (by omega) (by omega); rw [← exv7] at txv7)
  refine lv_istore_n (lv' := [(3, .int xv7), (0, .ref h0), (1, .int i0), (2, .int i1)]) hx hb dX12_right_12 rfl hl (by decide) rfl (fun ls hl => ?_)
  refine lv_iload_n hx hb dX12_right_13 rfl (lv_at hl 3 rfl) ?_
  refine lv_if_le (tgt := 54) hx hb dX12_right_14 (by decide) (fun cv8 => ?_) (fun cv8 => ?_)
  · have tcv8 := leT cv8
    refine lv_iconst (v := -1) hx hb dX12_right_54 (by decide) ?_
    exact r_retI C hr hlk hM (⟨rfl, rfl, rfl, by omega⟩) dX12_right_55
  · have tcv8 := leF cv8
    refine lv_iload_n hx hb dX12_right_17 rfl (lv_at hl 0 rfl) ?_
    refine lv_aload_n hx hb dX12_right_18 rfl (lv_at hl 1 rfl) ?_
    refine rr_getA (k := 10) (j := 2) C hM f_X12_20 rfl rfl dX12_right_19 ?_
    refine lv_iload_n hx hb dX12_right_22 rfl (lv_at hl 2 rfl) ?_
    refine rr_ldI (j := 2) (k := 10) (n := 31) (v := rA R 10 i0.toNatClampNeg) C hM rfl rfl rfl (inI (by omega) (by show _ < (31 : Int); omega)) (congrFun (hF.gA 10 (by decide)) i0.toNatClampNeg) dX12_right_23 ?_
    refine lv_topi (fun xv9 exv9 => ?_)
    have mxv9 : xv9.toInt = (rA R 10 i0.toNatClampNeg).toInt := by rw [exv9]
    have fxv9 := RI.many hI0 i0.toNatClampNeg; rw [← exv9] at fxv9
    refine lv_icmp_ge (tgt := 54) hx hb dX12_right_24 (by decide) (fun cv10 => ?_) (fun cv10 => ?_)
    · have tcv10 := leT cv10
      refine lv_iconst (v := -1) hx hb dX12_right_54 (by decide) ?_
      exact r_retI C hr hlk hM (⟨rfl, rfl, rfl, by omega⟩) dX12_right_55
    · have tcv10 := leF cv10
      refine lv_aload_n hx hb dX12_right_27 rfl (lv_at hl 1 rfl) ?_
      refine rr_getA (k := 11) (j := 3) C hM f_X12_24 rfl rfl dX12_right_28 ?_
      refine lv_iload_n hx hb dX12_right_31 rfl (lv_at hl 2 rfl) ?_
      refine lv_iload_n hx hb dX12_right_32 rfl (lv_at hl 0 rfl) ?_
      refine r_S (As := [.int i0, .int xv7]) (rest := [.ref (h0 + 1 + 3)]) C hM (c_X12_spot l D H0 (rM h0 R) kc ns i0 xv7 (by omega) (by omega) (by omega) (by omega)) i_X12_spot m_X12_151 rfl hl.1 rfl (Nat.le_of_ble_eq_true rfl) ⟨by decide, by decide⟩ ⟨by decide, by decide⟩ dX12_right_33 (fun xv14 Sv11 kv12 nv13 H locs pv15 hM => ?_)
      obtain ⟨rfl, rfl, rfl, hxv14⟩ := pv15
      refine W.eq (g2 := F0 m 36 ls [.int xv14, .ref (h0 + 1 + 3)]) rfl ?_
      refine rr_ldI (j := 3) (k := 11) (n := 1860) (v := rA R 11 xv14.toNatClampNeg) C hM rfl rfl rfl (inI (by omega) (by show _ < (1860 : Int); omega)) (congrFun (hF.gA 11 (by decide)) xv14.toNatClampNeg) dX12_right_36 ?_
      refine lv_topi (fun xv16 exv16 => ?_)
      try (have fxv16 := PG.at11 hI0 (g := i0) (p := xv7) (x := xv14) (by omega) (by omega) (by omega) (by omega) (by omega); rw [← exv16] at fxv16)
      refine lv_aload_n hx hb dX12_right_37 rfl (lv_at hl 1 rfl) ?_
      refine rr_getA (k := 11) (j := 3) C hM f_X12_24 rfl rfl dX12_right_38 ?_
      refine lv_iload_n hx hb dX12_right_41 rfl (lv_at hl 2 rfl) ?_
      refine lv_iload_n hx hb dX12_right_42 rfl (lv_at hl 3 rfl) ?_
      refine r_S (As := [.int i0, .int i1]) (rest := [.ref (h0 + 1 + 3), .int xv16]) C hM (c_X12_spot l D H0 (rM h0 R) kc ns i0 i1 (by omega) (by omega) (by omega) (by omega)) i_X12_spot m_X12_151 rfl hl.1 rfl (Nat.le_of_ble_eq_true rfl) ⟨by decide, by decide⟩ ⟨by decide, by decide⟩ dX12_right_43 (fun xv20 Sv17 kv18 nv19 H locs pv21 hM => ?_)
      obtain ⟨rfl, rfl, rfl, hxv20⟩ := pv21
      refine W.eq (g2 := F0 m 46 ls [.int xv20, .ref (h0 + 1 + 3), .int xv16]) rfl ?_
      refine rr_ldI (j := 3) (k := 11) (n := 1860) (v := rA R 11 xv20.toNatClampNeg) C hM rfl rfl rfl (inI (by omega) (by show _ < (1860 : Int); omega)) (congrFun (hF.gA 11 (by decide)) xv20.toNatClampNeg) dX12_right_46 ?_
      refine lv_topi (fun xv22 exv22 => ?_)
      try (have fxv22 := PG.at11 hI0 (g := i0) (p := i1) (x := xv20) (by omega) (by omega) (by omega) (by omega) (by omega); rw [← exv22] at fxv22)
      refine lv_icmp_ne (tgt := 54) hx hb dX12_right_47 (by decide) (fun cv23 => ?_) (fun cv23 => ?_)
      · have tcv23 := eqF cv23
        refine lv_iconst (v := -1) hx hb dX12_right_54 (by decide) ?_
        exact r_retI C hr hlk hM (⟨rfl, rfl, rfl, by omega⟩) dX12_right_55
      · have tcv23 := eqT cv23
        refine lv_iload_n hx hb dX12_right_50 rfl (lv_at hl 0 rfl) ?_
        refine lv_goto (tgt := 55) hx hb dX12_right_51 (by decide) ?_
        exact r_retI C hr hlk hM (⟨rfl, rfl, rfl, by omega⟩) dX12_right_55
set_option maxHeartbeats 4000000 in
set_option maxRecDepth 100000 in
theorem c_X12_label (l : Launch) (D : gD) (H0 : gB) (h0 : Nat) (R : RS) (kc ns : Nat) (i0 i1 : Int32) (hI : RI R) (g00 : 0 ≤ i0.toInt) (g10 : i0.toInt < 30) (p01 : 0 ≤ i1.toInt) (p11 : i1.toInt < (rA R 10 i0.toNatClampNeg).toInt)  : Met l yX12_label (wsU yX12_label cX12_label 4 (some .int)) ({ frames := 1, cells := 0, slots := 0, locals := 21 } : Room) (mP D H0 (rM h0 R) kc ns [.ref h0, .int i0, .int i1]) (mQ D H0 gI (fun r S1 k1 n1 => rM h0 R = S1 ∧ kc = k1 ∧ ns = n1 ∧ -1 ≤ r.toInt ∧ r.toInt < i1.toInt)) 0 0 (mF H0) := by
  refine r_met (own := RX12) (by decide +kernel) rfl (Nat.le_of_ble_eq_true rfl) ?_
  intro p e s m args below meth c C hr hlk hnm H ls hl hM
  obtain ⟨hx, hb, hml, hown, hts, -, -⟩ := id C
  have hl : lv_has ls 4 [(0, .ref h0), (1, .int i0), (2, .int i1)] := hl
  have hF : fr [] R R := fr.rf
  have hI0 := hI
  have t_m1 : (-1 : Int32).toInt = -1 := by decide
  have t_0 : (0 : Int32).toInt = 0 := by decide
  have t_1 : (1 : Int32).toInt = 1 := by decide
  have fm0 := RI.many hI i0.toNatClampNeg
  refine lv_iload_n hx hb dX12_label_0 rfl (lv_at hl 2 rfl) ?_
  refine lv_iconst (v := 1) hx hb dX12_label_1 (by decide) ?_
  refine lv_isub hx hb dX12_label_2 ?_
  refine lv_topi (fun xv1 exv1 => ?_)
  try (have txv1 := subI (a := i1) (b := 1) (by omega) (by omega); rw [← exv1] at txv1)
  refine lv_istore_n (lv' := [(3, .int xv1), (0, .ref h0), (1, .int i0), (2, .int i1)]) hx hb dX12_label_3 rfl hl (by decide) rfl (fun ls hl => ?_)
  have loop4 : ∀ (fu : Nat) (q : Int32) (H : Heap) (locs : List Loc) (ls : Array Slot), (-1 ≤ q.toInt ∧ q.toInt < i1.toInt) → (q.toInt + 1).toNat < fu → lv_has ls 4 [(0, .ref h0), (1, .int i0), (2, .int i1), (3, .int q)] → mH D H0 (rM h0 R) kc ns H locs → W p l e ({ frames := 1, cells := 0, slots := 0, locals := 21 } : Room) s m args below meth c H locs 0 0 (MQ below (mQ D H0 gI (fun r S1 k1 n1 => rM h0 R = S1 ∧ kc = k1 ∧ ns = n1 ∧ -1 ≤ r.toInt ∧ r.toInt < i1.toInt)) args s 0 0 (mF H0)) (F0 m 4 ls []) := by
    intro fu
    induction fu with
    | zero => intro q H locs ls h4_0 hfu; exact absurd hfu (by omega)
    | succ fu ih4 =>
      intro q H locs ls h4_0 hfu hl hM
      refine lv_iload_n hx hb dX12_label_4 rfl (lv_at hl 3 rfl) ?_
      refine lv_if_lt (tgt := 45) hx hb dX12_label_5 (by decide) (fun cv2 => ?_) (fun cv2 => ?_)
      · have tcv2 := ltT cv2
        refine lv_iload_n hx hb dX12_label_45 rfl (lv_at hl 3 rfl) ?_
        exact r_retI C hr hlk hM (⟨rfl, rfl, rfl, by omega⟩) dX12_label_46
      · have tcv2 := ltF cv2
        refine lv_aload_n hx hb dX12_label_8 rfl (lv_at hl 0 rfl) ?_
        refine rr_getA (k := 17) (j := 9) C hM f_X12_42 rfl rfl dX12_label_9 ?_
        refine lv_iload_n hx hb dX12_label_12 rfl (lv_at hl 1 rfl) ?_
        refine lv_iload_n hx hb dX12_label_13 rfl (lv_at hl 3 rfl) ?_
        refine r_S (As := [.int i0, .int q]) (rest := [.ref (h0 + 1 + 9)]) C hM (c_X12_spot l D H0 (rM h0 R) kc ns i0 q (by omega) (by omega) (by omega) (by omega)) i_X12_spot m_X12_151 rfl hl.1 rfl (Nat.le_of_ble_eq_true rfl) ⟨by decide, by decide⟩ ⟨by decide, by decide⟩ dX12_label_14 (fun xv6 Sv3 kv4 nv5 H locs pv7 hM => ?_)
        obtain ⟨rfl, rfl, rfl, hxv6⟩ := pv7
        refine W.eq (g2 := F0 m 17 ls [.int xv6, .ref (h0 + 1 + 9)]) rfl ?_
        refine rr_ldJ (j := 9) (k := 17) (n := 1860) (v := rB R 17 xv6.toNatClampNeg) C hM rfl rfl rfl (inI (by omega) (by show _ < (1860 : Int); omega)) (congrFun (hF.gB 17 (by decide)) xv6.toNatClampNeg) dX12_label_17 ?_
        refine lv_topl (fun lv8 elv8 => ?_)
        refine lv_ldc2 hx hb hown (hts _ q_X12_183) dX12_label_18 ?_
        refine W.lcmp hx hb dX12_label_21 ?_
        refine lv_topi (fun xv9 exv9 => ?_)
        refine lv_if_ne (tgt := 39) hx hb dX12_label_22 (by decide) (fun cv10 => ?_) (fun cv10 => ?_)
        · have tcv10 := eqF cv10
          obtain ⟨xv11, exv11⟩ : ∃ y : Int32, y = q + (-1) := ⟨_, rfl⟩
          try (have txv11 := addI (a := q) (b := (-1)) (by omega) (by omega); rw [← exv11] at txv11)
          refine lv_iinc (v := xv11) (lv' := [(3, .int xv11), (0, .ref h0), (1, .int i0), (2, .int i1)]) hx hb dX12_label_39 hl (k := 3) rfl (by rw [exv11]; rfl) (by decide) rfl (fun ls hl => ?_)
          refine lv_goto (tgt := 4) hx hb dX12_label_42 (by decide) ?_
          exact ih4 xv11 _ _ _ (by omega) (by omega) (lv_sub hl [1, 2, 3, 0] rfl) hM
        · have tcv10 := eqT cv10
          refine lv_aload_n hx hb dX12_label_25 rfl (lv_at hl 0 rfl) ?_
          refine rr_getA (k := 15) (j := 7) C hM f_X12_36 rfl rfl dX12_label_26 ?_
          refine lv_iload_n hx hb dX12_label_29 rfl (lv_at hl 1 rfl) ?_
          refine lv_iload_n hx hb dX12_label_30 rfl (lv_at hl 3 rfl) ?_
          refine r_S (As := [.int i0, .int q]) (rest := [.ref (h0 + 1 + 7)]) C hM (c_X12_spot l D H0 (rM h0 R) kc ns i0 q (by omega) (by omega) (by omega) (by omega)) i_X12_spot m_X12_151 rfl hl.1 rfl (Nat.le_of_ble_eq_true rfl) ⟨by decide, by decide⟩ ⟨by decide, by decide⟩ dX12_label_31 (fun xv15 Sv12 kv13 nv14 H locs pv16 hM => ?_)
          obtain ⟨rfl, rfl, rfl, hxv15⟩ := pv16
          refine W.eq (g2 := F0 m 34 ls [.int xv15, .ref (h0 + 1 + 7)]) rfl ?_
          refine rr_ldI (j := 7) (k := 15) (n := 1860) (v := rA R 15 xv15.toNatClampNeg) C hM rfl rfl rfl (inI (by omega) (by show _ < (1860 : Int); omega)) (congrFun (hF.gA 15 (by decide)) xv15.toNatClampNeg) dX12_label_34 ?_
          refine lv_topi (fun xv17 exv17 => ?_)
          have fxv17 := RI.words hI0 xv15.toNatClampNeg; rw [← exv17] at fxv17
          refine lv_iconst (v := 1) hx hb dX12_label_35 (by decide) ?_
          refine lv_icmp_ge (tgt := 45) hx hb dX12_label_36 (by decide) (fun cv18 => ?_) (fun cv18 => ?_)
          · have tcv18 := leT cv18
            refine lv_iload_n hx hb dX12_label_45 rfl (lv_at hl 3 rfl) ?_
            exact r_retI C hr hlk hM (⟨rfl, rfl, rfl, by omega⟩) dX12_label_46
          · have tcv18 := leF cv18
            obtain ⟨xv19, exv19⟩ : ∃ y : Int32, y = q + (-1) := ⟨_, rfl⟩
            try (have txv19 := addI (a := q) (b := (-1)) (by omega) (by omega); rw [← exv19] at txv19)
            refine lv_iinc (v := xv19) (lv' := [(3, .int xv19), (0, .ref h0), (1, .int i0), (2, .int i1)]) hx hb dX12_label_39 hl (k := 3) rfl (by rw [exv19]; rfl) (by decide) rfl (fun ls hl => ?_)
            refine lv_goto (tgt := 4) hx hb dX12_label_42 (by decide) ?_
            exact ih4 xv19 _ _ _ (by omega) (by omega) (lv_sub hl [1, 2, 3, 0] rfl) hM
  exact loop4 (((xv1.toInt + 1).toNat) + 1) xv1 _ _ _ (by omega) (by omega) (lv_sub hl [1, 2, 3, 0] rfl) hM
set_option maxHeartbeats 4000000 in
set_option maxRecDepth 100000 in
theorem c_X12_part (l : Launch) (D : gD) (H0 : gB) (h0 : Nat) (R : RS) (kc ns : Nat) (i0 i1 i2 : Int32) (hI : RI R)  : Met l yX12_part (wsU yX12_part cX12_part 5 (some .int)) ({ frames := 2, cells := 0, slots := 0, locals := 45 } : Room) (mP D H0 (rM h0 R) kc ns [.ref h0, .int i0, .int i1, .int i2]) (mQ D H0 gI (fun r S1 k1 n1 => rM h0 R = S1 ∧ kc = k1 ∧ ns = n1 ∧ True)) 0 0 (mF H0) := by
  refine r_met (own := RX12) (by decide +kernel) rfl (Nat.le_of_ble_eq_true rfl) ?_
  intro p e s m args below meth c C hr hlk hnm H ls hl hM
  obtain ⟨hx, hb, hml, hown, hts, -, -⟩ := id C
  have hl : lv_has ls 5 [(0, .ref h0), (1, .int i0), (2, .int i1), (3, .int i2)] := hl
  have hF : fr [] R R := fr.rf
  have hI0 := hI
  have t_m1 : (-1 : Int32).toInt = -1 := by decide
  have t_0 : (0 : Int32).toInt = 0 := by decide
  have t_1 : (1 : Int32).toInt = 1 := by decide
  have fm0 := RI.many hI i0.toNatClampNeg
  refine lv_aload_n hx hb dX12_part_0 rfl (lv_at hl 0 rfl) ?_
  refine lv_iload_n hx hb dX12_part_1 rfl (lv_at hl 1 rfl) ?_
  refine lv_iload_n hx hb dX12_part_2 rfl (lv_at hl 2 rfl) ?_
  refine r_V (As := [.int i0, .int i1]) (rest := []) (ci := 12) C hM (c_X12_isPart l D H0 h0 R kc ns i0 i1 hI0) i_X12_isPart m_X12_185 rK0 rfl rfl rfl hl.1 rfl (Nat.le_of_ble_eq_true rfl) ⟨by decide, by decide⟩ ⟨by decide, by decide⟩ dX12_part_3 (fun xv4 Sv1 kv2 nv3 H locs pv5 hM => ?_)
  obtain ⟨rfl, rfl, rfl, hxv4⟩ := pv5
  refine W.eq (g2 := F0 m 6 ls [.int xv4]) rfl ?_
  refine lv_if_ne (tgt := 11) hx hb dX12_part_6 (by decide) (fun cv6 => ?_) (fun cv6 => ?_)
  · have tcv6 := eqF cv6
    refine lv_iload_n hx hb dX12_part_11 rfl (lv_at hl 1 rfl) ?_
    refine lv_iload_n hx hb dX12_part_12 rfl (lv_at hl 2 rfl) ?_
    refine r_S (As := [.int i0, .int i1]) (rest := []) C hM (c_X12_spot l D H0 (rM h0 R) kc ns i0 i1 (by omega) (by omega) (by omega) (by omega)) i_X12_spot m_X12_151 rfl hl.1 rfl (Nat.le_of_ble_eq_true rfl) ⟨by decide, by decide⟩ ⟨by decide, by decide⟩ dX12_part_13 (fun xv10 Sv7 kv8 nv9 H locs pv11 hM => ?_)
    obtain ⟨rfl, rfl, rfl, hxv10⟩ := pv11
    refine W.eq (g2 := F0 m 16 ls [.int xv10]) rfl ?_
    refine lv_istore (lv' := [(4, .int xv10), (0, .ref h0), (1, .int i0), (2, .int i1), (3, .int i2)]) hx hb dX12_part_16 hl (by decide) rfl (fun ls hl => ?_)
    refine lv_iload_n hx hb dX12_part_18 rfl (lv_at hl 4 rfl) ?_
    by_cases hv12_0 : i2.toInt = 0
    · refine lv_tableIn (off := 53) (tgt := 72) hx hb dX12_part_19 (by omega) (by omega) (by rw [hv12_0]; rfl) (by decide) ?_
      refine lv_aload_n hx hb dX12_part_72 rfl (lv_at hl 1 rfl) ?_
      refine rr_getA (k := 11) (j := 3) C hM f_X12_24 rfl rfl dX12_part_73 ?_
      refine lv_iload hx hb dX12_part_76 (lv_at hl 0 rfl) ?_
      refine rr_ldI (j := 3) (k := 11) (n := 1860) (v := rA R 11 xv10.toNatClampNeg) C hM rfl rfl rfl (inI (by omega) (by show _ < (1860 : Int); omega)) (congrFun (hF.gA 11 (by decide)) xv10.toNatClampNeg) dX12_part_78 ?_
      refine lv_topi (fun xv13 exv13 => ?_)
      try (have fxv13 := PG.at11 hI0 (g := i0) (p := i1) (x := xv10) (by omega) (by omega) (by omega) (by omega) (by omega); rw [← exv13] at fxv13)
      exact r_retI C hr hlk hM (⟨rfl, rfl, rfl, trivial⟩) dX12_part_79
    by_cases hv12_1 : i2.toInt = 1
    · refine lv_tableIn (off := 61) (tgt := 80) hx hb dX12_part_19 (by omega) (by omega) (by rw [hv12_1]; rfl) (by decide) ?_
      refine lv_aload_n hx hb dX12_part_80 rfl (lv_at hl 1 rfl) ?_
      refine lv_iload_n hx hb dX12_part_81 rfl (lv_at hl 2 rfl) ?_
      refine lv_iload_n hx hb dX12_part_82 rfl (lv_at hl 3 rfl) ?_
      refine r_V (As := [.int i0, .int i1]) (rest := []) (ci := 12) C hM (c_X12_left l D H0 h0 R kc ns i0 i1 hI0 (by omega) (by omega) (by omega) (by omega)) i_X12_left m_X12_189 rK0 rfl rfl rfl hl.1 rfl (Nat.le_of_ble_eq_true rfl) ⟨by decide, by decide⟩ ⟨by decide, by decide⟩ dX12_part_83 (fun xv17 Sv14 kv15 nv16 H locs pv18 hM => ?_)
      obtain ⟨rfl, rfl, rfl, hxv17⟩ := pv18
      refine W.eq (g2 := F0 m 86 ls [.int xv17]) rfl ?_
      exact r_retI C hr hlk hM (⟨rfl, rfl, rfl, trivial⟩) dX12_part_86
    by_cases hv12_2 : i2.toInt = 2
    · refine lv_tableIn (off := 68) (tgt := 87) hx hb dX12_part_19 (by omega) (by omega) (by rw [hv12_2]; rfl) (by decide) ?_
      refine lv_aload_n hx hb dX12_part_87 rfl (lv_at hl 1 rfl) ?_
      refine lv_iload_n hx hb dX12_part_88 rfl (lv_at hl 2 rfl) ?_
      refine lv_iload_n hx hb dX12_part_89 rfl (lv_at hl 3 rfl) ?_
      refine r_V (As := [.int i0, .int i1]) (rest := []) (ci := 12) C hM (c_X12_right l D H0 h0 R kc ns i0 i1 hI0 (by omega) (by omega) (by omega) (by omega)) i_X12_right m_X12_192 rK0 rfl rfl rfl hl.1 rfl (Nat.le_of_ble_eq_true rfl) ⟨by decide, by decide⟩ ⟨by decide, by decide⟩ dX12_part_90 (fun xv22 Sv19 kv20 nv21 H locs pv23 hM => ?_)
      obtain ⟨rfl, rfl, rfl, hxv22⟩ := pv23
      refine W.eq (g2 := F0 m 93 ls [.int xv22]) rfl ?_
      exact r_retI C hr hlk hM (⟨rfl, rfl, rfl, trivial⟩) dX12_part_93
    by_cases hv12_3 : i2.toInt = 3
    · refine lv_tableIn (off := 75) (tgt := 94) hx hb dX12_part_19 (by omega) (by omega) (by rw [hv12_3]; rfl) (by decide) ?_
      refine lv_aload_n hx hb dX12_part_94 rfl (lv_at hl 1 rfl) ?_
      refine rr_getA (k := 13) (j := 5) C hM f_X12_30 rfl rfl dX12_part_95 ?_
      refine lv_iload hx hb dX12_part_98 (lv_at hl 0 rfl) ?_
      refine rr_ldI (j := 5) (k := 13) (n := 1860) (v := rA R 13 xv10.toNatClampNeg) C hM rfl rfl rfl (inI (by omega) (by show _ < (1860 : Int); omega)) (congrFun (hF.gA 13 (by decide)) xv10.toNatClampNeg) dX12_part_100 ?_
      refine lv_topi (fun xv24 exv24 => ?_)
      exact r_retI C hr hlk hM (⟨rfl, rfl, rfl, trivial⟩) dX12_part_101
    by_cases hv12_4 : i2.toInt = 4
    · refine lv_tableIn (off := 83) (tgt := 102) hx hb dX12_part_19 (by omega) (by omega) (by rw [hv12_4]; rfl) (by decide) ?_
      refine lv_aload_n hx hb dX12_part_102 rfl (lv_at hl 1 rfl) ?_
      refine lv_iload_n hx hb dX12_part_103 rfl (lv_at hl 2 rfl) ?_
      refine lv_iload_n hx hb dX12_part_104 rfl (lv_at hl 3 rfl) ?_
      refine r_V (As := [.int i0, .int i1]) (rest := []) (ci := 12) C hM (c_X12_label l D H0 h0 R kc ns i0 i1 hI0 (by omega) (by omega) (by omega) (by omega)) i_X12_label m_X12_195 rK0 rfl rfl rfl hl.1 rfl (Nat.le_of_ble_eq_true rfl) ⟨by decide, by decide⟩ ⟨by decide, by decide⟩ dX12_part_105 (fun xv28 Sv25 kv26 nv27 H locs pv29 hM => ?_)
      obtain ⟨rfl, rfl, rfl, hxv28⟩ := pv29
      refine W.eq (g2 := F0 m 108 ls [.int xv28]) rfl ?_
      exact r_retI C hr hlk hM (⟨rfl, rfl, rfl, trivial⟩) dX12_part_108
    by_cases hv12_5 : i2.toInt = 5
    · refine lv_tableIn (off := 90) (tgt := 109) hx hb dX12_part_19 (by omega) (by omega) (by rw [hv12_5]; rfl) (by decide) ?_
      refine lv_aload_n hx hb dX12_part_109 rfl (lv_at hl 1 rfl) ?_
      refine rr_getA (k := 14) (j := 6) C hM f_X12_33 rfl rfl dX12_part_110 ?_
      refine lv_iload hx hb dX12_part_113 (lv_at hl 0 rfl) ?_
      refine rr_ldI (j := 6) (k := 14) (n := 1860) (v := rA R 14 xv10.toNatClampNeg) C hM rfl rfl rfl (inI (by omega) (by show _ < (1860 : Int); omega)) (congrFun (hF.gA 14 (by decide)) xv10.toNatClampNeg) dX12_part_115 ?_
      refine lv_topi (fun xv30 exv30 => ?_)
      try (have fxv30 := PG.at14 hI0 (g := i0) (p := i1) (x := xv10) (by omega) (by omega) (by omega) (by omega) (by omega); rw [← exv30] at fxv30)
      exact r_retI C hr hlk hM (⟨rfl, rfl, rfl, trivial⟩) dX12_part_116
    by_cases hv12_6 : i2.toInt = 6
    · refine lv_tableIn (off := 98) (tgt := 117) hx hb dX12_part_19 (by omega) (by omega) (by rw [hv12_6]; rfl) (by decide) ?_
      refine lv_aload_n hx hb dX12_part_117 rfl (lv_at hl 1 rfl) ?_
      refine rr_getA (k := 19) (j := 11) C hM f_X12_49 rfl rfl dX12_part_118 ?_
      refine lv_iload hx hb dX12_part_121 (lv_at hl 0 rfl) ?_
      refine rr_ldZ (j := 11) (k := 19) (n := 1860) (v := rA R 19 xv10.toNatClampNeg) C hM rfl rfl rfl (inI (by omega) (by show _ < (1860 : Int); omega)) (congrFun (hF.gA 19 (by decide)) xv10.toNatClampNeg) dX12_part_123 ?_
      refine lv_topi (fun xv31 exv31 => ?_)
      refine lv_if_eq (tgt := 131) hx hb dX12_part_124 (by decide) (fun cv32 => ?_) (fun cv32 => ?_)
      · have tcv32 := eqT cv32
        refine lv_iconst (v := 0) hx hb dX12_part_131 (by decide) ?_
        exact r_retI C hr hlk hM (⟨rfl, rfl, rfl, trivial⟩) dX12_part_132
      · have tcv32 := eqF cv32
        refine lv_iconst (v := 1) hx hb dX12_part_127 (by decide) ?_
        refine lv_goto (tgt := 132) hx hb dX12_part_128 (by decide) ?_
        exact r_retI C hr hlk hM (⟨rfl, rfl, rfl, trivial⟩) dX12_part_132
    by_cases hv12_7 : i2.toInt = 7
    · refine lv_tableIn (off := 114) (tgt := 133) hx hb dX12_part_19 (by omega) (by omega) (by rw [hv12_7]; rfl) (by decide) ?_
      refine lv_aload_n hx hb dX12_part_133 rfl (lv_at hl 1 rfl) ?_
      refine rr_getA (k := 15) (j := 7) C hM f_X12_36 rfl rfl dX12_part_134 ?_
      refine lv_iload hx hb dX12_part_137 (lv_at hl 0 rfl) ?_
      refine rr_ldI (j := 7) (k := 15) (n := 1860) (v := rA R 15 xv10.toNatClampNeg) C hM rfl rfl rfl (inI (by omega) (by show _ < (1860 : Int); omega)) (congrFun (hF.gA 15 (by decide)) xv10.toNatClampNeg) dX12_part_139 ?_
      refine lv_topi (fun xv33 exv33 => ?_)
      have fxv33 := RI.words hI0 xv10.toNatClampNeg; rw [← exv33] at fxv33
      exact r_retI C hr hlk hM (⟨rfl, rfl, rfl, trivial⟩) dX12_part_140
    by_cases hv12_8 : i2.toInt = 8
    · refine lv_tableIn (off := 122) (tgt := 141) hx hb dX12_part_19 (by omega) (by omega) (by rw [hv12_8]; rfl) (by decide) ?_
      refine lv_aload_n hx hb dX12_part_141 rfl (lv_at hl 1 rfl) ?_
      refine rr_getA (k := 16) (j := 8) C hM f_X12_39 rfl rfl dX12_part_142 ?_
      refine lv_iload hx hb dX12_part_145 (lv_at hl 0 rfl) ?_
      refine rr_ldI (j := 8) (k := 16) (n := 1860) (v := rA R 16 xv10.toNatClampNeg) C hM rfl rfl rfl (inI (by omega) (by show _ < (1860 : Int); omega)) (congrFun (hF.gA 16 (by decide)) xv10.toNatClampNeg) dX12_part_147 ?_
      refine lv_topi (fun xv34 exv34 => ?_)
      exact r_retI C hr hlk hM (⟨rfl, rfl, rfl, trivial⟩) dX12_part_148
    by_cases hv12_9 : i2.toInt = 9
    · refine lv_tableIn (off := 130) (tgt := 149) hx hb dX12_part_19 (by omega) (by omega) (by rw [hv12_9]; rfl) (by decide) ?_
      refine lv_aload_n hx hb dX12_part_149 rfl (lv_at hl 1 rfl) ?_
      refine rr_getA (k := 12) (j := 4) C hM f_X12_27 rfl rfl dX12_part_150 ?_
      refine lv_iload hx hb dX12_part_153 (lv_at hl 0 rfl) ?_
      refine rr_ldI (j := 4) (k := 12) (n := 1860) (v := rA R 12 xv10.toNatClampNeg) C hM rfl rfl rfl (inI (by omega) (by show _ < (1860 : Int); omega)) (congrFun (hF.gA 12 (by decide)) xv10.toNatClampNeg) dX12_part_155 ?_
      refine lv_topi (fun xv35 exv35 => ?_)
      try (have fxv35 := PG.at12 hI0 (g := i0) (p := i1) (x := xv10) (by omega) (by omega) (by omega) (by omega) (by omega); rw [← exv35] at fxv35)
      refine lv_iconst (v := 1) hx hb dX12_part_156 (by decide) ?_
      refine lv_isub hx hb dX12_part_157 ?_
      refine lv_topi (fun xv36 exv36 => ?_)
      try (have txv36 := subI (a := xv35) (b := 1) (by omega) (by omega); rw [← exv36] at txv36)
      exact r_retI C hr hlk hM (⟨rfl, rfl, rfl, trivial⟩) dX12_part_158
    refine lv_tableOut (tgt := 159) hx hb dX12_part_19 (by omega) (by decide) ?_
    refine lv_iconst (v := -1) hx hb dX12_part_159 (by decide) ?_
    exact r_retI C hr hlk hM (⟨rfl, rfl, rfl, trivial⟩) dX12_part_160
  · have tcv6 := eqT cv6
    refine lv_iconst (v := -1) hx hb dX12_part_9 (by decide) ?_
    exact r_retI C hr hlk hM (⟨rfl, rfl, rfl, trivial⟩) dX12_part_10
set_option maxHeartbeats 4000000 in
set_option maxRecDepth 100000 in
theorem c_X12_text (l : Launch) (D : gD) (H0 : gB) (h0 : Nat) (R : RS) (kc ns : Nat) (i0 i1 i2 i3 : Int32) (hI : RI R)  : Met l yX12_text (wsU yX12_text cX12_text 9 (some .int)) ({ frames := 2, cells := 0, slots := 0, locals := 42 } : Room) (mP D H0 (rM h0 R) kc ns [.ref h0, .int i0, .int i1, .int i2, .int i3]) (mQ D H0 gI (fun r S1 k1 n1 => rM h0 R = S1 ∧ kc = k1 ∧ ns = n1 ∧ True)) 0 0 (mF H0) := by
  refine r_met (own := RX12) (by decide +kernel) rfl (Nat.le_of_ble_eq_true rfl) ?_
  intro p e s m args below meth c C hr hlk hnm H ls hl hM
  obtain ⟨hx, hb, hml, hown, hts, -, -⟩ := id C
  have hl : lv_has ls 9 [(0, .ref h0), (1, .int i0), (2, .int i1), (3, .int i2), (4, .int i3)] := hl
  have hF : fr [] R R := fr.rf
  have hI0 := hI
  have t_m1 : (-1 : Int32).toInt = -1 := by decide
  have t_0 : (0 : Int32).toInt = 0 := by decide
  have t_1 : (1 : Int32).toInt = 1 := by decide
  have t_2 : (2 : Int32).toInt = 2 := by decide
  have t_8 : (8 : Int32).toInt = 8 := by decide
  have t_16 : (16 : Int32).toInt = 16 := by decide
  have t_255 : (255 : Int32).toInt = 255 := by decide
  have fm0 := RI.many hI i0.toNatClampNeg
  refine lv_aload_n hx hb dX12_text_0 rfl (lv_at hl 0 rfl) ?_
  refine lv_iload_n hx hb dX12_text_1 rfl (lv_at hl 1 rfl) ?_
  refine lv_iload_n hx hb dX12_text_2 rfl (lv_at hl 2 rfl) ?_
  refine r_V (As := [.int i0, .int i1]) (rest := []) (ci := 12) C hM (c_X12_isPart l D H0 h0 R kc ns i0 i1 hI0) i_X12_isPart m_X12_185 rK0 rfl rfl rfl hl.1 rfl (Nat.le_of_ble_eq_true rfl) ⟨by decide, by decide⟩ ⟨by decide, by decide⟩ dX12_text_3 (fun xv4 Sv1 kv2 nv3 H locs pv5 hM => ?_)
  obtain ⟨rfl, rfl, rfl, hxv4⟩ := pv5
  refine W.eq (g2 := F0 m 6 ls [.int xv4]) rfl ?_
  refine lv_if_eq (tgt := 23) hx hb dX12_text_6 (by decide) (fun cv6 => ?_) (fun cv6 => ?_)
  · have tcv6 := eqT cv6
    refine lv_iconst (v := -1) hx hb dX12_text_23 (by decide) ?_
    exact r_retI C hr hlk hM (⟨rfl, rfl, rfl, trivial⟩) dX12_text_24
  · have tcv6 := eqF cv6
    refine lv_iload_n hx hb dX12_text_9 rfl (lv_at hl 3 rfl) ?_
    refine lv_if_lt (tgt := 23) hx hb dX12_text_10 (by decide) (fun cv7 => ?_) (fun cv7 => ?_)
    · have tcv7 := ltT cv7
      refine lv_iconst (v := -1) hx hb dX12_text_23 (by decide) ?_
      exact r_retI C hr hlk hM (⟨rfl, rfl, rfl, trivial⟩) dX12_text_24
    · have tcv7 := ltF cv7
      refine lv_iload_n hx hb dX12_text_13 rfl (lv_at hl 3 rfl) ?_
      refine lv_iconst (v := 2) hx hb dX12_text_14 (by decide) ?_
      refine lv_icmp_gt (tgt := 23) hx hb dX12_text_15 (by decide) (fun cv8 => ?_) (fun cv8 => ?_)
      · have tcv8 := ltT cv8
        refine lv_iconst (v := -1) hx hb dX12_text_23 (by decide) ?_
        exact r_retI C hr hlk hM (⟨rfl, rfl, rfl, trivial⟩) dX12_text_24
      · have tcv8 := ltF cv8
        refine lv_iload hx hb dX12_text_18 (lv_at hl 4 rfl) ?_
        refine lv_if_ge (tgt := 25) hx hb dX12_text_20 (by decide) (fun cv9 => ?_) (fun cv9 => ?_)
        · have tcv9 := leT cv9
          refine lv_iload_n hx hb dX12_text_25 rfl (lv_at hl 1 rfl) ?_
          refine lv_iload_n hx hb dX12_text_26 rfl (lv_at hl 2 rfl) ?_
          refine r_S (As := [.int i0, .int i1]) (rest := []) C hM (c_X12_spot l D H0 (rM h0 R) kc ns i0 i1 (by omega) (by omega) (by omega) (by omega)) i_X12_spot m_X12_151 rfl hl.1 rfl (Nat.le_of_ble_eq_true rfl) ⟨by decide, by decide⟩ ⟨by decide, by decide⟩ dX12_text_27 (fun xv13 Sv10 kv11 nv12 H locs pv14 hM => ?_)
          obtain ⟨rfl, rfl, rfl, hxv13⟩ := pv14
          refine W.eq (g2 := F0 m 30 ls [.int xv13]) rfl ?_
          refine lv_istore (lv' := [(5, .int xv13), (0, .ref h0), (1, .int i0), (2, .int i1), (3, .int i2), (4, .int i3)]) hx hb dX12_text_30 hl (by decide) rfl (fun ls hl => ?_)
          refine lv_iload_n hx hb dX12_text_32 rfl (lv_at hl 4 rfl) ?_
          refine lv_iconst (v := 2) hx hb dX12_text_33 (by decide) ?_
          refine lv_icmp_ne (tgt := 71) hx hb dX12_text_34 (by decide) (fun cv15 => ?_) (fun cv15 => ?_)
          · have tcv15 := eqF cv15
            refine lv_iload_n hx hb dX12_text_71 rfl (lv_at hl 4 rfl) ?_
            refine lv_if_ne (tgt := 85) hx hb dX12_text_72 (by decide) (fun cv16 => ?_) (fun cv16 => ?_)
            · have tcv16 := eqF cv16
              refine lv_aload_n hx hb dX12_text_85 rfl (lv_at hl 1 rfl) ?_
              refine rr_getA (k := 18) (j := 10) C hM f_X12_46 rfl rfl dX12_text_86 ?_
              refine lv_iload hx hb dX12_text_89 (lv_at hl 0 rfl) ?_
              refine rr_ldJ (j := 10) (k := 18) (n := 1860) (v := rB R 18 xv13.toNatClampNeg) C hM rfl rfl rfl (inI (by omega) (by show _ < (1860 : Int); omega)) (congrFun (hF.gB 18 (by decide)) xv13.toNatClampNeg) dX12_text_91 ?_
              refine lv_topl (fun lv17 elv17 => ?_)
              refine lv_lstore (lv' := [(6, .long lv17), (5, .int xv13), (0, .ref h0), (1, .int i0), (2, .int i1), (3, .int i2), (4, .int i3)]) hx hb dX12_text_92 hl (by decide) rfl (fun ls hl => ?_)
              refine lv_lload hx hb dX12_text_94 (lv_at hl 0 rfl) ?_
              refine r_S (As := [.long lv17]) (rest := []) C hM (c_X12_sizeOf l D H0 (rM h0 R) kc ns lv17) i_X12_sizeOf m_X12_198 rfl hl.1 rfl (Nat.le_of_ble_eq_true rfl) ⟨by decide, by decide⟩ ⟨by decide, by decide⟩ dX12_text_96 (fun xv21 Sv18 kv19 nv20 H locs pv22 hM => ?_)
              obtain ⟨rfl, rfl, rfl, hxv21⟩ := pv22
              refine W.eq (g2 := F0 m 99 ls [.int xv21]) rfl ?_
              refine lv_istore (lv' := [(8, .int xv21), (6, .long lv17), (5, .int xv13), (0, .ref h0), (1, .int i0), (2, .int i1), (3, .int i2), (4, .int i3)]) hx hb dX12_text_99 hl (by decide) rfl (fun ls hl => ?_)
              refine lv_iload hx hb dX12_text_101 (lv_at hl 7 rfl) ?_
              refine lv_iload hx hb dX12_text_103 (lv_at hl 0 rfl) ?_
              refine lv_icmp_ge (tgt := 129) hx hb dX12_text_105 (by decide) (fun cv23 => ?_) (fun cv23 => ?_)
              · have tcv23 := leT cv23
                refine lv_iconst (v := -1) hx hb dX12_text_129 (by decide) ?_
                exact r_retI C hr hlk hM (⟨rfl, rfl, rfl, trivial⟩) dX12_text_130
              · have tcv23 := leF cv23
                refine lv_lload hx hb dX12_text_108 (lv_at hl 1 rfl) ?_
                refine lv_bipush (v := 8) hx hb dX12_text_110 (by decide) ?_
                refine lv_iload hx hb dX12_text_112 (lv_at hl 0 rfl) ?_
                refine lv_iconst (v := 1) hx hb dX12_text_114 (by decide) ?_
                refine lv_isub hx hb dX12_text_115 ?_
                refine lv_topi (fun xv24 exv24 => ?_)
                try (have txv24 := subI (a := xv21) (b := 1) (by omega) (by omega); rw [← exv24] at txv24)
                refine lv_iload hx hb dX12_text_116 (lv_at hl 7 rfl) ?_
                refine lv_isub hx hb dX12_text_118 ?_
                refine lv_topi (fun xv25 exv25 => ?_)
                try (have txv25 := subI (a := xv24) (b := i3) (by omega) (by omega); rw [← exv25] at txv25)
                refine lv_imul hx hb dX12_text_119 ?_
                refine lv_topi (fun xv26 exv26 => ?_)
                try (have txv26 := mulD (a := xv25) (k := 8) (n := 8) (by decide) (by omega) (by omega); rw [← exv26] at txv26)
                refine lv_lshr hx hb dX12_text_120 rfl ?_
                refine lv_topl (fun lv27 elv27 => ?_)
                refine lv_ldc2 hx hb hown (hts _ q_X12_202) dX12_text_121 ?_
                refine lv_land hx hb dX12_text_124 ?_
                refine lv_topl (fun lv28 elv28 => ?_)
                refine lv_l2i hx hb dX12_text_125 rfl ?_
                refine lv_topi (fun xv29 exv29 => ?_)
                refine lv_goto (tgt := 130) hx hb dX12_text_126 (by decide) ?_
                exact r_retI C hr hlk hM (⟨rfl, rfl, rfl, trivial⟩) dX12_text_130
            · have tcv16 := eqT cv16
              refine lv_aload_n hx hb dX12_text_75 rfl (lv_at hl 1 rfl) ?_
              refine rr_getA (k := 17) (j := 9) C hM f_X12_42 rfl rfl dX12_text_76 ?_
              refine lv_iload hx hb dX12_text_79 (lv_at hl 0 rfl) ?_
              refine rr_ldJ (j := 9) (k := 17) (n := 1860) (v := rB R 17 xv13.toNatClampNeg) C hM rfl rfl rfl (inI (by omega) (by show _ < (1860 : Int); omega)) (congrFun (hF.gB 17 (by decide)) xv13.toNatClampNeg) dX12_text_81 ?_
              refine lv_topl (fun lv30 elv30 => ?_)
              refine lv_goto (tgt := 92) hx hb dX12_text_82 (by decide) ?_
              refine lv_lstore (lv' := [(6, .long lv30), (5, .int xv13), (0, .ref h0), (1, .int i0), (2, .int i1), (3, .int i2), (4, .int i3)]) hx hb dX12_text_92 hl (by decide) rfl (fun ls hl => ?_)
              refine lv_lload hx hb dX12_text_94 (lv_at hl 0 rfl) ?_
              refine r_S (As := [.long lv30]) (rest := []) C hM (c_X12_sizeOf l D H0 (rM h0 R) kc ns lv30) i_X12_sizeOf m_X12_198 rfl hl.1 rfl (Nat.le_of_ble_eq_true rfl) ⟨by decide, by decide⟩ ⟨by decide, by decide⟩ dX12_text_96 (fun xv34 Sv31 kv32 nv33 H locs pv35 hM => ?_)
              obtain ⟨rfl, rfl, rfl, hxv34⟩ := pv35
              refine W.eq (g2 := F0 m 99 ls [.int xv34]) rfl ?_
              refine lv_istore (lv' := [(8, .int xv34), (6, .long lv30), (5, .int xv13), (0, .ref h0), (1, .int i0), (2, .int i1), (3, .int i2), (4, .int i3)]) hx hb dX12_text_99 hl (by decide) rfl (fun ls hl => ?_)
              refine lv_iload hx hb dX12_text_101 (lv_at hl 7 rfl) ?_
              refine lv_iload hx hb dX12_text_103 (lv_at hl 0 rfl) ?_
              refine lv_icmp_ge (tgt := 129) hx hb dX12_text_105 (by decide) (fun cv36 => ?_) (fun cv36 => ?_)
              · have tcv36 := leT cv36
                refine lv_iconst (v := -1) hx hb dX12_text_129 (by decide) ?_
                exact r_retI C hr hlk hM (⟨rfl, rfl, rfl, trivial⟩) dX12_text_130
              · have tcv36 := leF cv36
                refine lv_lload hx hb dX12_text_108 (lv_at hl 1 rfl) ?_
                refine lv_bipush (v := 8) hx hb dX12_text_110 (by decide) ?_
                refine lv_iload hx hb dX12_text_112 (lv_at hl 0 rfl) ?_
                refine lv_iconst (v := 1) hx hb dX12_text_114 (by decide) ?_
                refine lv_isub hx hb dX12_text_115 ?_
                refine lv_topi (fun xv37 exv37 => ?_)
                try (have txv37 := subI (a := xv34) (b := 1) (by omega) (by omega); rw [← exv37] at txv37)
                refine lv_iload hx hb dX12_text_116 (lv_at hl 7 rfl) ?_
                refine lv_isub hx hb dX12_text_118 ?_
                refine lv_topi (fun xv38 exv38 => ?_)
                try (have txv38 := subI (a := xv37) (b := i3) (by omega) (by omega); rw [← exv38] at txv38)
                refine lv_imul hx hb dX12_text_119 ?_
                refine lv_topi (fun xv39 exv39 => ?_)
                try (have txv39 := mulD (a := xv38) (k := 8) (n := 8) (by decide) (by omega) (by omega); rw [← exv39] at txv39)
                refine lv_lshr hx hb dX12_text_120 rfl ?_
                refine lv_topl (fun lv40 elv40 => ?_)
                refine lv_ldc2 hx hb hown (hts _ q_X12_202) dX12_text_121 ?_
                refine lv_land hx hb dX12_text_124 ?_
                refine lv_topl (fun lv41 elv41 => ?_)
                refine lv_l2i hx hb dX12_text_125 rfl ?_
                refine lv_topi (fun xv42 exv42 => ?_)
                refine lv_goto (tgt := 130) hx hb dX12_text_126 (by decide) ?_
                exact r_retI C hr hlk hM (⟨rfl, rfl, rfl, trivial⟩) dX12_text_130
          · have tcv15 := eqT cv15
            refine lv_iload hx hb dX12_text_37 (lv_at hl 5 rfl) ?_
            refine lv_aload_n hx hb dX12_text_39 rfl (lv_at hl 1 rfl) ?_
            refine rr_getA (k := 15) (j := 7) C hM f_X12_36 rfl rfl dX12_text_40 ?_
            refine lv_iload hx hb dX12_text_43 (lv_at hl 0 rfl) ?_
            refine rr_ldI (j := 7) (k := 15) (n := 1860) (v := rA R 15 xv13.toNatClampNeg) C hM rfl rfl rfl (inI (by omega) (by show _ < (1860 : Int); omega)) (congrFun (hF.gA 15 (by decide)) xv13.toNatClampNeg) dX12_text_45 ?_
            refine lv_topi (fun xv43 exv43 => ?_)
            have fxv43 := RI.words hI0 xv13.toNatClampNeg; rw [← exv43] at fxv43
            refine lv_icmp_ge (tgt := 69) hx hb dX12_text_46 (by decide) (fun cv44 => ?_) (fun cv44 => ?_)
            · have tcv44 := leT cv44
              refine lv_iconst (v := -1) hx hb dX12_text_69 (by decide) ?_
              exact r_retI C hr hlk hM (⟨rfl, rfl, rfl, trivial⟩) dX12_text_70
            · have tcv44 := leF cv44
              refine lv_aload_n hx hb dX12_text_49 rfl (lv_at hl 1 rfl) ?_
              refine rr_getA (k := 20) (j := 12) C hM f_X12_53 rfl rfl dX12_text_50 ?_
              refine lv_bipush (v := 16) hx hb dX12_text_53 (by decide) ?_
              refine lv_iload hx hb dX12_text_55 (lv_at hl 0 rfl) ?_
              refine lv_imul hx hb dX12_text_57 ?_
              refine lv_topi (fun xv45 exv45 => ?_)
              try (have txv45 := mulD (a := xv13) (k := 16) (n := 16) (by decide) (by omega) (by omega); rw [← exv45] at txv45)
              refine lv_iload hx hb dX12_text_58 (lv_at hl 5 rfl) ?_
              refine lv_iadd hx hb dX12_text_60 ?_
              refine lv_topi (fun xv46 exv46 => ?_)
              try (have txv46 := addI (a := xv45) (b := i3) (by omega) (by omega); rw [← exv46] at txv46)
              refine rr_ldB (j := 12) (k := 20) (n := 29760) (v := rA R 20 xv46.toNatClampNeg) C hM rfl rfl rfl (inI (by omega) (by show _ < (29760 : Int); omega)) (congrFun (hF.gA 20 (by decide)) xv46.toNatClampNeg) dX12_text_61 ?_
              refine lv_topi (fun xv47 exv47 => ?_)
              refine lv_sipush (v := 255) hx hb dX12_text_62 (by decide) ?_
              refine lv_iand hx hb dX12_text_65 ?_
              refine lv_topi (fun xv48 exv48 => ?_)
              refine lv_goto (tgt := 70) hx hb dX12_text_66 (by decide) ?_
              exact r_retI C hr hlk hM (⟨rfl, rfl, rfl, trivial⟩) dX12_text_70
        · have tcv9 := leF cv9
          refine lv_iconst (v := -1) hx hb dX12_text_23 (by decide) ?_
          exact r_retI C hr hlk hM (⟨rfl, rfl, rfl, trivial⟩) dX12_text_24
set_option maxHeartbeats 4000000 in
set_option maxRecDepth 100000 in
theorem c_X12_areSameWords (l : Launch) (D : gD) (H0 : gB) (h0 : Nat) (R : RS) (kc ns : Nat) (i0 i1 : Int32) (hI : RI R) (a0 : 0 ≤ i0.toInt) (a1 : i0.toInt < 1860) (a2 : 0 ≤ i1.toInt) (a3 : i1.toInt < 1860)  : Met l yX12_areSameWords (wsU yX12_areSameWords cX12_areSameWords 4 (some .boolean)) ({ frames := 0, cells := 0, slots := 0, locals := 0 } : Room) (mP D H0 (rM h0 R) kc ns [.ref h0, .int i0, .int i1]) (mQ D H0 gI (fun r S1 k1 n1 => rM h0 R = S1 ∧ kc = k1 ∧ ns = n1 ∧ (r = 0 ∨ r = 1))) 0 0 (mF H0) := by
  refine r_met (own := RX12) (by decide +kernel) rfl (Nat.le_of_ble_eq_true rfl) ?_
  intro p e s m args below meth c C hr hlk hnm H ls hl hM
  obtain ⟨hx, hb, hml, hown, hts, -, -⟩ := id C
  have hl : lv_has ls 4 [(0, .ref h0), (1, .int i0), (2, .int i1)] := hl
  have hF : fr [] R R := fr.rf
  have hI0 := hI
  have t_0 : (0 : Int32).toInt = 0 := by decide
  have t_1 : (1 : Int32).toInt = 1 := by decide
  have t_16 : (16 : Int32).toInt = 16 := by decide
  refine lv_aload_n hx hb dX12_areSameWords_0 rfl (lv_at hl 0 rfl) ?_
  refine rr_getA (k := 15) (j := 7) C hM f_X12_36 rfl rfl dX12_areSameWords_1 ?_
  refine lv_iload_n hx hb dX12_areSameWords_4 rfl (lv_at hl 1 rfl) ?_
  refine rr_ldI (j := 7) (k := 15) (n := 1860) (v := rA R 15 i0.toNatClampNeg) C hM rfl rfl rfl (inI (by omega) (by show _ < (1860 : Int); omega)) (congrFun (hF.gA 15 (by decide)) i0.toNatClampNeg) dX12_areSameWords_5 ?_
  refine lv_topi (fun xv1 exv1 => ?_)
  have fxv1 := RI.words hI0 i0.toNatClampNeg; rw [← exv1] at fxv1
  refine lv_aload_n hx hb dX12_areSameWords_6 rfl (lv_at hl 0 rfl) ?_
  refine rr_getA (k := 15) (j := 7) C hM f_X12_36 rfl rfl dX12_areSameWords_7 ?_
  refine lv_iload_n hx hb dX12_areSameWords_10 rfl (lv_at hl 2 rfl) ?_
  refine rr_ldI (j := 7) (k := 15) (n := 1860) (v := rA R 15 i1.toNatClampNeg) C hM rfl rfl rfl (inI (by omega) (by show _ < (1860 : Int); omega)) (congrFun (hF.gA 15 (by decide)) i1.toNatClampNeg) dX12_areSameWords_11 ?_
  refine lv_topi (fun xv2 exv2 => ?_)
  have fxv2 := RI.words hI0 i1.toNatClampNeg; rw [← exv2] at fxv2
  refine lv_icmp_eq (tgt := 17) hx hb dX12_areSameWords_12 (by decide) (fun cv3 => ?_) (fun cv3 => ?_)
  · have tcv3 := eqT cv3
    refine lv_iconst (v := 0) hx hb dX12_areSameWords_17 (by decide) ?_
    refine lv_istore_n (lv' := [(3, .int 0), (0, .ref h0), (1, .int i0), (2, .int i1)]) hx hb dX12_areSameWords_18 rfl hl (by decide) rfl (fun ls hl => ?_)
    have loop19 : ∀ (fu : Nat) (k : Int32) (H : Heap) (locs : List Loc) (ls : Array Slot), (0 ≤ k.toInt) → (16 - k.toInt).toNat < fu → lv_has ls 4 [(0, .ref h0), (1, .int i0), (2, .int i1), (3, .int k)] → mH D H0 (rM h0 R) kc ns H locs → W p l e ({ frames := 0, cells := 0, slots := 0, locals := 0 } : Room) s m args below meth c H locs 0 0 (MQ below (mQ D H0 gI (fun r S1 k1 n1 => rM h0 R = S1 ∧ kc = k1 ∧ ns = n1 ∧ (r = 0 ∨ r = 1))) args s 0 0 (mF H0)) (F0 m 19 ls []) := by
      intro fu
      induction fu with
      | zero => intro k H locs ls h19_0 hfu; exact absurd hfu (by omega)
      | succ fu ih19 =>
        intro k H locs ls h19_0 hfu hl hM
        refine lv_iload_n hx hb dX12_areSameWords_19 rfl (lv_at hl 3 rfl) ?_
        refine lv_aload_n hx hb dX12_areSameWords_20 rfl (lv_at hl 0 rfl) ?_
        refine rr_getA (k := 15) (j := 7) C hM f_X12_36 rfl rfl dX12_areSameWords_21 ?_
        refine lv_iload_n hx hb dX12_areSameWords_24 rfl (lv_at hl 1 rfl) ?_
        refine rr_ldI (j := 7) (k := 15) (n := 1860) (v := xv1) C hM rfl rfl rfl (inI (by omega) (by show _ < (1860 : Int); omega)) ((congrFun (hF.gA 15 (by decide)) i0.toNatClampNeg).trans exv1.symm) dX12_areSameWords_25 ?_
        refine lv_icmp_ge (tgt := 62) hx hb dX12_areSameWords_26 (by decide) (fun cv4 => ?_) (fun cv4 => ?_)
        · have tcv4 := leT cv4
          refine lv_iconst (v := 1) hx hb dX12_areSameWords_62 (by decide) ?_
          exact r_retZ C hr hlk rfl hM (⟨rfl, rfl, rfl, by decide⟩) dX12_areSameWords_63
        · have tcv4 := leF cv4
          refine lv_aload_n hx hb dX12_areSameWords_29 rfl (lv_at hl 0 rfl) ?_
          refine rr_getA (k := 20) (j := 12) C hM f_X12_53 rfl rfl dX12_areSameWords_30 ?_
          refine lv_bipush (v := 16) hx hb dX12_areSameWords_33 (by decide) ?_
          refine lv_iload_n hx hb dX12_areSameWords_35 rfl (lv_at hl 1 rfl) ?_
          refine lv_imul hx hb dX12_areSameWords_36 ?_
          refine lv_topi (fun xv5 exv5 => ?_)
          try (have txv5 := mulD (a := i0) (k := 16) (n := 16) (by decide) (by omega) (by omega); rw [← exv5] at txv5)
          refine lv_iload_n hx hb dX12_areSameWords_37 rfl (lv_at hl 3 rfl) ?_
          refine lv_iadd hx hb dX12_areSameWords_38 ?_
          refine lv_topi (fun xv6 exv6 => ?_)
          try (have txv6 := addI (a := xv5) (b := k) (by omega) (by omega); rw [← exv6] at txv6)
          refine rr_ldB (j := 12) (k := 20) (n := 29760) (v := rA R 20 xv6.toNatClampNeg) C hM rfl rfl rfl (inI (by omega) (by show _ < (29760 : Int); omega)) (congrFun (hF.gA 20 (by decide)) xv6.toNatClampNeg) dX12_areSameWords_39 ?_
          refine lv_topi (fun xv7 exv7 => ?_)
          refine lv_aload_n hx hb dX12_areSameWords_40 rfl (lv_at hl 0 rfl) ?_
          refine rr_getA (k := 20) (j := 12) C hM f_X12_53 rfl rfl dX12_areSameWords_41 ?_
          refine lv_bipush (v := 16) hx hb dX12_areSameWords_44 (by decide) ?_
          refine lv_iload_n hx hb dX12_areSameWords_46 rfl (lv_at hl 2 rfl) ?_
          refine lv_imul hx hb dX12_areSameWords_47 ?_
          refine lv_topi (fun xv8 exv8 => ?_)
          try (have txv8 := mulD (a := i1) (k := 16) (n := 16) (by decide) (by omega) (by omega); rw [← exv8] at txv8)
          refine lv_iload_n hx hb dX12_areSameWords_48 rfl (lv_at hl 3 rfl) ?_
          refine lv_iadd hx hb dX12_areSameWords_49 ?_
          refine lv_topi (fun xv9 exv9 => ?_)
          try (have txv9 := addI (a := xv8) (b := k) (by omega) (by omega); rw [← exv9] at txv9)
          refine rr_ldB (j := 12) (k := 20) (n := 29760) (v := rA R 20 xv9.toNatClampNeg) C hM rfl rfl rfl (inI (by omega) (by show _ < (29760 : Int); omega)) (congrFun (hF.gA 20 (by decide)) xv9.toNatClampNeg) dX12_areSameWords_50 ?_
          refine lv_topi (fun xv10 exv10 => ?_)
          refine lv_icmp_eq (tgt := 56) hx hb dX12_areSameWords_51 (by decide) (fun cv11 => ?_) (fun cv11 => ?_)
          · have tcv11 := eqT cv11
            obtain ⟨xv12, exv12⟩ : ∃ y : Int32, y = k + 1 := ⟨_, rfl⟩
            try (have txv12 := addI (a := k) (b := 1) (by omega) (by omega); rw [← exv12] at txv12)
            refine lv_iinc (v := xv12) (lv' := [(3, .int xv12), (0, .ref h0), (1, .int i0), (2, .int i1)]) hx hb dX12_areSameWords_56 hl (k := 3) rfl (by rw [exv12]; rfl) (by decide) rfl (fun ls hl => ?_)
            refine lv_goto (tgt := 19) hx hb dX12_areSameWords_59 (by decide) ?_
            exact ih19 xv12 _ _ _ (by omega) (by omega) (lv_sub hl [1, 2, 3, 0] rfl) hM
          · have tcv11 := eqF cv11
            refine lv_iconst (v := 0) hx hb dX12_areSameWords_54 (by decide) ?_
            exact r_retZ C hr hlk rfl hM (⟨rfl, rfl, rfl, by decide⟩) dX12_areSameWords_55
    exact loop19 (((16 - (0 : Int32).toInt).toNat) + 1) 0 _ _ _ (by omega) (by omega) (lv_sub hl [1, 2, 3, 0] rfl) hM
  · have tcv3 := eqF cv3
    refine lv_iconst (v := 0) hx hb dX12_areSameWords_15 (by decide) ?_
    exact r_retZ C hr hlk rfl hM (⟨rfl, rfl, rfl, by decide⟩) dX12_areSameWords_16
set_option maxHeartbeats 4000000 in
set_option maxRecDepth 100000 in
theorem c_X12_change (l : Launch) (D : gD) (H0 : gB) (h0 : Nat) (R : RS) (kc ns : Nat) (i0 i1 : Int32) (hI : RI R) (a0 : 0 ≤ i0.toInt) (a1 : i0.toInt < 1860) (a2 : 0 ≤ i1.toInt) (a3 : i1.toInt < 1860)  : Met l yX12_change (wsU yX12_change cX12_change 3 (some .int)) ({ frames := 1, cells := 0, slots := 0, locals := 23 } : Room) (mP D H0 (rM h0 R) kc ns [.ref h0, .int i0, .int i1]) (mQ D H0 gI (fun r S1 k1 n1 => rM h0 R = S1 ∧ kc = k1 ∧ ns = n1 ∧ True)) 0 0 (mF H0) := by
  refine r_met (own := RX12) (by decide +kernel) rfl (Nat.le_of_ble_eq_true rfl) ?_
  intro p e s m args below meth c C hr hlk hnm H ls hl hM
  obtain ⟨hx, hb, hml, hown, hts, -, -⟩ := id C
  have hl : lv_has ls 3 [(0, .ref h0), (1, .int i0), (2, .int i1)] := hl
  have hF : fr [] R R := fr.rf
  have hI0 := hI
  have t_0 : (0 : Int32).toInt = 0 := by decide
  have t_1 : (1 : Int32).toInt = 1 := by decide
  have t_2 : (2 : Int32).toInt = 2 := by decide
  have t_4 : (4 : Int32).toInt = 4 := by decide
  refine lv_aload_n hx hb dX12_change_0 rfl (lv_at hl 0 rfl) ?_
  refine rr_getA (k := 17) (j := 9) C hM f_X12_42 rfl rfl dX12_change_1 ?_
  refine lv_iload_n hx hb dX12_change_4 rfl (lv_at hl 1 rfl) ?_
  refine rr_ldJ (j := 9) (k := 17) (n := 1860) (v := rB R 17 i0.toNatClampNeg) C hM rfl rfl rfl (inI (by omega) (by show _ < (1860 : Int); omega)) (congrFun (hF.gB 17 (by decide)) i0.toNatClampNeg) dX12_change_5 ?_
  refine lv_topl (fun lv1 elv1 => ?_)
  refine lv_aload_n hx hb dX12_change_6 rfl (lv_at hl 0 rfl) ?_
  refine rr_getA (k := 17) (j := 9) C hM f_X12_42 rfl rfl dX12_change_7 ?_
  refine lv_iload_n hx hb dX12_change_10 rfl (lv_at hl 2 rfl) ?_
  refine rr_ldJ (j := 9) (k := 17) (n := 1860) (v := rB R 17 i1.toNatClampNeg) C hM rfl rfl rfl (inI (by omega) (by show _ < (1860 : Int); omega)) (congrFun (hF.gB 17 (by decide)) i1.toNatClampNeg) dX12_change_11 ?_
  refine lv_topl (fun lv2 elv2 => ?_)
  refine W.lcmp hx hb dX12_change_12 ?_
  refine lv_topi (fun xv3 exv3 => ?_)
  refine lv_if_ne (tgt := 20) hx hb dX12_change_13 (by decide) (fun cv4 => ?_) (fun cv4 => ?_)
  · have tcv4 := eqF cv4
    refine lv_iconst (v := 4) hx hb dX12_change_20 (by decide) ?_
    refine lv_aload_n hx hb dX12_change_21 rfl (lv_at hl 0 rfl) ?_
    refine rr_getA (k := 18) (j := 10) C hM f_X12_46 rfl rfl dX12_change_22 ?_
    refine lv_iload_n hx hb dX12_change_25 rfl (lv_at hl 1 rfl) ?_
    refine rr_ldJ (j := 10) (k := 18) (n := 1860) (v := rB R 18 i0.toNatClampNeg) C hM rfl rfl rfl (inI (by omega) (by show _ < (1860 : Int); omega)) (congrFun (hF.gB 18 (by decide)) i0.toNatClampNeg) dX12_change_26 ?_
    refine lv_topl (fun lv5 elv5 => ?_)
    refine lv_aload_n hx hb dX12_change_27 rfl (lv_at hl 0 rfl) ?_
    refine rr_getA (k := 18) (j := 10) C hM f_X12_46 rfl rfl dX12_change_28 ?_
    refine lv_iload_n hx hb dX12_change_31 rfl (lv_at hl 2 rfl) ?_
    refine rr_ldJ (j := 10) (k := 18) (n := 1860) (v := rB R 18 i1.toNatClampNeg) C hM rfl rfl rfl (inI (by omega) (by show _ < (1860 : Int); omega)) (congrFun (hF.gB 18 (by decide)) i1.toNatClampNeg) dX12_change_32 ?_
    refine lv_topl (fun lv6 elv6 => ?_)
    refine W.lcmp hx hb dX12_change_33 ?_
    refine lv_topi (fun xv7 exv7 => ?_)
    refine lv_if_ne (tgt := 41) hx hb dX12_change_34 (by decide) (fun cv8 => ?_) (fun cv8 => ?_)
    · have tcv8 := eqF cv8
      refine lv_iconst (v := 2) hx hb dX12_change_41 (by decide) ?_
      refine lv_iadd hx hb dX12_change_42 ?_
      refine lv_topi (fun xv9 exv9 => ?_)
      try (have txv9 := addI (a := 4) (b := 2) (by omega) (by omega); rw [← exv9] at txv9)
      refine lv_aload_n hx hb dX12_change_43 rfl (lv_at hl 0 rfl) ?_
      refine lv_iload_n hx hb dX12_change_44 rfl (lv_at hl 1 rfl) ?_
      refine lv_iload_n hx hb dX12_change_45 rfl (lv_at hl 2 rfl) ?_
      refine r_V (As := [.int i0, .int i1]) (rest := [.int xv9]) (ci := 12) C hM (c_X12_areSameWords l D H0 h0 R kc ns i0 i1 hI0 (by omega) (by omega) (by omega) (by omega)) i_X12_areSameWords m_X12_204 rK0 rfl rfl rfl hl.1 rfl (Nat.le_of_ble_eq_true rfl) ⟨by decide, by decide⟩ ⟨by decide, by decide⟩ dX12_change_46 (fun xv13 Sv10 kv11 nv12 H locs pv14 hM => ?_)
      obtain ⟨rfl, rfl, rfl, hxv13⟩ := pv14
      refine W.eq (g2 := F0 m 49 ls [.int xv13, .int xv9]) rfl ?_
      refine lv_if_eq (tgt := 56) hx hb dX12_change_49 (by decide) (fun cv15 => ?_) (fun cv15 => ?_)
      · have tcv15 := eqT cv15
        refine lv_iconst (v := 1) hx hb dX12_change_56 (by decide) ?_
        refine lv_iadd hx hb dX12_change_57 ?_
        refine lv_topi (fun xv16 exv16 => ?_)
        try (have txv16 := addI (a := xv9) (b := 1) (by omega) (by omega); rw [← exv16] at txv16)
        exact r_retI C hr hlk hM (⟨rfl, rfl, rfl, trivial⟩) dX12_change_58
      · have tcv15 := eqF cv15
        refine lv_iconst (v := 0) hx hb dX12_change_52 (by decide) ?_
        refine lv_goto (tgt := 57) hx hb dX12_change_53 (by decide) ?_
        refine lv_iadd hx hb dX12_change_57 ?_
        refine lv_topi (fun xv17 exv17 => ?_)
        try (have txv17 := addI (a := xv9) (b := 0) (by omega) (by omega); rw [← exv17] at txv17)
        exact r_retI C hr hlk hM (⟨rfl, rfl, rfl, trivial⟩) dX12_change_58
    · have tcv8 := eqT cv8
      refine lv_iconst (v := 0) hx hb dX12_change_37 (by decide) ?_
      refine lv_goto (tgt := 42) hx hb dX12_change_38 (by decide) ?_
      refine lv_iadd hx hb dX12_change_42 ?_
      refine lv_topi (fun xv18 exv18 => ?_)
      try (have txv18 := addI (a := 4) (b := 0) (by omega) (by omega); rw [← exv18] at txv18)
      refine lv_aload_n hx hb dX12_change_43 rfl (lv_at hl 0 rfl) ?_
      refine lv_iload_n hx hb dX12_change_44 rfl (lv_at hl 1 rfl) ?_
      refine lv_iload_n hx hb dX12_change_45 rfl (lv_at hl 2 rfl) ?_
      refine r_V (As := [.int i0, .int i1]) (rest := [.int xv18]) (ci := 12) C hM (c_X12_areSameWords l D H0 h0 R kc ns i0 i1 hI0 (by omega) (by omega) (by omega) (by omega)) i_X12_areSameWords m_X12_204 rK0 rfl rfl rfl hl.1 rfl (Nat.le_of_ble_eq_true rfl) ⟨by decide, by decide⟩ ⟨by decide, by decide⟩ dX12_change_46 (fun xv22 Sv19 kv20 nv21 H locs pv23 hM => ?_)
      obtain ⟨rfl, rfl, rfl, hxv22⟩ := pv23
      refine W.eq (g2 := F0 m 49 ls [.int xv22, .int xv18]) rfl ?_
      refine lv_if_eq (tgt := 56) hx hb dX12_change_49 (by decide) (fun cv24 => ?_) (fun cv24 => ?_)
      · have tcv24 := eqT cv24
        refine lv_iconst (v := 1) hx hb dX12_change_56 (by decide) ?_
        refine lv_iadd hx hb dX12_change_57 ?_
        refine lv_topi (fun xv25 exv25 => ?_)
        try (have txv25 := addI (a := xv18) (b := 1) (by omega) (by omega); rw [← exv25] at txv25)
        exact r_retI C hr hlk hM (⟨rfl, rfl, rfl, trivial⟩) dX12_change_58
      · have tcv24 := eqF cv24
        refine lv_iconst (v := 0) hx hb dX12_change_52 (by decide) ?_
        refine lv_goto (tgt := 57) hx hb dX12_change_53 (by decide) ?_
        refine lv_iadd hx hb dX12_change_57 ?_
        refine lv_topi (fun xv26 exv26 => ?_)
        try (have txv26 := addI (a := xv18) (b := 0) (by omega) (by omega); rw [← exv26] at txv26)
        exact r_retI C hr hlk hM (⟨rfl, rfl, rfl, trivial⟩) dX12_change_58
  · have tcv4 := eqT cv4
    refine lv_iconst (v := 0) hx hb dX12_change_16 (by decide) ?_
    refine lv_goto (tgt := 21) hx hb dX12_change_17 (by decide) ?_
    refine lv_aload_n hx hb dX12_change_21 rfl (lv_at hl 0 rfl) ?_
    refine rr_getA (k := 18) (j := 10) C hM f_X12_46 rfl rfl dX12_change_22 ?_
    refine lv_iload_n hx hb dX12_change_25 rfl (lv_at hl 1 rfl) ?_
    refine rr_ldJ (j := 10) (k := 18) (n := 1860) (v := rB R 18 i0.toNatClampNeg) C hM rfl rfl rfl (inI (by omega) (by show _ < (1860 : Int); omega)) (congrFun (hF.gB 18 (by decide)) i0.toNatClampNeg) dX12_change_26 ?_
    refine lv_topl (fun lv27 elv27 => ?_)
    refine lv_aload_n hx hb dX12_change_27 rfl (lv_at hl 0 rfl) ?_
    refine rr_getA (k := 18) (j := 10) C hM f_X12_46 rfl rfl dX12_change_28 ?_
    refine lv_iload_n hx hb dX12_change_31 rfl (lv_at hl 2 rfl) ?_
    refine rr_ldJ (j := 10) (k := 18) (n := 1860) (v := rB R 18 i1.toNatClampNeg) C hM rfl rfl rfl (inI (by omega) (by show _ < (1860 : Int); omega)) (congrFun (hF.gB 18 (by decide)) i1.toNatClampNeg) dX12_change_32 ?_
    refine lv_topl (fun lv28 elv28 => ?_)
    refine W.lcmp hx hb dX12_change_33 ?_
    refine lv_topi (fun xv29 exv29 => ?_)
    refine lv_if_ne (tgt := 41) hx hb dX12_change_34 (by decide) (fun cv30 => ?_) (fun cv30 => ?_)
    · have tcv30 := eqF cv30
      refine lv_iconst (v := 2) hx hb dX12_change_41 (by decide) ?_
      refine lv_iadd hx hb dX12_change_42 ?_
      refine lv_topi (fun xv31 exv31 => ?_)
      try (have txv31 := addI (a := 0) (b := 2) (by omega) (by omega); rw [← exv31] at txv31)
      refine lv_aload_n hx hb dX12_change_43 rfl (lv_at hl 0 rfl) ?_
      refine lv_iload_n hx hb dX12_change_44 rfl (lv_at hl 1 rfl) ?_
      refine lv_iload_n hx hb dX12_change_45 rfl (lv_at hl 2 rfl) ?_
      refine r_V (As := [.int i0, .int i1]) (rest := [.int xv31]) (ci := 12) C hM (c_X12_areSameWords l D H0 h0 R kc ns i0 i1 hI0 (by omega) (by omega) (by omega) (by omega)) i_X12_areSameWords m_X12_204 rK0 rfl rfl rfl hl.1 rfl (Nat.le_of_ble_eq_true rfl) ⟨by decide, by decide⟩ ⟨by decide, by decide⟩ dX12_change_46 (fun xv35 Sv32 kv33 nv34 H locs pv36 hM => ?_)
      obtain ⟨rfl, rfl, rfl, hxv35⟩ := pv36
      refine W.eq (g2 := F0 m 49 ls [.int xv35, .int xv31]) rfl ?_
      refine lv_if_eq (tgt := 56) hx hb dX12_change_49 (by decide) (fun cv37 => ?_) (fun cv37 => ?_)
      · have tcv37 := eqT cv37
        refine lv_iconst (v := 1) hx hb dX12_change_56 (by decide) ?_
        refine lv_iadd hx hb dX12_change_57 ?_
        refine lv_topi (fun xv38 exv38 => ?_)
        try (have txv38 := addI (a := xv31) (b := 1) (by omega) (by omega); rw [← exv38] at txv38)
        exact r_retI C hr hlk hM (⟨rfl, rfl, rfl, trivial⟩) dX12_change_58
      · have tcv37 := eqF cv37
        refine lv_iconst (v := 0) hx hb dX12_change_52 (by decide) ?_
        refine lv_goto (tgt := 57) hx hb dX12_change_53 (by decide) ?_
        refine lv_iadd hx hb dX12_change_57 ?_
        refine lv_topi (fun xv39 exv39 => ?_)
        try (have txv39 := addI (a := xv31) (b := 0) (by omega) (by omega); rw [← exv39] at txv39)
        exact r_retI C hr hlk hM (⟨rfl, rfl, rfl, trivial⟩) dX12_change_58
    · have tcv30 := eqT cv30
      refine lv_iconst (v := 0) hx hb dX12_change_37 (by decide) ?_
      refine lv_goto (tgt := 42) hx hb dX12_change_38 (by decide) ?_
      refine lv_iadd hx hb dX12_change_42 ?_
      refine lv_topi (fun xv40 exv40 => ?_)
      try (have txv40 := addI (a := 0) (b := 0) (by omega) (by omega); rw [← exv40] at txv40)
      refine lv_aload_n hx hb dX12_change_43 rfl (lv_at hl 0 rfl) ?_
      refine lv_iload_n hx hb dX12_change_44 rfl (lv_at hl 1 rfl) ?_
      refine lv_iload_n hx hb dX12_change_45 rfl (lv_at hl 2 rfl) ?_
      refine r_V (As := [.int i0, .int i1]) (rest := [.int xv40]) (ci := 12) C hM (c_X12_areSameWords l D H0 h0 R kc ns i0 i1 hI0 (by omega) (by omega) (by omega) (by omega)) i_X12_areSameWords m_X12_204 rK0 rfl rfl rfl hl.1 rfl (Nat.le_of_ble_eq_true rfl) ⟨by decide, by decide⟩ ⟨by decide, by decide⟩ dX12_change_46 (fun xv44 Sv41 kv42 nv43 H locs pv45 hM => ?_)
      obtain ⟨rfl, rfl, rfl, hxv44⟩ := pv45
      refine W.eq (g2 := F0 m 49 ls [.int xv44, .int xv40]) rfl ?_
      refine lv_if_eq (tgt := 56) hx hb dX12_change_49 (by decide) (fun cv46 => ?_) (fun cv46 => ?_)
      · have tcv46 := eqT cv46
        refine lv_iconst (v := 1) hx hb dX12_change_56 (by decide) ?_
        refine lv_iadd hx hb dX12_change_57 ?_
        refine lv_topi (fun xv47 exv47 => ?_)
        try (have txv47 := addI (a := xv40) (b := 1) (by omega) (by omega); rw [← exv47] at txv47)
        exact r_retI C hr hlk hM (⟨rfl, rfl, rfl, trivial⟩) dX12_change_58
      · have tcv46 := eqF cv46
        refine lv_iconst (v := 0) hx hb dX12_change_52 (by decide) ?_
        refine lv_goto (tgt := 57) hx hb dX12_change_53 (by decide) ?_
        refine lv_iadd hx hb dX12_change_57 ?_
        refine lv_topi (fun xv48 exv48 => ?_)
        try (have txv48 := addI (a := xv40) (b := 0) (by omega) (by omega); rw [← exv48] at txv48)
        exact r_retI C hr hlk hM (⟨rfl, rfl, rfl, trivial⟩) dX12_change_58
set_option maxHeartbeats 4000000 in
set_option maxRecDepth 100000 in
theorem c_X12_beside (l : Launch) (D : gD) (H0 : gB) (h0 : Nat) (R : RS) (kc ns : Nat) (i0 i1 i2 i3 : Int32) (hI : RI R) (a0 : 0 ≤ i0.toInt) (a1 : i0.toInt < 30) (a2 : i1.toInt < 60) (a3 : 0 ≤ i2.toInt) (a4 : i2.toInt < 30) (a5 : i3.toInt < 60)  : Met l yX12_beside (wsU yX12_beside cX12_beside 5 (some .int)) ({ frames := 2, cells := 0, slots := 0, locals := 45 } : Room) (mP D H0 (rM h0 R) kc ns [.ref h0, .int i0, .int i1, .int i2, .int i3]) (mQ D H0 gI (fun r S1 k1 n1 => rM h0 R = S1 ∧ kc = k1 ∧ ns = n1 ∧ True)) 0 0 (mF H0) := by
  refine r_met (own := RX12) (by decide +kernel) rfl (Nat.le_of_ble_eq_true rfl) ?_
  intro p e s m args below meth c C hr hlk hnm H ls hl hM
  obtain ⟨hx, hb, hml, hown, hts, -, -⟩ := id C
  have hl : lv_has ls 5 [(0, .ref h0), (1, .int i0), (2, .int i1), (3, .int i2), (4, .int i3)] := hl
  have hF : fr [] R R := fr.rf
  have hI0 := hI
  have t_0 : (0 : Int32).toInt = 0 := by decide
  have t_3 : (3 : Int32).toInt = 3 := by decide
  refine lv_iload_n hx hb dX12_beside_0 rfl (lv_at hl 2 rfl) ?_
  refine lv_if_ge (tgt := 13) hx hb dX12_beside_1 (by decide) (fun cv1 => ?_) (fun cv1 => ?_)
  · have tcv1 := leT cv1
    refine lv_iload_n hx hb dX12_beside_13 rfl (lv_at hl 2 rfl) ?_
    refine lv_if_lt (tgt := 22) hx hb dX12_beside_14 (by decide) (fun cv2 => ?_) (fun cv2 => ?_)
    · have tcv2 := ltT cv2
      refine lv_iconst (v := 3) hx hb dX12_beside_22 (by decide) ?_
      refine lv_goto (tgt := 41) hx hb dX12_beside_23 (by decide) ?_
      exact r_retI C hr hlk hM (⟨rfl, rfl, rfl, trivial⟩) dX12_beside_41
    · have tcv2 := ltF cv2
      refine lv_iload hx hb dX12_beside_17 (lv_at hl 4 rfl) ?_
      refine lv_if_ge (tgt := 26) hx hb dX12_beside_19 (by decide) (fun cv3 => ?_) (fun cv3 => ?_)
      · have tcv3 := leT cv3
        refine lv_aload_n hx hb dX12_beside_26 rfl (lv_at hl 0 rfl) ?_
        refine lv_iload_n hx hb dX12_beside_27 rfl (lv_at hl 1 rfl) ?_
        refine lv_iload_n hx hb dX12_beside_28 rfl (lv_at hl 2 rfl) ?_
        refine r_S (As := [.int i0, .int i1]) (rest := [.ref h0]) C hM (c_X12_spot l D H0 (rM h0 R) kc ns i0 i1 (by omega) (by omega) (by omega) (by omega)) i_X12_spot m_X12_151 rfl hl.1 rfl (Nat.le_of_ble_eq_true rfl) ⟨by decide, by decide⟩ ⟨by decide, by decide⟩ dX12_beside_29 (fun xv7 Sv4 kv5 nv6 H locs pv8 hM => ?_)
        obtain ⟨rfl, rfl, rfl, hxv7⟩ := pv8
        refine W.eq (g2 := F0 m 32 ls [.int xv7, .ref h0]) rfl ?_
        refine lv_iload_n hx hb dX12_beside_32 rfl (lv_at hl 3 rfl) ?_
        refine lv_iload hx hb dX12_beside_33 (lv_at hl 4 rfl) ?_
        refine r_S (As := [.int i2, .int i3]) (rest := [.int xv7, .ref h0]) C hM (c_X12_spot l D H0 (rM h0 R) kc ns i2 i3 (by omega) (by omega) (by omega) (by omega)) i_X12_spot m_X12_151 rfl hl.1 rfl (Nat.le_of_ble_eq_true rfl) ⟨by decide, by decide⟩ ⟨by decide, by decide⟩ dX12_beside_35 (fun xv12 Sv9 kv10 nv11 H locs pv13 hM => ?_)
        obtain ⟨rfl, rfl, rfl, hxv12⟩ := pv13
        refine W.eq (g2 := F0 m 38 ls [.int xv12, .int xv7, .ref h0]) rfl ?_
        refine r_V (As := [.int xv7, .int xv12]) (rest := []) (ci := 12) C hM (c_X12_change l D H0 h0 R kc ns xv7 xv12 hI0 (by omega) (by omega) (by omega) (by omega)) i_X12_change m_X12_211 rK0 rfl rfl rfl hl.1 rfl (Nat.le_of_ble_eq_true rfl) ⟨by decide, by decide⟩ ⟨by decide, by decide⟩ dX12_beside_38 (fun xv17 Sv14 kv15 nv16 H locs pv18 hM => ?_)
        obtain ⟨rfl, rfl, rfl, hxv17⟩ := pv18
        refine W.eq (g2 := F0 m 41 ls [.int xv17]) rfl ?_
        exact r_retI C hr hlk hM (⟨rfl, rfl, rfl, trivial⟩) dX12_beside_41
      · have tcv3 := leF cv3
        refine lv_iconst (v := 3) hx hb dX12_beside_22 (by decide) ?_
        refine lv_goto (tgt := 41) hx hb dX12_beside_23 (by decide) ?_
        exact r_retI C hr hlk hM (⟨rfl, rfl, rfl, trivial⟩) dX12_beside_41
  · have tcv1 := leF cv1
    refine lv_iload hx hb dX12_beside_4 (lv_at hl 4 rfl) ?_
    refine lv_if_ge (tgt := 13) hx hb dX12_beside_6 (by decide) (fun cv19 => ?_) (fun cv19 => ?_)
    · have tcv19 := leT cv19
      refine lv_iload_n hx hb dX12_beside_13 rfl (lv_at hl 2 rfl) ?_
      refine lv_if_lt (tgt := 22) hx hb dX12_beside_14 (by decide) (fun cv20 => ?_) (fun cv20 => ?_)
      · have tcv20 := ltT cv20
        refine lv_iconst (v := 3) hx hb dX12_beside_22 (by decide) ?_
        refine lv_goto (tgt := 41) hx hb dX12_beside_23 (by decide) ?_
        exact r_retI C hr hlk hM (⟨rfl, rfl, rfl, trivial⟩) dX12_beside_41
      · have tcv20 := ltF cv20
        refine lv_iload hx hb dX12_beside_17 (lv_at hl 4 rfl) ?_
        refine lv_if_ge (tgt := 26) hx hb dX12_beside_19 (by decide) (fun cv21 => ?_) (fun cv21 => ?_)
        · have tcv21 := leT cv21
          refine lv_aload_n hx hb dX12_beside_26 rfl (lv_at hl 0 rfl) ?_
          refine lv_iload_n hx hb dX12_beside_27 rfl (lv_at hl 1 rfl) ?_
          refine lv_iload_n hx hb dX12_beside_28 rfl (lv_at hl 2 rfl) ?_
          refine r_S (As := [.int i0, .int i1]) (rest := [.ref h0]) C hM (c_X12_spot l D H0 (rM h0 R) kc ns i0 i1 (by omega) (by omega) (by omega) (by omega)) i_X12_spot m_X12_151 rfl hl.1 rfl (Nat.le_of_ble_eq_true rfl) ⟨by decide, by decide⟩ ⟨by decide, by decide⟩ dX12_beside_29 (fun xv25 Sv22 kv23 nv24 H locs pv26 hM => ?_)
          obtain ⟨rfl, rfl, rfl, hxv25⟩ := pv26
          refine W.eq (g2 := F0 m 32 ls [.int xv25, .ref h0]) rfl ?_
          refine lv_iload_n hx hb dX12_beside_32 rfl (lv_at hl 3 rfl) ?_
          refine lv_iload hx hb dX12_beside_33 (lv_at hl 4 rfl) ?_
          refine r_S (As := [.int i2, .int i3]) (rest := [.int xv25, .ref h0]) C hM (c_X12_spot l D H0 (rM h0 R) kc ns i2 i3 (by omega) (by omega) (by omega) (by omega)) i_X12_spot m_X12_151 rfl hl.1 rfl (Nat.le_of_ble_eq_true rfl) ⟨by decide, by decide⟩ ⟨by decide, by decide⟩ dX12_beside_35 (fun xv30 Sv27 kv28 nv29 H locs pv31 hM => ?_)
          obtain ⟨rfl, rfl, rfl, hxv30⟩ := pv31
          refine W.eq (g2 := F0 m 38 ls [.int xv30, .int xv25, .ref h0]) rfl ?_
          refine r_V (As := [.int xv25, .int xv30]) (rest := []) (ci := 12) C hM (c_X12_change l D H0 h0 R kc ns xv25 xv30 hI0 (by omega) (by omega) (by omega) (by omega)) i_X12_change m_X12_211 rK0 rfl rfl rfl hl.1 rfl (Nat.le_of_ble_eq_true rfl) ⟨by decide, by decide⟩ ⟨by decide, by decide⟩ dX12_beside_38 (fun xv35 Sv32 kv33 nv34 H locs pv36 hM => ?_)
          obtain ⟨rfl, rfl, rfl, hxv35⟩ := pv36
          refine W.eq (g2 := F0 m 41 ls [.int xv35]) rfl ?_
          exact r_retI C hr hlk hM (⟨rfl, rfl, rfl, trivial⟩) dX12_beside_41
        · have tcv21 := leF cv21
          refine lv_iconst (v := 3) hx hb dX12_beside_22 (by decide) ?_
          refine lv_goto (tgt := 41) hx hb dX12_beside_23 (by decide) ?_
          exact r_retI C hr hlk hM (⟨rfl, rfl, rfl, trivial⟩) dX12_beside_41
    · have tcv19 := leF cv19
      refine lv_iconst (v := 0) hx hb dX12_beside_9 (by decide) ?_
      refine lv_goto (tgt := 41) hx hb dX12_beside_10 (by decide) ?_
      exact r_retI C hr hlk hM (⟨rfl, rfl, rfl, trivial⟩) dX12_beside_41
set_option maxHeartbeats 4000000 in
set_option maxRecDepth 100000 in
theorem c_X12_costOf (l : Launch) (D : gD) (H0 : gB) (h0 : Nat) (R : RS) (kc ns : Nat) (i0 i1 i2 i3 : Int32) (hI : RI R) (g00 : 0 ≤ i0.toInt) (g10 : i0.toInt < 30) (p01 : 0 ≤ i1.toInt) (p11 : i1.toInt < (rA R 10 i0.toNatClampNeg).toInt) (g02 : 0 ≤ i2.toInt) (g12 : i2.toInt < 30) (p03 : 0 ≤ i3.toInt) (p13 : i3.toInt < (rA R 10 i2.toNatClampNeg).toInt)  : Met l yX12_costOf (wsU yX12_costOf cX12_costOf 5 (some .int)) ({ frames := 3, cells := 0, slots := 0, locals := 69 } : Room) (mP D H0 (rM h0 R) kc ns [.ref h0, .int i0, .int i1, .int i2, .int i3]) (mQ D H0 gI (fun r S1 k1 n1 => rM h0 R = S1 ∧ kc = k1 ∧ ns = n1 ∧ True)) 0 0 (mF H0) := by
  refine r_met (own := RX12) (by decide +kernel) rfl (Nat.le_of_ble_eq_true rfl) ?_
  intro p e s m args below meth c C hr hlk hnm H ls hl hM
  obtain ⟨hx, hb, hml, hown, hts, -, -⟩ := id C
  have hl : lv_has ls 5 [(0, .ref h0), (1, .int i0), (2, .int i1), (3, .int i2), (4, .int i3)] := hl
  have hF : fr [] R R := fr.rf
  have hI0 := hI
  have t_0 : (0 : Int32).toInt = 0 := by decide
  have t_3 : (3 : Int32).toInt = 3 := by decide
  have t_60 : (60 : Int32).toInt = 60 := by decide
  have fm0 := RI.many hI i0.toNatClampNeg
  have fm2 := RI.many hI i2.toNatClampNeg
  refine lv_iconst (v := 3) hx hb dX12_costOf_0 (by decide) ?_
  refine lv_aload_n hx hb dX12_costOf_1 rfl (lv_at hl 0 rfl) ?_
  refine rr_getA (k := 23) (j := 14) C hM f_X12_59 rfl rfl dX12_costOf_2 ?_
  refine lv_bipush (v := 60) hx hb dX12_costOf_5 (by decide) ?_
  refine lv_iload_n hx hb dX12_costOf_7 rfl (lv_at hl 2 rfl) ?_
  refine lv_imul hx hb dX12_costOf_8 ?_
  refine lv_topi (fun xv1 exv1 => ?_)
  try (have txv1 := mulD (a := i1) (k := 60) (n := 60) (by decide) (by omega) (by omega); rw [← exv1] at txv1)
  refine lv_iload hx hb dX12_costOf_9 (lv_at hl 4 rfl) ?_
  refine lv_iadd hx hb dX12_costOf_11 ?_
  refine lv_topi (fun xv2 exv2 => ?_)
  try (have txv2 := addI (a := xv1) (b := i3) (by omega) (by omega); rw [← exv2] at txv2)
  refine rr_ldI (j := 14) (k := 23) (n := 3600) (v := rA R 23 xv2.toNatClampNeg) C hM rfl rfl rfl (inI (by omega) (by show _ < (3600 : Int); omega)) (congrFun (hF.gA 23 (by decide)) xv2.toNatClampNeg) dX12_costOf_12 ?_
  refine lv_topi (fun xv3 exv3 => ?_)
  refine lv_imul hx hb dX12_costOf_13 ?_
  refine lv_topi (fun xv4 exv4 => ?_)
  try (have txv4 := mulD (a := xv3) (k := 3) (n := 3) (by decide) (by omega) (by omega); rw [← exv4] at txv4)
  refine lv_aload_n hx hb dX12_costOf_14 rfl (lv_at hl 0 rfl) ?_
  refine lv_iload_n hx hb dX12_costOf_15 rfl (lv_at hl 1 rfl) ?_
  refine lv_aload_n hx hb dX12_costOf_16 rfl (lv_at hl 0 rfl) ?_
  refine rr_getA (k := 11) (j := 3) C hM f_X12_24 rfl rfl dX12_costOf_17 ?_
  refine lv_iload_n hx hb dX12_costOf_20 rfl (lv_at hl 1 rfl) ?_
  refine lv_iload_n hx hb dX12_costOf_21 rfl (lv_at hl 2 rfl) ?_
  refine r_S (As := [.int i0, .int i1]) (rest := [.ref (h0 + 1 + 3), .int i0, .ref h0, .int xv4]) C hM (c_X12_spot l D H0 (rM h0 R) kc ns i0 i1 (by omega) (by omega) (by omega) (by omega)) i_X12_spot m_X12_151 rfl hl.1 rfl (Nat.le_of_ble_eq_true rfl) ⟨by decide, by decide⟩ ⟨by decide, by decide⟩ dX12_costOf_22 (fun xv8 Sv5 kv6 nv7 H locs pv9 hM => ?_)
  obtain ⟨rfl, rfl, rfl, hxv8⟩ := pv9
  refine W.eq (g2 := F0 m 25 ls [.int xv8, .ref (h0 + 1 + 3), .int i0, .ref h0, .int xv4]) rfl ?_
  refine rr_ldI (j := 3) (k := 11) (n := 1860) (v := rA R 11 xv8.toNatClampNeg) C hM rfl rfl rfl (inI (by omega) (by show _ < (1860 : Int); omega)) (congrFun (hF.gA 11 (by decide)) xv8.toNatClampNeg) dX12_costOf_25 ?_
  refine lv_topi (fun xv10 exv10 => ?_)
  try (have fxv10 := PG.at11 hI0 (g := i0) (p := i1) (x := xv8) (by omega) (by omega) (by omega) (by omega) (by omega); rw [← exv10] at fxv10)
  refine lv_iload_n hx hb dX12_costOf_26 rfl (lv_at hl 3 rfl) ?_
  refine lv_aload_n hx hb dX12_costOf_27 rfl (lv_at hl 0 rfl) ?_
  refine rr_getA (k := 11) (j := 3) C hM f_X12_24 rfl rfl dX12_costOf_28 ?_
  refine lv_iload_n hx hb dX12_costOf_31 rfl (lv_at hl 3 rfl) ?_
  refine lv_iload hx hb dX12_costOf_32 (lv_at hl 4 rfl) ?_
  refine r_S (As := [.int i2, .int i3]) (rest := [.ref (h0 + 1 + 3), .int i2, .int xv10, .int i0, .ref h0, .int xv4]) C hM (c_X12_spot l D H0 (rM h0 R) kc ns i2 i3 (by omega) (by omega) (by omega) (by omega)) i_X12_spot m_X12_151 rfl hl.1 rfl (Nat.le_of_ble_eq_true rfl) ⟨by decide, by decide⟩ ⟨by decide, by decide⟩ dX12_costOf_34 (fun xv14 Sv11 kv12 nv13 H locs pv15 hM => ?_)
  obtain ⟨rfl, rfl, rfl, hxv14⟩ := pv15
  refine W.eq (g2 := F0 m 37 ls [.int xv14, .ref (h0 + 1 + 3), .int i2, .int xv10, .int i0, .ref h0, .int xv4]) rfl ?_
  refine rr_ldI (j := 3) (k := 11) (n := 1860) (v := rA R 11 xv14.toNatClampNeg) C hM rfl rfl rfl (inI (by omega) (by show _ < (1860 : Int); omega)) (congrFun (hF.gA 11 (by decide)) xv14.toNatClampNeg) dX12_costOf_37 ?_
  refine lv_topi (fun xv16 exv16 => ?_)
  try (have fxv16 := PG.at11 hI0 (g := i2) (p := i3) (x := xv14) (by omega) (by omega) (by omega) (by omega) (by omega); rw [← exv16] at fxv16)
  refine r_V (As := [.int i0, .int xv10, .int i2, .int xv16]) (rest := [.int xv4]) (ci := 12) C hM (c_X12_beside l D H0 h0 R kc ns i0 xv10 i2 xv16 hI0 (by omega) (by omega) (by omega) (by omega) (by omega) (by omega)) i_X12_beside m_X12_217 rK0 rfl rfl rfl hl.1 rfl (Nat.le_of_ble_eq_true rfl) ⟨by decide, by decide⟩ ⟨by decide, by decide⟩ dX12_costOf_38 (fun xv20 Sv17 kv18 nv19 H locs pv21 hM => ?_)
  obtain ⟨rfl, rfl, rfl, hxv20⟩ := pv21
  refine W.eq (g2 := F0 m 41 ls [.int xv20, .int xv4]) rfl ?_
  refine lv_iadd hx hb dX12_costOf_41 ?_
  refine lv_topi (fun xv22 exv22 => ?_)
  try (have txv22 := addI (a := xv4) (b := xv20) (by omega) (by omega); rw [← exv22] at txv22)
  refine lv_aload_n hx hb dX12_costOf_42 rfl (lv_at hl 0 rfl) ?_
  refine lv_iload_n hx hb dX12_costOf_43 rfl (lv_at hl 1 rfl) ?_
  refine lv_aload_n hx hb dX12_costOf_44 rfl (lv_at hl 0 rfl) ?_
  refine lv_iload_n hx hb dX12_costOf_45 rfl (lv_at hl 1 rfl) ?_
  refine lv_iload_n hx hb dX12_costOf_46 rfl (lv_at hl 2 rfl) ?_
  refine r_V (As := [.int i0, .int i1]) (rest := [.int i0, .ref h0, .int xv22]) (ci := 12) C hM (c_X12_left l D H0 h0 R kc ns i0 i1 hI0 (by omega) (by omega) (by omega) (by omega)) i_X12_left m_X12_189 rK0 rfl rfl rfl hl.1 rfl (Nat.le_of_ble_eq_true rfl) ⟨by decide, by decide⟩ ⟨by decide, by decide⟩ dX12_costOf_47 (fun xv26 Sv23 kv24 nv25 H locs pv27 hM => ?_)
  obtain ⟨rfl, rfl, rfl, hxv26⟩ := pv27
  refine W.eq (g2 := F0 m 50 ls [.int xv26, .int i0, .ref h0, .int xv22]) rfl ?_
  refine lv_iload_n hx hb dX12_costOf_50 rfl (lv_at hl 3 rfl) ?_
  refine lv_aload_n hx hb dX12_costOf_51 rfl (lv_at hl 0 rfl) ?_
  refine lv_iload_n hx hb dX12_costOf_52 rfl (lv_at hl 3 rfl) ?_
  refine lv_iload hx hb dX12_costOf_53 (lv_at hl 4 rfl) ?_
  refine r_V (As := [.int i2, .int i3]) (rest := [.int i2, .int xv26, .int i0, .ref h0, .int xv22]) (ci := 12) C hM (c_X12_left l D H0 h0 R kc ns i2 i3 hI0 (by omega) (by omega) (by omega) (by omega)) i_X12_left m_X12_189 rK0 rfl rfl rfl hl.1 rfl (Nat.le_of_ble_eq_true rfl) ⟨by decide, by decide⟩ ⟨by decide, by decide⟩ dX12_costOf_55 (fun xv31 Sv28 kv29 nv30 H locs pv32 hM => ?_)
  obtain ⟨rfl, rfl, rfl, hxv31⟩ := pv32
  refine W.eq (g2 := F0 m 58 ls [.int xv31, .int i2, .int xv26, .int i0, .ref h0, .int xv22]) rfl ?_
  refine r_V (As := [.int i0, .int xv26, .int i2, .int xv31]) (rest := [.int xv22]) (ci := 12) C hM (c_X12_beside l D H0 h0 R kc ns i0 xv26 i2 xv31 hI0 (by omega) (by omega) (by omega) (by omega) (by omega) (by omega)) i_X12_beside m_X12_217 rK0 rfl rfl rfl hl.1 rfl (Nat.le_of_ble_eq_true rfl) ⟨by decide, by decide⟩ ⟨by decide, by decide⟩ dX12_costOf_58 (fun xv36 Sv33 kv34 nv35 H locs pv37 hM => ?_)
  obtain ⟨rfl, rfl, rfl, hxv36⟩ := pv37
  refine W.eq (g2 := F0 m 61 ls [.int xv36, .int xv22]) rfl ?_
  refine lv_iadd hx hb dX12_costOf_61 ?_
  refine lv_topi (fun xv38 exv38 => ?_)
  try (have txv38 := addI (a := xv22) (b := xv36) (by omega) (by omega); rw [← exv38] at txv38)
  refine lv_aload_n hx hb dX12_costOf_62 rfl (lv_at hl 0 rfl) ?_
  refine lv_iload_n hx hb dX12_costOf_63 rfl (lv_at hl 1 rfl) ?_
  refine lv_aload_n hx hb dX12_costOf_64 rfl (lv_at hl 0 rfl) ?_
  refine lv_iload_n hx hb dX12_costOf_65 rfl (lv_at hl 1 rfl) ?_
  refine lv_iload_n hx hb dX12_costOf_66 rfl (lv_at hl 2 rfl) ?_
  refine r_V (As := [.int i0, .int i1]) (rest := [.int i0, .ref h0, .int xv38]) (ci := 12) C hM (c_X12_right l D H0 h0 R kc ns i0 i1 hI0 (by omega) (by omega) (by omega) (by omega)) i_X12_right m_X12_192 rK0 rfl rfl rfl hl.1 rfl (Nat.le_of_ble_eq_true rfl) ⟨by decide, by decide⟩ ⟨by decide, by decide⟩ dX12_costOf_67 (fun xv42 Sv39 kv40 nv41 H locs pv43 hM => ?_)
  obtain ⟨rfl, rfl, rfl, hxv42⟩ := pv43
  refine W.eq (g2 := F0 m 70 ls [.int xv42, .int i0, .ref h0, .int xv38]) rfl ?_
  refine lv_iload_n hx hb dX12_costOf_70 rfl (lv_at hl 3 rfl) ?_
  refine lv_aload_n hx hb dX12_costOf_71 rfl (lv_at hl 0 rfl) ?_
  refine lv_iload_n hx hb dX12_costOf_72 rfl (lv_at hl 3 rfl) ?_
  refine lv_iload hx hb dX12_costOf_73 (lv_at hl 4 rfl) ?_
  refine r_V (As := [.int i2, .int i3]) (rest := [.int i2, .int xv42, .int i0, .ref h0, .int xv38]) (ci := 12) C hM (c_X12_right l D H0 h0 R kc ns i2 i3 hI0 (by omega) (by omega) (by omega) (by omega)) i_X12_right m_X12_192 rK0 rfl rfl rfl hl.1 rfl (Nat.le_of_ble_eq_true rfl) ⟨by decide, by decide⟩ ⟨by decide, by decide⟩ dX12_costOf_75 (fun xv47 Sv44 kv45 nv46 H locs pv48 hM => ?_)
  obtain ⟨rfl, rfl, rfl, hxv47⟩ := pv48
  refine W.eq (g2 := F0 m 78 ls [.int xv47, .int i2, .int xv42, .int i0, .ref h0, .int xv38]) rfl ?_
  refine r_V (As := [.int i0, .int xv42, .int i2, .int xv47]) (rest := [.int xv38]) (ci := 12) C hM (c_X12_beside l D H0 h0 R kc ns i0 xv42 i2 xv47 hI0 (by omega) (by omega) (by omega) (by omega) (by omega) (by omega)) i_X12_beside m_X12_217 rK0 rfl rfl rfl hl.1 rfl (Nat.le_of_ble_eq_true rfl) ⟨by decide, by decide⟩ ⟨by decide, by decide⟩ dX12_costOf_78 (fun xv52 Sv49 kv50 nv51 H locs pv53 hM => ?_)
  obtain ⟨rfl, rfl, rfl, hxv52⟩ := pv53
  refine W.eq (g2 := F0 m 81 ls [.int xv52, .int xv38]) rfl ?_
  refine lv_iadd hx hb dX12_costOf_81 ?_
  refine lv_topi (fun xv54 exv54 => ?_)
  try (have txv54 := addI (a := xv38) (b := xv52) (by omega) (by omega); rw [← exv54] at txv54)
  exact r_retI C hr hlk hM (⟨rfl, rfl, rfl, trivial⟩) dX12_costOf_82
