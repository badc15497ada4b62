set_option maxHeartbeats 4000000 in
set_option maxRecDepth 100000 in
theorem lc_sample {p : Program} {l : Launch} {e : Env} {s : State} {m : MethodId} {below : List Frame} {meth : Method} {c : Code} {b L : Nat} {xs : Nat → Int32} {D : gD} {x h j : Nat} {H : Heap} {locs : List Loc} {ls : Array Slot} {iv : Int32} {Q : State → Prop} (C : Cx D p s m #[Value.ref b] c cL_law 4 RL) (hX : va_X b L xs s s.heap) (hbl : b < s.heap.size) (hL : L ≤ 3072) (hi : iv.toInt = 6 * j) (hj : 6 * j + 6 ≤ L) (hl : lv_has ls 4 [(0, .ref b), (1, .ref x), (2, .ref h), (3, .int iv)]) (hLS : LSt D s.heap x h j H locs)
    (kk : ∀ (H : Heap) (locs : List Loc), LSt D s.heap x h (j + 1) H locs → W p l e room_1 s m #[Value.ref b] below meth c H locs (71 + 63 * (j + 1)) (93918 + 1100 * (j + 1)) Q (F0 m 1149 ls [])) : W p l e room_1 s m #[Value.ref b] below meth c H locs (71 + 63 * j) (93918 + 1100 * j) Q (F0 m 695 ls []) := by
  obtain ⟨hx, hb, hml, hown, hts, -, -⟩ := id C
  have hbA : ¬ (fun q : Nat => s.heap.size ≤ q) b := Nat.not_le.mpr hbl
  obtain ⟨S, R, u, tl, r1, mt, k, n, hJ, hI, kx, hRI, htl, ⟨hu, hr1, hmt⟩, hk, hn⟩ := hLS
  have t_1 : (1 : Int32).toInt = 1 := by decide
  have t_2 : (2 : Int32).toInt = 2 := by decide
  have t_3 : (3 : Int32).toInt = 3 := by decide
  have t_4 : (4 : Int32).toInt = 4 := by decide
  have t_5 : (5 : Int32).toInt = 5 := by decide
  have t_0 : (0 : Int32).toInt = 0 := by decide
  refine lv_aload_n hx hb dL_law_695 rfl (lv_at hl 1 rfl) ?_
  refine lv_aload_n hx hb dL_law_696 rfl (lv_at hl 0 rfl) ?_
  refine lv_iload_n hx hb dL_law_697 rfl (lv_at hl 3 rfl) ?_
  refine lv_iconst (v := 1) hx hb dL_law_698 (by decide) ?_
  refine lv_iadd hx hb dL_law_699 ?_
  refine lv_topi (fun xv1 exv1 => ?_)
  have txv1 := addI (a := iv) (b := 1) (by omega) (by omega); rw [← exv1] at txv1
  refine va_sld (A := fun q => s.heap.size ≤ q) hx hb hX hbl hbA hJ.2.2.1 (inI (by omega) (by omega)) dL_law_700 ?_
  refine lv_topi (fun yv2 eyv2 => ?_)
  refine lv_aload_n hx hb dL_law_701 rfl (lv_at hl 0 rfl) ?_
  refine lv_iload_n hx hb dL_law_702 rfl (lv_at hl 3 rfl) ?_
  refine lv_iconst (v := 2) hx hb dL_law_703 (by decide) ?_
  refine lv_iadd hx hb dL_law_704 ?_
  refine lv_topi (fun xv3 exv3 => ?_)
  have txv3 := addI (a := iv) (b := 2) (by omega) (by omega); rw [← exv3] at txv3
  refine va_sld (A := fun q => s.heap.size ≤ q) hx hb hX hbl hbA hJ.2.2.1 (inI (by omega) (by omega)) dL_law_705 ?_
  refine lv_topi (fun yv4 eyv4 => ?_)
  refine r_V (As := [.int yv2, .int yv4]) (rest := []) (ci := 11) C hJ.mC (c_X11_sample l D (bC H s.heap h) S k n x yv2 yv4 hI kx) i_X11_sample m_L_70 kx rfl rfl rfl hl.1 rfl (Nat.le_of_ble_eq_true rfl) ⟨by decide, by decide⟩ ⟨by show _ ≤ 600000; simp only []; omega, by show _ ≤ 7302250; simp only []; omega⟩ dL_law_706 (fun rv5 S1 k1 n1 H locs hp hM => ?_)
  have hJ := hJ.aC hM
  obtain ⟨rfl, rfl, hKs, hI, -⟩ := hp
  have kx : mK S1 x = 12 := by rw [hKs]; exact kx
  refine W.eq (g2 := F0 m 709 ls [.int rv5]) rfl ?_
  refine lv_pop hx hb dL_law_709 rfl ?_
  refine lv_aload_n hx hb dL_law_710 rfl (lv_at hl 2 rfl) ?_
  refine lv_aload_n hx hb dL_law_711 rfl (lv_at hl 0 rfl) ?_
  refine lv_iload_n hx hb dL_law_712 rfl (lv_at hl 3 rfl) ?_
  refine lv_iconst (v := 1) hx hb dL_law_713 (by decide) ?_
  refine lv_iadd hx hb dL_law_714 ?_
  rw [← exv1]
  refine va_sld (A := fun q => s.heap.size ≤ q) hx hb hX hbl hbA hJ.2.2.1 (inI (by omega) (by omega)) dL_law_715 ?_
  rw [← eyv2]
  refine lv_aload_n hx hb dL_law_716 rfl (lv_at hl 0 rfl) ?_
  refine lv_iload_n hx hb dL_law_717 rfl (lv_at hl 3 rfl) ?_
  refine lv_iconst (v := 2) hx hb dL_law_718 (by decide) ?_
  refine lv_iadd hx hb dL_law_719 ?_
  rw [← exv3]
  refine va_sld (A := fun q => s.heap.size ≤ q) hx hb hX hbl hbA hJ.2.2.1 (inI (by omega) (by omega)) dL_law_720 ?_
  rw [← eyv4]
  refine r_V (As := [.int yv2, .int yv4]) (rest := []) (ci := 12) C hJ.mR (c_X12_sample l D (bR H s.heap S1) h R k n yv2 yv4 hRI) i_X12_sample m_L_74 rK0 rfl rfl rfl hl.1 rfl (Nat.le_of_ble_eq_true rfl) ⟨by decide, by decide⟩ ⟨by show _ ≤ 600000; simp only []; omega, by show _ ≤ 7302250; simp only []; omega⟩ dL_law_721 (fun rv6 S2 k2 n2 H locs hp hM => ?_)
  obtain ⟨rfl, rfl, R1, rfl, hf9, hp⟩ := hp
  have hJ := hJ.aR hM
  have hRI := hp
  have htl : (rI R1 2).toInt = tl := by rw [hf9.gI 2 (by decide)]; exact htl
  refine W.eq (g2 := F0 m 724 ls [.int rv6]) rfl ?_
  refine lv_pop hx hb dL_law_724 rfl ?_
  have hLS : LSt D s.heap x h (j + 1) H locs := ⟨S1, R1, u, tl, r1, mt, k, n, hJ, hI, kx, hRI, htl, ⟨by omega, by omega, hmt⟩, by omega, by omega⟩
  refine r_tightJ hJ (k0 := 71 + 63 * (j + 1)) (n0 := 93918 + 1100 * (j + 1)) (by omega) (by omega) ?_
  refine lv_goto (tgt := 1149) hx hb dL_law_725 (by decide) ?_
  exact kk _ _ hLS
set_option maxHeartbeats 4000000 in
set_option maxRecDepth 100000 in
theorem lc_forget {p : Program} {l : Launch} {e : Env} {s : State} {m : MethodId} {below : List Frame} {meth : Method} {c : Code} {b L : Nat} {xs : Nat → Int32} {D : gD} {x h j : Nat} {H : Heap} {locs : List Loc} {ls : Array Slot} {iv : Int32} {Q : State → Prop} (C : Cx D p s m #[Value.ref b] c cL_law 4 RL) (hX : va_X b L xs s s.heap) (hbl : b < s.heap.size) (hL : L ≤ 3072) (hi : iv.toInt = 6 * j) (hj : 6 * j + 6 ≤ L) (hl : lv_has ls 4 [(0, .ref b), (1, .ref x), (2, .ref h), (3, .int iv)]) (hLS : LSt D s.heap x h j H locs)
    (kk : ∀ (H : Heap) (locs : List Loc), LSt D s.heap x h (j + 1) H locs → W p l e room_1 s m #[Value.ref b] below meth c H locs (71 + 63 * (j + 1)) (93918 + 1100 * (j + 1)) Q (F0 m 1149 ls [])) : W p l e room_1 s m #[Value.ref b] below meth c H locs (71 + 63 * j) (93918 + 1100 * j) Q (F0 m 728 ls []) := by
  obtain ⟨hx, hb, hml, hown, hts, -, -⟩ := id C
  have hbA : ¬ (fun q : Nat => s.heap.size ≤ q) b := Nat.not_le.mpr hbl
  obtain ⟨S, R, u, tl, r1, mt, k, n, hJ, hI, kx, hRI, htl, ⟨hu, hr1, hmt⟩, hk, hn⟩ := hLS
  have t_1 : (1 : Int32).toInt = 1 := by decide
  have t_2 : (2 : Int32).toInt = 2 := by decide
  have t_3 : (3 : Int32).toInt = 3 := by decide
  have t_4 : (4 : Int32).toInt = 4 := by decide
  have t_5 : (5 : Int32).toInt = 5 := by decide
  have t_0 : (0 : Int32).toInt = 0 := by decide
  refine lv_aload_n hx hb dL_law_728 rfl (lv_at hl 1 rfl) ?_
  refine r_V (As := []) (rest := []) (ci := 11) C hJ.mC (c_X11_forget l D (bC H s.heap h) S k n x  hI kx) i_X11_forget m_L_75 kx rfl rfl rfl hl.1 rfl (Nat.le_of_ble_eq_true rfl) ⟨by decide, by decide⟩ ⟨by show _ ≤ 600000; simp only []; omega, by show _ ≤ 7302250; simp only []; omega⟩ dL_law_729 (fun rv1 S1 k1 n1 H locs hp hM => ?_)
  have hJ := hJ.aC hM
  obtain ⟨rfl, rfl, hKs, hI, -⟩ := hp
  have kx : mK S1 x = 12 := by rw [hKs]; exact kx
  refine W.eq (g2 := F0 m 732 ls [.int rv1]) rfl ?_
  refine lv_pop hx hb dL_law_732 rfl ?_
  refine lv_aload_n hx hb dL_law_733 rfl (lv_at hl 2 rfl) ?_
  refine r_V (As := []) (rest := []) (ci := 12) C hJ.mR (c_X12_forget l D (bR H s.heap S1) h R k n  hRI) i_X12_forget m_L_79 rK0 rfl rfl rfl hl.1 rfl (Nat.le_of_ble_eq_true rfl) ⟨by decide, by decide⟩ ⟨by show _ ≤ 600000; simp only []; omega, by show _ ≤ 7302250; simp only []; omega⟩ dL_law_734 (fun rv2 S2 k2 n2 H locs hp hM => ?_)
  obtain ⟨rfl, rfl, R1, rfl, hf9, hp⟩ := hp
  have hJ := hJ.aR hM
  have hRI := hp
  have htl : (rI R1 2).toInt = tl := by rw [hf9.gI 2 (by decide)]; exact htl
  refine W.eq (g2 := F0 m 737 ls [.int rv2]) rfl ?_
  refine lv_pop hx hb dL_law_737 rfl ?_
  have hLS : LSt D s.heap x h (j + 1) H locs := ⟨S1, R1, u, tl, r1, mt, k, n, hJ, hI, kx, hRI, htl, ⟨by omega, by omega, hmt⟩, by omega, by omega⟩
  refine r_tightJ hJ (k0 := 71 + 63 * (j + 1)) (n0 := 93918 + 1100 * (j + 1)) (by omega) (by omega) ?_
  refine lv_goto (tgt := 1149) hx hb dL_law_738 (by decide) ?_
  exact kk _ _ hLS
set_option maxHeartbeats 4000000 in
set_option maxRecDepth 100000 in
theorem lc_stays {p : Program} {l : Launch} {e : Env} {s : State} {m : MethodId} {below : List Frame} {meth : Method} {c : Code} {b L : Nat} {xs : Nat → Int32} {D : gD} {x h j : Nat} {H : Heap} {locs : List Loc} {ls : Array Slot} {iv : Int32} {Q : State → Prop} (C : Cx D p s m #[Value.ref b] c cL_law 4 RL) (hX : va_X b L xs s s.heap) (hbl : b < s.heap.size) (hL : L ≤ 3072) (hi : iv.toInt = 6 * j) (hj : 6 * j + 6 ≤ L) (hl : lv_has ls 4 [(0, .ref b), (1, .ref x), (2, .ref h), (3, .int iv)]) (hLS : LSt D s.heap x h j H locs)
    (kk : ∀ (H : Heap) (locs : List Loc), LSt D s.heap x h (j + 1) H locs → W p l e room_1 s m #[Value.ref b] below meth c H locs (71 + 63 * (j + 1)) (93918 + 1100 * (j + 1)) Q (F0 m 1149 ls [])) : W p l e room_1 s m #[Value.ref b] below meth c H locs (71 + 63 * j) (93918 + 1100 * j) Q (F0 m 741 ls []) := by
  obtain ⟨hx, hb, hml, hown, hts, -, -⟩ := id C
  have hbA : ¬ (fun q : Nat => s.heap.size ≤ q) b := Nat.not_le.mpr hbl
  obtain ⟨S, R, u, tl, r1, mt, k, n, hJ, hI, kx, hRI, htl, ⟨hu, hr1, hmt⟩, hk, hn⟩ := hLS
  have t_1 : (1 : Int32).toInt = 1 := by decide
  have t_2 : (2 : Int32).toInt = 2 := by decide
  have t_3 : (3 : Int32).toInt = 3 := by decide
  have t_4 : (4 : Int32).toInt = 4 := by decide
  have t_5 : (5 : Int32).toInt = 5 := by decide
  have t_0 : (0 : Int32).toInt = 0 := by decide
  refine lv_aload_n hx hb dL_law_741 rfl (lv_at hl 1 rfl) ?_
  refine r_V (As := []) (rest := []) (ci := 11) C hJ.mC (c_X11_stays l D (bC H s.heap h) S k n x  hI kx) i_X11_stays m_L_80 kx rfl rfl rfl hl.1 rfl (Nat.le_of_ble_eq_true rfl) ⟨by decide, by decide⟩ ⟨by show _ ≤ 600000; simp only []; omega, by show _ ≤ 7302250; simp only []; omega⟩ dL_law_742 (fun rv1 S1 k1 n1 H locs hp hM => ?_)
  have hJ := hJ.aC hM
  obtain ⟨rfl, rfl, rfl, -⟩ := hp
  refine W.eq (g2 := F0 m 745 ls [.int rv1]) rfl ?_
  refine lv_pop hx hb dL_law_745 rfl ?_
  refine lv_aload_n hx hb dL_law_746 rfl (lv_at hl 2 rfl) ?_
  refine r_V (As := []) (rest := []) (ci := 12) C hJ.mR (c_X12_stays l D (bR H s.heap S) h R k n  hRI) i_X12_stays m_L_83 rK0 rfl rfl rfl hl.1 rfl (Nat.le_of_ble_eq_true rfl) ⟨by decide, by decide⟩ ⟨by show _ ≤ 600000; simp only []; omega, by show _ ≤ 7302250; simp only []; omega⟩ dL_law_747 (fun rv2 S2 k2 n2 H locs hp hM => ?_)
  obtain ⟨rfl, rfl, rfl, hp⟩ := hp
  have hJ := hJ.aR hM
  refine W.eq (g2 := F0 m 750 ls [.int rv2]) rfl ?_
  refine lv_pop hx hb dL_law_750 rfl ?_
  have hLS : LSt D s.heap x h (j + 1) H locs := ⟨S, R, u, tl, r1, mt, k, n, hJ, hI, kx, hRI, htl, ⟨by omega, by omega, hmt⟩, by omega, by omega⟩
  refine r_tightJ hJ (k0 := 71 + 63 * (j + 1)) (n0 := 93918 + 1100 * (j + 1)) (by omega) (by omega) ?_
  refine lv_goto (tgt := 1149) hx hb dL_law_751 (by decide) ?_
  exact kk _ _ hLS
set_option maxHeartbeats 4000000 in
set_option maxRecDepth 100000 in
theorem lc_learnt {p : Program} {l : Launch} {e : Env} {s : State} {m : MethodId} {below : List Frame} {meth : Method} {c : Code} {b L : Nat} {xs : Nat → Int32} {D : gD} {x h j : Nat} {H : Heap} {locs : List Loc} {ls : Array Slot} {iv : Int32} {Q : State → Prop} (C : Cx D p s m #[Value.ref b] c cL_law 4 RL) (hX : va_X b L xs s s.heap) (hbl : b < s.heap.size) (hL : L ≤ 3072) (hi : iv.toInt = 6 * j) (hj : 6 * j + 6 ≤ L) (hl : lv_has ls 4 [(0, .ref b), (1, .ref x), (2, .ref h), (3, .int iv)]) (hLS : LSt D s.heap x h j H locs)
    (kk : ∀ (H : Heap) (locs : List Loc), LSt D s.heap x h (j + 1) H locs → W p l e room_1 s m #[Value.ref b] below meth c H locs (71 + 63 * (j + 1)) (93918 + 1100 * (j + 1)) Q (F0 m 1149 ls [])) : W p l e room_1 s m #[Value.ref b] below meth c H locs (71 + 63 * j) (93918 + 1100 * j) Q (F0 m 754 ls []) := by
  obtain ⟨hx, hb, hml, hown, hts, -, -⟩ := id C
  have hbA : ¬ (fun q : Nat => s.heap.size ≤ q) b := Nat.not_le.mpr hbl
  obtain ⟨S, R, u, tl, r1, mt, k, n, hJ, hI, kx, hRI, htl, ⟨hu, hr1, hmt⟩, hk, hn⟩ := hLS
  have t_1 : (1 : Int32).toInt = 1 := by decide
  have t_2 : (2 : Int32).toInt = 2 := by decide
  have t_3 : (3 : Int32).toInt = 3 := by decide
  have t_4 : (4 : Int32).toInt = 4 := by decide
  have t_5 : (5 : Int32).toInt = 5 := by decide
  have t_0 : (0 : Int32).toInt = 0 := by decide
  refine lv_aload_n hx hb dL_law_754 rfl (lv_at hl 1 rfl) ?_
  refine r_V (As := []) (rest := []) (ci := 11) C hJ.mC (c_X11_learnt l D (bC H s.heap h) S k n x  hI kx) i_X11_learnt m_L_84 kx rfl rfl rfl hl.1 rfl (Nat.le_of_ble_eq_true rfl) ⟨by decide, by decide⟩ ⟨by show _ ≤ 600000; simp only []; omega, by show _ ≤ 7302250; simp only []; omega⟩ dL_law_755 (fun rv1 S1 k1 n1 H locs hp hM => ?_)
  have hJ := hJ.aC hM
  obtain ⟨rfl, rfl, rfl, -⟩ := hp
  refine W.eq (g2 := F0 m 758 ls [.int rv1]) rfl ?_
  refine lv_pop hx hb dL_law_758 rfl ?_
  refine lv_aload_n hx hb dL_law_759 rfl (lv_at hl 2 rfl) ?_
  refine r_V (As := []) (rest := []) (ci := 12) C hJ.mR (c_X12_learnt l D (bR H s.heap S) h R k n  hRI) i_X12_learnt m_L_87 rK0 rfl rfl rfl hl.1 rfl (Nat.le_of_ble_eq_true rfl) ⟨by decide, by decide⟩ ⟨by show _ ≤ 600000; simp only []; omega, by show _ ≤ 7302250; simp only []; omega⟩ dL_law_760 (fun rv2 S2 k2 n2 H locs hp hM => ?_)
  obtain ⟨rfl, rfl, R1, rfl, hf9, hp⟩ := hp
  have hJ := hJ.aR hM
  have hRI : RI R1 := hRI.fr hf9 (by decide)
  have htl : (rI R1 2).toInt = tl := by rw [hf9.gI 2 (by decide)]; exact htl
  refine W.eq (g2 := F0 m 763 ls [.int rv2]) rfl ?_
  refine lv_pop hx hb dL_law_763 rfl ?_
  have hLS : LSt D s.heap x h (j + 1) H locs := ⟨S, R1, u, tl, r1, mt, k, n, hJ, hI, kx, hRI, htl, ⟨by omega, by omega, hmt⟩, by omega, by omega⟩
  refine r_tightJ hJ (k0 := 71 + 63 * (j + 1)) (n0 := 93918 + 1100 * (j + 1)) (by omega) (by omega) ?_
  refine lv_goto (tgt := 1149) hx hb dL_law_764 (by decide) ?_
  exact kk _ _ hLS
set_option maxHeartbeats 4000000 in
set_option maxRecDepth 100000 in
theorem lc_seen {p : Program} {l : Launch} {e : Env} {s : State} {m : MethodId} {below : List Frame} {meth : Method} {c : Code} {b L : Nat} {xs : Nat → Int32} {D : gD} {x h j : Nat} {H : Heap} {locs : List Loc} {ls : Array Slot} {iv : Int32} {Q : State → Prop} (C : Cx D p s m #[Value.ref b] c cL_law 4 RL) (hX : va_X b L xs s s.heap) (hbl : b < s.heap.size) (hL : L ≤ 3072) (hi : iv.toInt = 6 * j) (hj : 6 * j + 6 ≤ L) (hl : lv_has ls 4 [(0, .ref b), (1, .ref x), (2, .ref h), (3, .int iv)]) (hLS : LSt D s.heap x h j H locs)
    (kk : ∀ (H : Heap) (locs : List Loc), LSt D s.heap x h (j + 1) H locs → W p l e room_1 s m #[Value.ref b] below meth c H locs (71 + 63 * (j + 1)) (93918 + 1100 * (j + 1)) Q (F0 m 1149 ls [])) : W p l e room_1 s m #[Value.ref b] below meth c H locs (71 + 63 * j) (93918 + 1100 * j) Q (F0 m 767 ls []) := by
  obtain ⟨hx, hb, hml, hown, hts, -, -⟩ := id C
  have hbA : ¬ (fun q : Nat => s.heap.size ≤ q) b := Nat.not_le.mpr hbl
  obtain ⟨S, R, u, tl, r1, mt, k, n, hJ, hI, kx, hRI, htl, ⟨hu, hr1, hmt⟩, hk, hn⟩ := hLS
  have t_1 : (1 : Int32).toInt = 1 := by decide
  have t_2 : (2 : Int32).toInt = 2 := by decide
  have t_3 : (3 : Int32).toInt = 3 := by decide
  have t_4 : (4 : Int32).toInt = 4 := by decide
  have t_5 : (5 : Int32).toInt = 5 := by decide
  have t_0 : (0 : Int32).toInt = 0 := by decide
  refine lv_aload_n hx hb dL_law_767 rfl (lv_at hl 1 rfl) ?_
  refine lv_aload_n hx hb dL_law_768 rfl (lv_at hl 0 rfl) ?_
  refine lv_iload_n hx hb dL_law_769 rfl (lv_at hl 3 rfl) ?_
  refine lv_iconst (v := 1) hx hb dL_law_770 (by decide) ?_
  refine lv_iadd hx hb dL_law_771 ?_
  refine lv_topi (fun xv1 exv1 => ?_)
  have txv1 := addI (a := iv) (b := 1) (by omega) (by omega); rw [← exv1] at txv1
  refine va_sld (A := fun q => s.heap.size ≤ q) hx hb hX hbl hbA hJ.2.2.1 (inI (by omega) (by omega)) dL_law_772 ?_
  refine lv_topi (fun yv2 eyv2 => ?_)
  refine r_V (As := [.int yv2]) (rest := []) (ci := 11) C hJ.mC (c_X11_seen l D (bC H s.heap h) S k n x yv2 hI kx) i_X11_seen m_L_88 kx rfl rfl rfl hl.1 rfl (Nat.le_of_ble_eq_true rfl) ⟨by decide, by decide⟩ ⟨by show _ ≤ 600000; simp only []; omega, by show _ ≤ 7302250; simp only []; omega⟩ dL_law_773 (fun rv3 S1 k1 n1 H locs hp hM => ?_)
  have hJ := hJ.aC hM
  obtain ⟨rfl, rfl, rfl, -⟩ := hp
  refine W.eq (g2 := F0 m 776 ls [.int rv3]) rfl ?_
  refine lv_pop hx hb dL_law_776 rfl ?_
  refine lv_aload_n hx hb dL_law_777 rfl (lv_at hl 2 rfl) ?_
  refine lv_aload_n hx hb dL_law_778 rfl (lv_at hl 0 rfl) ?_
  refine lv_iload_n hx hb dL_law_779 rfl (lv_at hl 3 rfl) ?_
  refine lv_iconst (v := 1) hx hb dL_law_780 (by decide) ?_
  refine lv_iadd hx hb dL_law_781 ?_
  rw [← exv1]
  refine va_sld (A := fun q => s.heap.size ≤ q) hx hb hX hbl hbA hJ.2.2.1 (inI (by omega) (by omega)) dL_law_782 ?_
  rw [← eyv2]
  refine r_V (As := [.int yv2]) (rest := []) (ci := 12) C hJ.mR (c_X12_seen l D (bR H s.heap S) h R k n yv2 hRI) i_X12_seen m_L_91 rK0 rfl rfl rfl hl.1 rfl (Nat.le_of_ble_eq_true rfl) ⟨by decide, by decide⟩ ⟨by show _ ≤ 600000; simp only []; omega, by show _ ≤ 7302250; simp only []; omega⟩ dL_law_783 (fun rv4 S2 k2 n2 H locs hp hM => ?_)
  obtain ⟨rfl, rfl, R1, rfl, hf9, hp⟩ := hp
  have hJ := hJ.aR hM
  have hRI : RI R1 := hRI.fr hf9 (by decide)
  have htl : (rI R1 2).toInt = tl := by rw [hf9.gI 2 (by decide)]; exact htl
  refine W.eq (g2 := F0 m 786 ls [.int rv4]) rfl ?_
  refine lv_pop hx hb dL_law_786 rfl ?_
  have hLS : LSt D s.heap x h (j + 1) H locs := ⟨S, R1, u, tl, r1, mt, k, n, hJ, hI, kx, hRI, htl, ⟨by omega, by omega, hmt⟩, by omega, by omega⟩
  refine r_tightJ hJ (k0 := 71 + 63 * (j + 1)) (n0 := 93918 + 1100 * (j + 1)) (by omega) (by omega) ?_
  refine lv_goto (tgt := 1149) hx hb dL_law_787 (by decide) ?_
  exact kk _ _ hLS
set_option maxHeartbeats 4000000 in
set_option maxRecDepth 100000 in
theorem lc_rows {p : Program} {l : Launch} {e : Env} {s : State} {m : MethodId} {below : List Frame} {meth : Method} {c : Code} {b L : Nat} {xs : Nat → Int32} {D : gD} {x h j : Nat} {H : Heap} {locs : List Loc} {ls : Array Slot} {iv : Int32} {Q : State → Prop} (C : Cx D p s m #[Value.ref b] c cL_law 4 RL) (hX : va_X b L xs s s.heap) (hbl : b < s.heap.size) (hL : L ≤ 3072) (hi : iv.toInt = 6 * j) (hj : 6 * j + 6 ≤ L) (hl : lv_has ls 4 [(0, .ref b), (1, .ref x), (2, .ref h), (3, .int iv)]) (hLS : LSt D s.heap x h j H locs)
    (kk : ∀ (H : Heap) (locs : List Loc), LSt D s.heap x h (j + 1) H locs → W p l e room_1 s m #[Value.ref b] below meth c H locs (71 + 63 * (j + 1)) (93918 + 1100 * (j + 1)) Q (F0 m 1149 ls [])) : W p l e room_1 s m #[Value.ref b] below meth c H locs (71 + 63 * j) (93918 + 1100 * j) Q (F0 m 790 ls []) := by
  obtain ⟨hx, hb, hml, hown, hts, -, -⟩ := id C
  have hbA : ¬ (fun q : Nat => s.heap.size ≤ q) b := Nat.not_le.mpr hbl
  obtain ⟨S, R, u, tl, r1, mt, k, n, hJ, hI, kx, hRI, htl, ⟨hu, hr1, hmt⟩, hk, hn⟩ := hLS
  have t_1 : (1 : Int32).toInt = 1 := by decide
  have t_2 : (2 : Int32).toInt = 2 := by decide
  have t_3 : (3 : Int32).toInt = 3 := by decide
  have t_4 : (4 : Int32).toInt = 4 := by decide
  have t_5 : (5 : Int32).toInt = 5 := by decide
  have t_0 : (0 : Int32).toInt = 0 := by decide
  refine lv_aload_n hx hb dL_law_790 rfl (lv_at hl 1 rfl) ?_
  refine lv_aload_n hx hb dL_law_791 rfl (lv_at hl 0 rfl) ?_
  refine lv_iload_n hx hb dL_law_792 rfl (lv_at hl 3 rfl) ?_
  refine lv_iconst (v := 1) hx hb dL_law_793 (by decide) ?_
  refine lv_iadd hx hb dL_law_794 ?_
  refine lv_topi (fun xv1 exv1 => ?_)
  have txv1 := addI (a := iv) (b := 1) (by omega) (by omega); rw [← exv1] at txv1
  refine va_sld (A := fun q => s.heap.size ≤ q) hx hb hX hbl hbA hJ.2.2.1 (inI (by omega) (by omega)) dL_law_795 ?_
  refine lv_topi (fun yv2 eyv2 => ?_)
  refine lv_aload_n hx hb dL_law_796 rfl (lv_at hl 0 rfl) ?_
  refine lv_iload_n hx hb dL_law_797 rfl (lv_at hl 3 rfl) ?_
  refine lv_iconst (v := 2) hx hb dL_law_798 (by decide) ?_
  refine lv_iadd hx hb dL_law_799 ?_
  refine lv_topi (fun xv3 exv3 => ?_)
  have txv3 := addI (a := iv) (b := 2) (by omega) (by omega); rw [← exv3] at txv3
  refine va_sld (A := fun q => s.heap.size ≤ q) hx hb hX hbl hbA hJ.2.2.1 (inI (by omega) (by omega)) dL_law_800 ?_
  refine lv_topi (fun yv4 eyv4 => ?_)
  refine lv_aload_n hx hb dL_law_801 rfl (lv_at hl 0 rfl) ?_
  refine lv_iload_n hx hb dL_law_802 rfl (lv_at hl 3 rfl) ?_
  refine lv_iconst (v := 3) hx hb dL_law_803 (by decide) ?_
  refine lv_iadd hx hb dL_law_804 ?_
  refine lv_topi (fun xv5 exv5 => ?_)
  have txv5 := addI (a := iv) (b := 3) (by omega) (by omega); rw [← exv5] at txv5
  refine va_sld (A := fun q => s.heap.size ≤ q) hx hb hX hbl hbA hJ.2.2.1 (inI (by omega) (by omega)) dL_law_805 ?_
  refine lv_topi (fun yv6 eyv6 => ?_)
  refine lv_aload_n hx hb dL_law_806 rfl (lv_at hl 0 rfl) ?_
  refine lv_iload_n hx hb dL_law_807 rfl (lv_at hl 3 rfl) ?_
  refine lv_iconst (v := 4) hx hb dL_law_808 (by decide) ?_
  refine lv_iadd hx hb dL_law_809 ?_
  refine lv_topi (fun xv7 exv7 => ?_)
  have txv7 := addI (a := iv) (b := 4) (by omega) (by omega); rw [← exv7] at txv7
  refine va_sld (A := fun q => s.heap.size ≤ q) hx hb hX hbl hbA hJ.2.2.1 (inI (by omega) (by omega)) dL_law_810 ?_
  refine lv_topi (fun yv8 eyv8 => ?_)
  refine r_V (As := [.int yv2, .int yv4, .int yv6, .int yv8]) (rest := []) (ci := 11) C hJ.mC (c_X11_rows l D (bC H s.heap h) S k n x yv2 yv4 yv6 yv8 hI kx) i_X11_rows m_L_92 kx rfl rfl rfl hl.1 rfl (Nat.le_of_ble_eq_true rfl) ⟨by decide, by decide⟩ ⟨by show _ ≤ 600000; simp only []; omega, by show _ ≤ 7302250; simp only []; omega⟩ dL_law_811 (fun rv9 S1 k1 n1 H locs hp hM => ?_)
  have hJ := hJ.aC hM
  obtain ⟨hk1, hn1, hX9, hI, -⟩ := hp
  have kx : mK S1 x = 12 := hX9.k kx
  refine W.eq (g2 := F0 m 814 ls [.int rv9]) rfl ?_
  refine lv_pop hx hb dL_law_814 rfl ?_
  refine lv_aload_n hx hb dL_law_815 rfl (lv_at hl 2 rfl) ?_
  refine lv_aload_n hx hb dL_law_816 rfl (lv_at hl 0 rfl) ?_
  refine lv_iload_n hx hb dL_law_817 rfl (lv_at hl 3 rfl) ?_
  refine lv_iconst (v := 1) hx hb dL_law_818 (by decide) ?_
  refine lv_iadd hx hb dL_law_819 ?_
  rw [← exv1]
  refine va_sld (A := fun q => s.heap.size ≤ q) hx hb hX hbl hbA hJ.2.2.1 (inI (by omega) (by omega)) dL_law_820 ?_
  rw [← eyv2]
  refine lv_aload_n hx hb dL_law_821 rfl (lv_at hl 0 rfl) ?_
  refine lv_iload_n hx hb dL_law_822 rfl (lv_at hl 3 rfl) ?_
  refine lv_iconst (v := 2) hx hb dL_law_823 (by decide) ?_
  refine lv_iadd hx hb dL_law_824 ?_
  rw [← exv3]
  refine va_sld (A := fun q => s.heap.size ≤ q) hx hb hX hbl hbA hJ.2.2.1 (inI (by omega) (by omega)) dL_law_825 ?_
  rw [← eyv4]
  refine lv_aload_n hx hb dL_law_826 rfl (lv_at hl 0 rfl) ?_
  refine lv_iload_n hx hb dL_law_827 rfl (lv_at hl 3 rfl) ?_
  refine lv_iconst (v := 3) hx hb dL_law_828 (by decide) ?_
  refine lv_iadd hx hb dL_law_829 ?_
  rw [← exv5]
  refine va_sld (A := fun q => s.heap.size ≤ q) hx hb hX hbl hbA hJ.2.2.1 (inI (by omega) (by omega)) dL_law_830 ?_
  rw [← eyv6]
  refine lv_aload_n hx hb dL_law_831 rfl (lv_at hl 0 rfl) ?_
  refine lv_iload_n hx hb dL_law_832 rfl (lv_at hl 3 rfl) ?_
  refine lv_iconst (v := 4) hx hb dL_law_833 (by decide) ?_
  refine lv_iadd hx hb dL_law_834 ?_
  rw [← exv7]
  refine va_sld (A := fun q => s.heap.size ≤ q) hx hb hX hbl hbA hJ.2.2.1 (inI (by omega) (by omega)) dL_law_835 ?_
  rw [← eyv8]
  refine r_V (As := [.int yv2, .int yv4, .int yv6, .int yv8]) (rest := []) (ci := 12) C hJ.mR (c_X12_rows l D (bR H s.heap S1) h R k1 n1 yv2 yv4 yv6 yv8 hRI) i_X12_rows m_L_95 rK0 rfl rfl rfl hl.1 rfl (Nat.le_of_ble_eq_true rfl) ⟨by decide, by decide⟩ ⟨by show _ ≤ 600000; simp only []; omega, by show _ ≤ 7302250; simp only []; omega⟩ dL_law_836 (fun rv10 S2 k2 n2 H locs hp hM => ?_)
  obtain ⟨rfl, rfl, R1, rfl, hf9, hp⟩ := hp
  have hJ := hJ.aR hM
  obtain ⟨hRI, hq9⟩ := hp
  have htl : (rI R1 2).toInt = tl := by rw [hf9.gI 2 (by decide)]; exact htl
  refine W.eq (g2 := F0 m 839 ls [.int rv10]) rfl ?_
  refine lv_pop hx hb dL_law_839 rfl ?_
  have hLS : LSt D s.heap x h (j + 1) H locs := ⟨S1, R1, u, tl, r1, mt, k1, n1, hJ, hI, kx, hRI, htl, ⟨by omega, by omega, hmt⟩, by omega, by omega⟩
  refine r_tightJ hJ (k0 := 71 + 63 * (j + 1)) (n0 := 93918 + 1100 * (j + 1)) (by omega) (by omega) ?_
  refine lv_goto (tgt := 1149) hx hb dL_law_840 (by decide) ?_
  exact kk _ _ hLS
set_option maxHeartbeats 4000000 in
set_option maxRecDepth 100000 in
theorem lc_row {p : Program} {l : Launch} {e : Env} {s : State} {m : MethodId} {below : List Frame} {meth : Method} {c : Code} {b L : Nat} {xs : Nat → Int32} {D : gD} {x h j : Nat} {H : Heap} {locs : List Loc} {ls : Array Slot} {iv : Int32} {Q : State → Prop} (C : Cx D p s m #[Value.ref b] c cL_law 4 RL) (hX : va_X b L xs s s.heap) (hbl : b < s.heap.size) (hL : L ≤ 3072) (hi : iv.toInt = 6 * j) (hj : 6 * j + 6 ≤ L) (hl : lv_has ls 4 [(0, .ref b), (1, .ref x), (2, .ref h), (3, .int iv)]) (hLS : LSt D s.heap x h j H locs)
    (kk : ∀ (H : Heap) (locs : List Loc), LSt D s.heap x h (j + 1) H locs → W p l e room_1 s m #[Value.ref b] below meth c H locs (71 + 63 * (j + 1)) (93918 + 1100 * (j + 1)) Q (F0 m 1149 ls [])) : W p l e room_1 s m #[Value.ref b] below meth c H locs (71 + 63 * j) (93918 + 1100 * j) Q (F0 m 843 ls []) := by
  obtain ⟨hx, hb, hml, hown, hts, -, -⟩ := id C
  have hbA : ¬ (fun q : Nat => s.heap.size ≤ q) b := Nat.not_le.mpr hbl
  obtain ⟨S, R, u, tl, r1, mt, k, n, hJ, hI, kx, hRI, htl, ⟨hu, hr1, hmt⟩, hk, hn⟩ := hLS
  have t_1 : (1 : Int32).toInt = 1 := by decide
  have t_2 : (2 : Int32).toInt = 2 := by decide
  have t_3 : (3 : Int32).toInt = 3 := by decide
  have t_4 : (4 : Int32).toInt = 4 := by decide
  have t_5 : (5 : Int32).toInt = 5 := by decide
  have t_0 : (0 : Int32).toInt = 0 := by decide
  refine lv_aload_n hx hb dL_law_843 rfl (lv_at hl 1 rfl) ?_
  refine lv_aload_n hx hb dL_law_844 rfl (lv_at hl 0 rfl) ?_
  refine lv_iload_n hx hb dL_law_845 rfl (lv_at hl 3 rfl) ?_
  refine lv_iconst (v := 1) hx hb dL_law_846 (by decide) ?_
  refine lv_iadd hx hb dL_law_847 ?_
  refine lv_topi (fun xv1 exv1 => ?_)
  have txv1 := addI (a := iv) (b := 1) (by omega) (by omega); rw [← exv1] at txv1
  refine va_sld (A := fun q => s.heap.size ≤ q) hx hb hX hbl hbA hJ.2.2.1 (inI (by omega) (by omega)) dL_law_848 ?_
  refine lv_topi (fun yv2 eyv2 => ?_)
  refine lv_aload_n hx hb dL_law_849 rfl (lv_at hl 0 rfl) ?_
  refine lv_iload_n hx hb dL_law_850 rfl (lv_at hl 3 rfl) ?_
  refine lv_iconst (v := 2) hx hb dL_law_851 (by decide) ?_
  refine lv_iadd hx hb dL_law_852 ?_
  refine lv_topi (fun xv3 exv3 => ?_)
  have txv3 := addI (a := iv) (b := 2) (by omega) (by omega); rw [← exv3] at txv3
  refine va_sld (A := fun q => s.heap.size ≤ q) hx hb hX hbl hbA hJ.2.2.1 (inI (by omega) (by omega)) dL_law_853 ?_
  refine lv_topi (fun yv4 eyv4 => ?_)
  refine lv_aload_n hx hb dL_law_854 rfl (lv_at hl 0 rfl) ?_
  refine lv_iload_n hx hb dL_law_855 rfl (lv_at hl 3 rfl) ?_
  refine lv_iconst (v := 3) hx hb dL_law_856 (by decide) ?_
  refine lv_iadd hx hb dL_law_857 ?_
  refine lv_topi (fun xv5 exv5 => ?_)
  have txv5 := addI (a := iv) (b := 3) (by omega) (by omega); rw [← exv5] at txv5
  refine va_sld (A := fun q => s.heap.size ≤ q) hx hb hX hbl hbA hJ.2.2.1 (inI (by omega) (by omega)) dL_law_858 ?_
  refine lv_topi (fun yv6 eyv6 => ?_)
  refine lv_aload_n hx hb dL_law_859 rfl (lv_at hl 0 rfl) ?_
  refine lv_iload_n hx hb dL_law_860 rfl (lv_at hl 3 rfl) ?_
  refine lv_iconst (v := 4) hx hb dL_law_861 (by decide) ?_
  refine lv_iadd hx hb dL_law_862 ?_
  refine lv_topi (fun xv7 exv7 => ?_)
  have txv7 := addI (a := iv) (b := 4) (by omega) (by omega); rw [← exv7] at txv7
  refine va_sld (A := fun q => s.heap.size ≤ q) hx hb hX hbl hbA hJ.2.2.1 (inI (by omega) (by omega)) dL_law_863 ?_
  refine lv_topi (fun yv8 eyv8 => ?_)
  refine lv_aload_n hx hb dL_law_864 rfl (lv_at hl 0 rfl) ?_
  refine lv_iload_n hx hb dL_law_865 rfl (lv_at hl 3 rfl) ?_
  refine lv_iconst (v := 5) hx hb dL_law_866 (by decide) ?_
  refine lv_iadd hx hb dL_law_867 ?_
  refine lv_topi (fun xv9 exv9 => ?_)
  have txv9 := addI (a := iv) (b := 5) (by omega) (by omega); rw [← exv9] at txv9
  refine va_sld (A := fun q => s.heap.size ≤ q) hx hb hX hbl hbA hJ.2.2.1 (inI (by omega) (by omega)) dL_law_868 ?_
  refine lv_topi (fun yv10 eyv10 => ?_)
  refine r_V (As := [.int yv2, .int yv4, .int yv6, .int yv8, .int yv10]) (rest := []) (ci := 11) C hJ.mC (c_X11_row l D (bC H s.heap h) S k n x yv2 yv4 yv6 yv8 yv10 hI kx) i_X11_row m_L_96 kx rfl rfl rfl hl.1 rfl (Nat.le_of_ble_eq_true rfl) ⟨by decide, by decide⟩ ⟨by show _ ≤ 600000; simp only []; omega, by show _ ≤ 7302250; simp only []; omega⟩ dL_law_869 (fun rv11 S1 k1 n1 H locs hp hM => ?_)
  have hJ := hJ.aC hM
  obtain ⟨hk1, hn1, hX9, hI, -⟩ := hp
  have kx : mK S1 x = 12 := hX9.k kx
  refine W.eq (g2 := F0 m 872 ls [.int rv11]) rfl ?_
  refine lv_pop hx hb dL_law_872 rfl ?_
  refine lv_aload_n hx hb dL_law_873 rfl (lv_at hl 2 rfl) ?_
  refine lv_aload_n hx hb dL_law_874 rfl (lv_at hl 0 rfl) ?_
  refine lv_iload_n hx hb dL_law_875 rfl (lv_at hl 3 rfl) ?_
  refine lv_iconst (v := 1) hx hb dL_law_876 (by decide) ?_
  refine lv_iadd hx hb dL_law_877 ?_
  rw [← exv1]
  refine va_sld (A := fun q => s.heap.size ≤ q) hx hb hX hbl hbA hJ.2.2.1 (inI (by omega) (by omega)) dL_law_878 ?_
  rw [← eyv2]
  refine lv_aload_n hx hb dL_law_879 rfl (lv_at hl 0 rfl) ?_
  refine lv_iload_n hx hb dL_law_880 rfl (lv_at hl 3 rfl) ?_
  refine lv_iconst (v := 2) hx hb dL_law_881 (by decide) ?_
  refine lv_iadd hx hb dL_law_882 ?_
  rw [← exv3]
  refine va_sld (A := fun q => s.heap.size ≤ q) hx hb hX hbl hbA hJ.2.2.1 (inI (by omega) (by omega)) dL_law_883 ?_
  rw [← eyv4]
  refine lv_aload_n hx hb dL_law_884 rfl (lv_at hl 0 rfl) ?_
  refine lv_iload_n hx hb dL_law_885 rfl (lv_at hl 3 rfl) ?_
  refine lv_iconst (v := 3) hx hb dL_law_886 (by decide) ?_
  refine lv_iadd hx hb dL_law_887 ?_
  rw [← exv5]
  refine va_sld (A := fun q => s.heap.size ≤ q) hx hb hX hbl hbA hJ.2.2.1 (inI (by omega) (by omega)) dL_law_888 ?_
  rw [← eyv6]
  refine lv_aload_n hx hb dL_law_889 rfl (lv_at hl 0 rfl) ?_
  refine lv_iload_n hx hb dL_law_890 rfl (lv_at hl 3 rfl) ?_
  refine lv_iconst (v := 4) hx hb dL_law_891 (by decide) ?_
  refine lv_iadd hx hb dL_law_892 ?_
  rw [← exv7]
  refine va_sld (A := fun q => s.heap.size ≤ q) hx hb hX hbl hbA hJ.2.2.1 (inI (by omega) (by omega)) dL_law_893 ?_
  rw [← eyv8]
  refine lv_aload_n hx hb dL_law_894 rfl (lv_at hl 0 rfl) ?_
  refine lv_iload_n hx hb dL_law_895 rfl (lv_at hl 3 rfl) ?_
  refine lv_iconst (v := 5) hx hb dL_law_896 (by decide) ?_
  refine lv_iadd hx hb dL_law_897 ?_
  rw [← exv9]
  refine va_sld (A := fun q => s.heap.size ≤ q) hx hb hX hbl hbA hJ.2.2.1 (inI (by omega) (by omega)) dL_law_898 ?_
  rw [← eyv10]
  refine r_V (As := [.int yv2, .int yv4, .int yv6, .int yv8, .int yv10]) (rest := []) (ci := 12) C hJ.mR (c_X12_row l D (bR H s.heap S1) h R k1 n1 yv2 yv4 yv6 yv8 yv10 hRI) i_X12_row m_L_99 rK0 rfl rfl rfl hl.1 rfl (Nat.le_of_ble_eq_true rfl) ⟨by decide, by decide⟩ ⟨by show _ ≤ 600000; simp only []; omega, by show _ ≤ 7302250; simp only []; omega⟩ dL_law_899 (fun rv12 S2 k2 n2 H locs hp hM => ?_)
  obtain ⟨rfl, rfl, R1, rfl, hf9, hp⟩ := hp
  have hJ := hJ.aR hM
  have hRI := hp
  have htl : (rI R1 2).toInt = tl := by rw [hf9.gI 2 (by decide)]; exact htl
  refine W.eq (g2 := F0 m 902 ls [.int rv12]) rfl ?_
  refine lv_pop hx hb dL_law_902 rfl ?_
  have hLS : LSt D s.heap x h (j + 1) H locs := ⟨S1, R1, u, tl, r1, mt, k1, n1, hJ, hI, kx, hRI, htl, ⟨by omega, by omega, hmt⟩, by omega, by omega⟩
  refine r_tightJ hJ (k0 := 71 + 63 * (j + 1)) (n0 := 93918 + 1100 * (j + 1)) (by omega) (by omega) ?_
  refine lv_goto (tgt := 1149) hx hb dL_law_903 (by decide) ?_
  exact kk _ _ hLS
set_option maxHeartbeats 4000000 in
set_option maxRecDepth 100000 in
theorem lc_act {p : Program} {l : Launch} {e : Env} {s : State} {m : MethodId} {below : List Frame} {meth : Method} {c : Code} {b L : Nat} {xs : Nat → Int32} {D : gD} {x h j : Nat} {H : Heap} {locs : List Loc} {ls : Array Slot} {iv : Int32} {Q : State → Prop} (C : Cx D p s m #[Value.ref b] c cL_law 4 RL) (hX : va_X b L xs s s.heap) (hbl : b < s.heap.size) (hL : L ≤ 3072) (hi : iv.toInt = 6 * j) (hj : 6 * j + 6 ≤ L) (hl : lv_has ls 4 [(0, .ref b), (1, .ref x), (2, .ref h), (3, .int iv)]) (hLS : LSt D s.heap x h j H locs)
    (kk : ∀ (H : Heap) (locs : List Loc), LSt D s.heap x h (j + 1) H locs → W p l e room_1 s m #[Value.ref b] below meth c H locs (71 + 63 * (j + 1)) (93918 + 1100 * (j + 1)) Q (F0 m 1149 ls [])) : W p l e room_1 s m #[Value.ref b] below meth c H locs (71 + 63 * j) (93918 + 1100 * j) Q (F0 m 906 ls []) := by
  obtain ⟨hx, hb, hml, hown, hts, -, -⟩ := id C
  have hbA : ¬ (fun q : Nat => s.heap.size ≤ q) b := Nat.not_le.mpr hbl
  obtain ⟨S, R, u, tl, r1, mt, k, n, hJ, hI, kx, hRI, htl, ⟨hu, hr1, hmt⟩, hk, hn⟩ := hLS
  have t_1 : (1 : Int32).toInt = 1 := by decide
  have t_2 : (2 : Int32).toInt = 2 := by decide
  have t_3 : (3 : Int32).toInt = 3 := by decide
  have t_4 : (4 : Int32).toInt = 4 := by decide
  have t_5 : (5 : Int32).toInt = 5 := by decide
  have t_0 : (0 : Int32).toInt = 0 := by decide
  refine lv_aload_n hx hb dL_law_906 rfl (lv_at hl 1 rfl) ?_
  refine lv_aload_n hx hb dL_law_907 rfl (lv_at hl 0 rfl) ?_
  refine lv_iload_n hx hb dL_law_908 rfl (lv_at hl 3 rfl) ?_
  refine lv_iconst (v := 1) hx hb dL_law_909 (by decide) ?_
  refine lv_iadd hx hb dL_law_910 ?_
  refine lv_topi (fun xv1 exv1 => ?_)
  have txv1 := addI (a := iv) (b := 1) (by omega) (by omega); rw [← exv1] at txv1
  refine va_sld (A := fun q => s.heap.size ≤ q) hx hb hX hbl hbA hJ.2.2.1 (inI (by omega) (by omega)) dL_law_911 ?_
  refine lv_topi (fun yv2 eyv2 => ?_)
  refine lv_if_eq (tgt := 919) hx hb dL_law_912 (by decide) (fun c9 => ?_) (fun c9 => ?_)
  · have hz0 : (0 : Int32) = 0 ∨ (0 : Int32) = 1 := by decide
    refine lv_iconst (v := 0) hx hb dL_law_919 (by decide) ?_
    refine lv_aload_n hx hb dL_law_920 rfl (lv_at hl 0 rfl) ?_
    refine lv_iload_n hx hb dL_law_921 rfl (lv_at hl 3 rfl) ?_
    refine lv_iconst (v := 2) hx hb dL_law_922 (by decide) ?_
    refine lv_iadd hx hb dL_law_923 ?_
    refine lv_topi (fun xv3 exv3 => ?_)
    have txv3 := addI (a := iv) (b := 2) (by omega) (by omega); rw [← exv3] at txv3
    refine va_sld (A := fun q => s.heap.size ≤ q) hx hb hX hbl hbA hJ.2.2.1 (inI (by omega) (by omega)) dL_law_924 ?_
    refine lv_topi (fun yv4 eyv4 => ?_)
    refine lv_aload_n hx hb dL_law_925 rfl (lv_at hl 0 rfl) ?_
    refine lv_iload_n hx hb dL_law_926 rfl (lv_at hl 3 rfl) ?_
    refine lv_iconst (v := 3) hx hb dL_law_927 (by decide) ?_
    refine lv_iadd hx hb dL_law_928 ?_
    refine lv_topi (fun xv5 exv5 => ?_)
    have txv5 := addI (a := iv) (b := 3) (by omega) (by omega); rw [← exv5] at txv5
    refine va_sld (A := fun q => s.heap.size ≤ q) hx hb hX hbl hbA hJ.2.2.1 (inI (by omega) (by omega)) dL_law_929 ?_
    refine lv_topi (fun yv6 eyv6 => ?_)
    refine r_V (As := [.int 0, .int yv4, .int yv6]) (rest := []) (ci := 11) C hJ.mC (c_X11_act l D (bC H s.heap h) S k n x 0 yv4 yv6 hI kx hz0) i_X11_act m_L_100 kx rfl rfl rfl hl.1 rfl (Nat.le_of_ble_eq_true rfl) ⟨by decide, by decide⟩ ⟨by show _ ≤ 600000; simp only []; omega, by show _ ≤ 7302250; simp only []; omega⟩ dL_law_930 (fun rv7 S1 k1 n1 H locs hp hM => ?_)
    have hJ := hJ.aC hM
    obtain ⟨hk1, hn1, hX9, hI, -⟩ := hp
    have kx : mK S1 x = 12 := hX9.k kx
    refine W.eq (g2 := F0 m 933 ls [.int rv7]) rfl ?_
    refine lv_pop hx hb dL_law_933 rfl ?_
    refine lv_aload_n hx hb dL_law_934 rfl (lv_at hl 2 rfl) ?_
    refine lv_aload_n hx hb dL_law_935 rfl (lv_at hl 0 rfl) ?_
    refine lv_iload_n hx hb dL_law_936 rfl (lv_at hl 3 rfl) ?_
    refine lv_iconst (v := 1) hx hb dL_law_937 (by decide) ?_
    refine lv_iadd hx hb dL_law_938 ?_
    rw [← exv1]
    refine va_sld (A := fun q => s.heap.size ≤ q) hx hb hX hbl hbA hJ.2.2.1 (inI (by omega) (by omega)) dL_law_939 ?_
    rw [← eyv2]
    refine lv_if_eq (tgt := 947) hx hb dL_law_940 (by decide) (fun _ => ?_) (fun c8 => absurd c9 c8)
    refine lv_iconst (v := 0) hx hb dL_law_947 (by decide) ?_
    refine lv_aload_n hx hb dL_law_948 rfl (lv_at hl 0 rfl) ?_
    refine lv_iload_n hx hb dL_law_949 rfl (lv_at hl 3 rfl) ?_
    refine lv_iconst (v := 2) hx hb dL_law_950 (by decide) ?_
    refine lv_iadd hx hb dL_law_951 ?_
    rw [← exv3]
    refine va_sld (A := fun q => s.heap.size ≤ q) hx hb hX hbl hbA hJ.2.2.1 (inI (by omega) (by omega)) dL_law_952 ?_
    rw [← eyv4]
    refine lv_aload_n hx hb dL_law_953 rfl (lv_at hl 0 rfl) ?_
    refine lv_iload_n hx hb dL_law_954 rfl (lv_at hl 3 rfl) ?_
    refine lv_iconst (v := 3) hx hb dL_law_955 (by decide) ?_
    refine lv_iadd hx hb dL_law_956 ?_
    rw [← exv5]
    refine va_sld (A := fun q => s.heap.size ≤ q) hx hb hX hbl hbA hJ.2.2.1 (inI (by omega) (by omega)) dL_law_957 ?_
    rw [← eyv6]
    refine r_V (As := [.int 0, .int yv4, .int yv6]) (rest := []) (ci := 12) C hJ.mR (c_X12_act l D (bR H s.heap S1) h R k1 n1 0 yv4 yv6 hRI) i_X12_act m_L_104 rK0 rfl rfl rfl hl.1 rfl (Nat.le_of_ble_eq_true rfl) ⟨by decide, by decide⟩ ⟨by show _ ≤ 600000; simp only []; omega, by show _ ≤ 7302250; simp only []; omega⟩ dL_law_958 (fun rv8 S2 k2 n2 H locs hp hM => ?_)
    obtain ⟨rfl, rfl, R1, rfl, hf9, hp⟩ := hp
    have hJ := hJ.aR hM
    have hRI := hp
    have htl : (rI R1 2).toInt = tl := by rw [hf9.gI 2 (by decide)]; exact htl
    refine W.eq (g2 := F0 m 961 ls [.int rv8]) rfl ?_
    refine lv_pop hx hb dL_law_961 rfl ?_
    have hLS : LSt D s.heap x h (j + 1) H locs := ⟨S1, R1, u, tl, r1, mt, k1, n1, hJ, hI, kx, hRI, htl, ⟨by omega, by omega, hmt⟩, by omega, by omega⟩
    refine r_tightJ hJ (k0 := 71 + 63 * (j + 1)) (n0 := 93918 + 1100 * (j + 1)) (by omega) (by omega) ?_
    refine lv_goto (tgt := 1149) hx hb dL_law_962 (by decide) ?_
    exact kk _ _ hLS
  · have hz1 : (1 : Int32) = 0 ∨ (1 : Int32) = 1 := by decide
    refine lv_iconst (v := 1) hx hb dL_law_915 (by decide) ?_
    refine lv_goto (tgt := 920) hx hb dL_law_916 (by decide) ?_
    refine lv_aload_n hx hb dL_law_920 rfl (lv_at hl 0 rfl) ?_
    refine lv_iload_n hx hb dL_law_921 rfl (lv_at hl 3 rfl) ?_
    refine lv_iconst (v := 2) hx hb dL_law_922 (by decide) ?_
    refine lv_iadd hx hb dL_law_923 ?_
    refine lv_topi (fun xv9 exv9 => ?_)
    have txv9 := addI (a := iv) (b := 2) (by omega) (by omega); rw [← exv9] at txv9
    refine va_sld (A := fun q => s.heap.size ≤ q) hx hb hX hbl hbA hJ.2.2.1 (inI (by omega) (by omega)) dL_law_924 ?_
    refine lv_topi (fun yv10 eyv10 => ?_)
    refine lv_aload_n hx hb dL_law_925 rfl (lv_at hl 0 rfl) ?_
    refine lv_iload_n hx hb dL_law_926 rfl (lv_at hl 3 rfl) ?_
    refine lv_iconst (v := 3) hx hb dL_law_927 (by decide) ?_
    refine lv_iadd hx hb dL_law_928 ?_
    refine lv_topi (fun xv11 exv11 => ?_)
    have txv11 := addI (a := iv) (b := 3) (by omega) (by omega); rw [← exv11] at txv11
    refine va_sld (A := fun q => s.heap.size ≤ q) hx hb hX hbl hbA hJ.2.2.1 (inI (by omega) (by omega)) dL_law_929 ?_
    refine lv_topi (fun yv12 eyv12 => ?_)
    refine r_V (As := [.int 1, .int yv10, .int yv12]) (rest := []) (ci := 11) C hJ.mC (c_X11_act l D (bC H s.heap h) S k n x 1 yv10 yv12 hI kx hz1) i_X11_act m_L_100 kx rfl rfl rfl hl.1 rfl (Nat.le_of_ble_eq_true rfl) ⟨by decide, by decide⟩ ⟨by show _ ≤ 600000; simp only []; omega, by show _ ≤ 7302250; simp only []; omega⟩ dL_law_930 (fun rv13 S1 k1 n1 H locs hp hM => ?_)
    have hJ := hJ.aC hM
    obtain ⟨hk1, hn1, hX9, hI, -⟩ := hp
    have kx : mK S1 x = 12 := hX9.k kx
    refine W.eq (g2 := F0 m 933 ls [.int rv13]) rfl ?_
    refine lv_pop hx hb dL_law_933 rfl ?_
    refine lv_aload_n hx hb dL_law_934 rfl (lv_at hl 2 rfl) ?_
    refine lv_aload_n hx hb dL_law_935 rfl (lv_at hl 0 rfl) ?_
    refine lv_iload_n hx hb dL_law_936 rfl (lv_at hl 3 rfl) ?_
    refine lv_iconst (v := 1) hx hb dL_law_937 (by decide) ?_
    refine lv_iadd hx hb dL_law_938 ?_
    rw [← exv1]
    refine va_sld (A := fun q => s.heap.size ≤ q) hx hb hX hbl hbA hJ.2.2.1 (inI (by omega) (by omega)) dL_law_939 ?_
    rw [← eyv2]
    refine lv_if_eq (tgt := 947) hx hb dL_law_940 (by decide) (fun c8 => absurd c8 c9) (fun _ => ?_)
    refine lv_iconst (v := 1) hx hb dL_law_943 (by decide) ?_
    refine lv_goto (tgt := 948) hx hb dL_law_944 (by decide) ?_
    refine lv_aload_n hx hb dL_law_948 rfl (lv_at hl 0 rfl) ?_
    refine lv_iload_n hx hb dL_law_949 rfl (lv_at hl 3 rfl) ?_
    refine lv_iconst (v := 2) hx hb dL_law_950 (by decide) ?_
    refine lv_iadd hx hb dL_law_951 ?_
    rw [← exv9]
    refine va_sld (A := fun q => s.heap.size ≤ q) hx hb hX hbl hbA hJ.2.2.1 (inI (by omega) (by omega)) dL_law_952 ?_
    rw [← eyv10]
    refine lv_aload_n hx hb dL_law_953 rfl (lv_at hl 0 rfl) ?_
    refine lv_iload_n hx hb dL_law_954 rfl (lv_at hl 3 rfl) ?_
    refine lv_iconst (v := 3) hx hb dL_law_955 (by decide) ?_
    refine lv_iadd hx hb dL_law_956 ?_
    rw [← exv11]
    refine va_sld (A := fun q => s.heap.size ≤ q) hx hb hX hbl hbA hJ.2.2.1 (inI (by omega) (by omega)) dL_law_957 ?_
    rw [← eyv12]
    refine r_V (As := [.int 1, .int yv10, .int yv12]) (rest := []) (ci := 12) C hJ.mR (c_X12_act l D (bR H s.heap S1) h R k1 n1 1 yv10 yv12 hRI) i_X12_act m_L_104 rK0 rfl rfl rfl hl.1 rfl (Nat.le_of_ble_eq_true rfl) ⟨by decide, by decide⟩ ⟨by show _ ≤ 600000; simp only []; omega, by show _ ≤ 7302250; simp only []; omega⟩ dL_law_958 (fun rv14 S2 k2 n2 H locs hp hM => ?_)
    obtain ⟨rfl, rfl, R1, rfl, hf9, hp⟩ := hp
    have hJ := hJ.aR hM
    have hRI := hp
    have htl : (rI R1 2).toInt = tl := by rw [hf9.gI 2 (by decide)]; exact htl
    refine W.eq (g2 := F0 m 961 ls [.int rv14]) rfl ?_
    refine lv_pop hx hb dL_law_961 rfl ?_
    have hLS : LSt D s.heap x h (j + 1) H locs := ⟨S1, R1, u, tl, r1, mt, k1, n1, hJ, hI, kx, hRI, htl, ⟨by omega, by omega, hmt⟩, by omega, by omega⟩
    refine r_tightJ hJ (k0 := 71 + 63 * (j + 1)) (n0 := 93918 + 1100 * (j + 1)) (by omega) (by omega) ?_
    refine lv_goto (tgt := 1149) hx hb dL_law_962 (by decide) ?_
    exact kk _ _ hLS
set_option maxHeartbeats 4000000 in
set_option maxRecDepth 100000 in
theorem lc_loop {p : Program} {l : Launch} {e : Env} {s : State} {m : MethodId} {below : List Frame} {meth : Method} {c : Code} {b L : Nat} {xs : Nat → Int32} {D : gD} {x h j : Nat} {H : Heap} {locs : List Loc} {ls : Array Slot} {iv : Int32} {Q : State → Prop} (C : Cx D p s m #[Value.ref b] c cL_law 4 RL) (hX : va_X b L xs s s.heap) (hbl : b < s.heap.size) (hL : L ≤ 3072) (hi : iv.toInt = 6 * j) (hj : 6 * j + 6 ≤ L) (hl : lv_has ls 4 [(0, .ref b), (1, .ref x), (2, .ref h), (3, .int iv)]) (hLS : LSt D s.heap x h j H locs)
    (kk : ∀ (H : Heap) (locs : List Loc), LSt D s.heap x h (j + 1) H locs → W p l e room_1 s m #[Value.ref b] below meth c H locs (71 + 63 * (j + 1)) (93918 + 1100 * (j + 1)) Q (F0 m 1149 ls [])) : W p l e room_1 s m #[Value.ref b] below meth c H locs (71 + 63 * j) (93918 + 1100 * j) Q (F0 m 965 ls []) := by
  obtain ⟨hx, hb, hml, hown, hts, -, -⟩ := id C
  have hbA : ¬ (fun q : Nat => s.heap.size ≤ q) b := Nat.not_le.mpr hbl
  obtain ⟨S, R, u, tl, r1, mt, k, n, hJ, hI, kx, hRI, htl, ⟨hu, hr1, hmt⟩, hk, hn⟩ := hLS
  have t_1 : (1 : Int32).toInt = 1 := by decide
  have t_2 : (2 : Int32).toInt = 2 := by decide
  have t_3 : (3 : Int32).toInt = 3 := by decide
  have t_4 : (4 : Int32).toInt = 4 := by decide
  have t_5 : (5 : Int32).toInt = 5 := by decide
  have t_0 : (0 : Int32).toInt = 0 := by decide
  refine lv_aload_n hx hb dL_law_965 rfl (lv_at hl 1 rfl) ?_
  refine lv_aload_n hx hb dL_law_966 rfl (lv_at hl 0 rfl) ?_
  refine lv_iload_n hx hb dL_law_967 rfl (lv_at hl 3 rfl) ?_
  refine lv_iconst (v := 1) hx hb dL_law_968 (by decide) ?_
  refine lv_iadd hx hb dL_law_969 ?_
  refine lv_topi (fun xv1 exv1 => ?_)
  have txv1 := addI (a := iv) (b := 1) (by omega) (by omega); rw [← exv1] at txv1
  refine va_sld (A := fun q => s.heap.size ≤ q) hx hb hX hbl hbA hJ.2.2.1 (inI (by omega) (by omega)) dL_law_970 ?_
  refine lv_topi (fun yv2 eyv2 => ?_)
  refine lv_if_eq (tgt := 978) hx hb dL_law_971 (by decide) (fun c9 => ?_) (fun c9 => ?_)
  · have hz0 : (0 : Int32) = 0 ∨ (0 : Int32) = 1 := by decide
    refine lv_iconst (v := 0) hx hb dL_law_978 (by decide) ?_
    refine lv_aload_n hx hb dL_law_979 rfl (lv_at hl 0 rfl) ?_
    refine lv_iload_n hx hb dL_law_980 rfl (lv_at hl 3 rfl) ?_
    refine lv_iconst (v := 2) hx hb dL_law_981 (by decide) ?_
    refine lv_iadd hx hb dL_law_982 ?_
    refine lv_topi (fun xv3 exv3 => ?_)
    have txv3 := addI (a := iv) (b := 2) (by omega) (by omega); rw [← exv3] at txv3
    refine va_sld (A := fun q => s.heap.size ≤ q) hx hb hX hbl hbA hJ.2.2.1 (inI (by omega) (by omega)) dL_law_983 ?_
    refine lv_topi (fun yv4 eyv4 => ?_)
    refine lv_aload_n hx hb dL_law_984 rfl (lv_at hl 0 rfl) ?_
    refine lv_iload_n hx hb dL_law_985 rfl (lv_at hl 3 rfl) ?_
    refine lv_iconst (v := 3) hx hb dL_law_986 (by decide) ?_
    refine lv_iadd hx hb dL_law_987 ?_
    refine lv_topi (fun xv5 exv5 => ?_)
    have txv5 := addI (a := iv) (b := 3) (by omega) (by omega); rw [← exv5] at txv5
    refine va_sld (A := fun q => s.heap.size ≤ q) hx hb hX hbl hbA hJ.2.2.1 (inI (by omega) (by omega)) dL_law_988 ?_
    refine lv_topi (fun yv6 eyv6 => ?_)
    refine lv_aload_n hx hb dL_law_989 rfl (lv_at hl 0 rfl) ?_
    refine lv_iload_n hx hb dL_law_990 rfl (lv_at hl 3 rfl) ?_
    refine lv_iconst (v := 4) hx hb dL_law_991 (by decide) ?_
    refine lv_iadd hx hb dL_law_992 ?_
    refine lv_topi (fun xv7 exv7 => ?_)
    have txv7 := addI (a := iv) (b := 4) (by omega) (by omega); rw [← exv7] at txv7
    refine va_sld (A := fun q => s.heap.size ≤ q) hx hb hX hbl hbA hJ.2.2.1 (inI (by omega) (by omega)) dL_law_993 ?_
    refine lv_topi (fun yv8 eyv8 => ?_)
    refine r_V (As := [.int 0, .int yv4, .int yv6, .int yv8]) (rest := []) (ci := 11) C hJ.mC (c_X11_loop l D (bC H s.heap h) S k n x 0 yv4 yv6 yv8 hI kx hz0) i_X11_loop m_L_105 kx rfl rfl rfl hl.1 rfl (Nat.le_of_ble_eq_true rfl) ⟨by decide, by decide⟩ ⟨by show _ ≤ 600000; simp only []; omega, by show _ ≤ 7302250; simp only []; omega⟩ dL_law_994 (fun rv9 S1 k1 n1 H locs hp hM => ?_)
    have hJ := hJ.aC hM
    obtain ⟨hk1, hn1, hX9, hI, -⟩ := hp
    have kx : mK S1 x = 12 := hX9.k kx
    refine W.eq (g2 := F0 m 997 ls [.int rv9]) rfl ?_
    refine lv_pop hx hb dL_law_997 rfl ?_
    refine lv_aload_n hx hb dL_law_998 rfl (lv_at hl 2 rfl) ?_
    refine lv_aload_n hx hb dL_law_999 rfl (lv_at hl 0 rfl) ?_
    refine lv_iload_n hx hb dL_law_1000 rfl (lv_at hl 3 rfl) ?_
    refine lv_iconst (v := 1) hx hb dL_law_1001 (by decide) ?_
    refine lv_iadd hx hb dL_law_1002 ?_
    rw [← exv1]
    refine va_sld (A := fun q => s.heap.size ≤ q) hx hb hX hbl hbA hJ.2.2.1 (inI (by omega) (by omega)) dL_law_1003 ?_
    rw [← eyv2]
    refine lv_if_eq (tgt := 1011) hx hb dL_law_1004 (by decide) (fun _ => ?_) (fun c8 => absurd c9 c8)
    refine lv_iconst (v := 0) hx hb dL_law_1011 (by decide) ?_
    refine lv_aload_n hx hb dL_law_1012 rfl (lv_at hl 0 rfl) ?_
    refine lv_iload_n hx hb dL_law_1013 rfl (lv_at hl 3 rfl) ?_
    refine lv_iconst (v := 2) hx hb dL_law_1014 (by decide) ?_
    refine lv_iadd hx hb dL_law_1015 ?_
    rw [← exv3]
    refine va_sld (A := fun q => s.heap.size ≤ q) hx hb hX hbl hbA hJ.2.2.1 (inI (by omega) (by omega)) dL_law_1016 ?_
    rw [← eyv4]
    refine lv_aload_n hx hb dL_law_1017 rfl (lv_at hl 0 rfl) ?_
    refine lv_iload_n hx hb dL_law_1018 rfl (lv_at hl 3 rfl) ?_
    refine lv_iconst (v := 3) hx hb dL_law_1019 (by decide) ?_
    refine lv_iadd hx hb dL_law_1020 ?_
    rw [← exv5]
    refine va_sld (A := fun q => s.heap.size ≤ q) hx hb hX hbl hbA hJ.2.2.1 (inI (by omega) (by omega)) dL_law_1021 ?_
    rw [← eyv6]
    refine lv_aload_n hx hb dL_law_1022 rfl (lv_at hl 0 rfl) ?_
    refine lv_iload_n hx hb dL_law_1023 rfl (lv_at hl 3 rfl) ?_
    refine lv_iconst (v := 4) hx hb dL_law_1024 (by decide) ?_
    refine lv_iadd hx hb dL_law_1025 ?_
    rw [← exv7]
    refine va_sld (A := fun q => s.heap.size ≤ q) hx hb hX hbl hbA hJ.2.2.1 (inI (by omega) (by omega)) dL_law_1026 ?_
    rw [← eyv8]
    refine r_V (As := [.int 0, .int yv4, .int yv6, .int yv8]) (rest := []) (ci := 12) C hJ.mR (c_X12_loop l D (bR H s.heap S1) h R k1 n1 0 yv4 yv6 yv8 hRI) i_X12_loop m_L_109 rK0 rfl rfl rfl hl.1 rfl (Nat.le_of_ble_eq_true rfl) ⟨by decide, by decide⟩ ⟨by show _ ≤ 600000; simp only []; omega, by show _ ≤ 7302250; simp only []; omega⟩ dL_law_1027 (fun rv10 S2 k2 n2 H locs hp hM => ?_)
    obtain ⟨rfl, rfl, R1, rfl, hf9, hp⟩ := hp
    have hJ := hJ.aR hM
    have hRI := hp
    have htl : (rI R1 2).toInt = tl := by rw [hf9.gI 2 (by decide)]; exact htl
    refine W.eq (g2 := F0 m 1030 ls [.int rv10]) rfl ?_
    refine lv_pop hx hb dL_law_1030 rfl ?_
    have hLS : LSt D s.heap x h (j + 1) H locs := ⟨S1, R1, u, tl, r1, mt, k1, n1, hJ, hI, kx, hRI, htl, ⟨by omega, by omega, hmt⟩, by omega, by omega⟩
    refine r_tightJ hJ (k0 := 71 + 63 * (j + 1)) (n0 := 93918 + 1100 * (j + 1)) (by omega) (by omega) ?_
    refine lv_goto (tgt := 1149) hx hb dL_law_1031 (by decide) ?_
    exact kk _ _ hLS
  · have hz1 : (1 : Int32) = 0 ∨ (1 : Int32) = 1 := by decide
    refine lv_iconst (v := 1) hx hb dL_law_974 (by decide) ?_
    refine lv_goto (tgt := 979) hx hb dL_law_975 (by decide) ?_
    refine lv_aload_n hx hb dL_law_979 rfl (lv_at hl 0 rfl) ?_
    refine lv_iload_n hx hb dL_law_980 rfl (lv_at hl 3 rfl) ?_
    refine lv_iconst (v := 2) hx hb dL_law_981 (by decide) ?_
    refine lv_iadd hx hb dL_law_982 ?_
    refine lv_topi (fun xv11 exv11 => ?_)
    have txv11 := addI (a := iv) (b := 2) (by omega) (by omega); rw [← exv11] at txv11
    refine va_sld (A := fun q => s.heap.size ≤ q) hx hb hX hbl hbA hJ.2.2.1 (inI (by omega) (by omega)) dL_law_983 ?_
    refine lv_topi (fun yv12 eyv12 => ?_)
    refine lv_aload_n hx hb dL_law_984 rfl (lv_at hl 0 rfl) ?_
    refine lv_iload_n hx hb dL_law_985 rfl (lv_at hl 3 rfl) ?_
    refine lv_iconst (v := 3) hx hb dL_law_986 (by decide) ?_
    refine lv_iadd hx hb dL_law_987 ?_
    refine lv_topi (fun xv13 exv13 => ?_)
    have txv13 := addI (a := iv) (b := 3) (by omega) (by omega); rw [← exv13] at txv13
    refine va_sld (A := fun q => s.heap.size ≤ q) hx hb hX hbl hbA hJ.2.2.1 (inI (by omega) (by omega)) dL_law_988 ?_
    refine lv_topi (fun yv14 eyv14 => ?_)
    refine lv_aload_n hx hb dL_law_989 rfl (lv_at hl 0 rfl) ?_
    refine lv_iload_n hx hb dL_law_990 rfl (lv_at hl 3 rfl) ?_
    refine lv_iconst (v := 4) hx hb dL_law_991 (by decide) ?_
    refine lv_iadd hx hb dL_law_992 ?_
    refine lv_topi (fun xv15 exv15 => ?_)
    have txv15 := addI (a := iv) (b := 4) (by omega) (by omega); rw [← exv15] at txv15
    refine va_sld (A := fun q => s.heap.size ≤ q) hx hb hX hbl hbA hJ.2.2.1 (inI (by omega) (by omega)) dL_law_993 ?_
    refine lv_topi (fun yv16 eyv16 => ?_)
    refine r_V (As := [.int 1, .int yv12, .int yv14, .int yv16]) (rest := []) (ci := 11) C hJ.mC (c_X11_loop l D (bC H s.heap h) S k n x 1 yv12 yv14 yv16 hI kx hz1) i_X11_loop m_L_105 kx rfl rfl rfl hl.1 rfl (Nat.le_of_ble_eq_true rfl) ⟨by decide, by decide⟩ ⟨by show _ ≤ 600000; simp only []; omega, by show _ ≤ 7302250; simp only []; omega⟩ dL_law_994 (fun rv17 S1 k1 n1 H locs hp hM => ?_)
    have hJ := hJ.aC hM
    obtain ⟨hk1, hn1, hX9, hI, -⟩ := hp
    have kx : mK S1 x = 12 := hX9.k kx
    refine W.eq (g2 := F0 m 997 ls [.int rv17]) rfl ?_
    refine lv_pop hx hb dL_law_997 rfl ?_
    refine lv_aload_n hx hb dL_law_998 rfl (lv_at hl 2 rfl) ?_
    refine lv_aload_n hx hb dL_law_999 rfl (lv_at hl 0 rfl) ?_
    refine lv_iload_n hx hb dL_law_1000 rfl (lv_at hl 3 rfl) ?_
    refine lv_iconst (v := 1) hx hb dL_law_1001 (by decide) ?_
    refine lv_iadd hx hb dL_law_1002 ?_
    rw [← exv1]
    refine va_sld (A := fun q => s.heap.size ≤ q) hx hb hX hbl hbA hJ.2.2.1 (inI (by omega) (by omega)) dL_law_1003 ?_
    rw [← eyv2]
    refine lv_if_eq (tgt := 1011) hx hb dL_law_1004 (by decide) (fun c8 => absurd c8 c9) (fun _ => ?_)
    refine lv_iconst (v := 1) hx hb dL_law_1007 (by decide) ?_
    refine lv_goto (tgt := 1012) hx hb dL_law_1008 (by decide) ?_
    refine lv_aload_n hx hb dL_law_1012 rfl (lv_at hl 0 rfl) ?_
    refine lv_iload_n hx hb dL_law_1013 rfl (lv_at hl 3 rfl) ?_
    refine lv_iconst (v := 2) hx hb dL_law_1014 (by decide) ?_
    refine lv_iadd hx hb dL_law_1015 ?_
    rw [← exv11]
    refine va_sld (A := fun q => s.heap.size ≤ q) hx hb hX hbl hbA hJ.2.2.1 (inI (by omega) (by omega)) dL_law_1016 ?_
    rw [← eyv12]
    refine lv_aload_n hx hb dL_law_1017 rfl (lv_at hl 0 rfl) ?_
    refine lv_iload_n hx hb dL_law_1018 rfl (lv_at hl 3 rfl) ?_
    refine lv_iconst (v := 3) hx hb dL_law_1019 (by decide) ?_
    refine lv_iadd hx hb dL_law_1020 ?_
    rw [← exv13]
    refine va_sld (A := fun q => s.heap.size ≤ q) hx hb hX hbl hbA hJ.2.2.1 (inI (by omega) (by omega)) dL_law_1021 ?_
    rw [← eyv14]
    refine lv_aload_n hx hb dL_law_1022 rfl (lv_at hl 0 rfl) ?_
    refine lv_iload_n hx hb dL_law_1023 rfl (lv_at hl 3 rfl) ?_
    refine lv_iconst (v := 4) hx hb dL_law_1024 (by decide) ?_
    refine lv_iadd hx hb dL_law_1025 ?_
    rw [← exv15]
    refine va_sld (A := fun q => s.heap.size ≤ q) hx hb hX hbl hbA hJ.2.2.1 (inI (by omega) (by omega)) dL_law_1026 ?_
    rw [← eyv16]
    refine r_V (As := [.int 1, .int yv12, .int yv14, .int yv16]) (rest := []) (ci := 12) C hJ.mR (c_X12_loop l D (bR H s.heap S1) h R k1 n1 1 yv12 yv14 yv16 hRI) i_X12_loop m_L_109 rK0 rfl rfl rfl hl.1 rfl (Nat.le_of_ble_eq_true rfl) ⟨by decide, by decide⟩ ⟨by show _ ≤ 600000; simp only []; omega, by show _ ≤ 7302250; simp only []; omega⟩ dL_law_1027 (fun rv18 S2 k2 n2 H locs hp hM => ?_)
    obtain ⟨rfl, rfl, R1, rfl, hf9, hp⟩ := hp
    have hJ := hJ.aR hM
    have hRI := hp
    have htl : (rI R1 2).toInt = tl := by rw [hf9.gI 2 (by decide)]; exact htl
    refine W.eq (g2 := F0 m 1030 ls [.int rv18]) rfl ?_
    refine lv_pop hx hb dL_law_1030 rfl ?_
    have hLS : LSt D s.heap x h (j + 1) H locs := ⟨S1, R1, u, tl, r1, mt, k1, n1, hJ, hI, kx, hRI, htl, ⟨by omega, by omega, hmt⟩, by omega, by omega⟩
    refine r_tightJ hJ (k0 := 71 + 63 * (j + 1)) (n0 := 93918 + 1100 * (j + 1)) (by omega) (by omega) ?_
    refine lv_goto (tgt := 1149) hx hb dL_law_1031 (by decide) ?_
    exact kk _ _ hLS
set_option maxHeartbeats 4000000 in
set_option maxRecDepth 100000 in
theorem lc_clear {p : Program} {l : Launch} {e : Env} {s : State} {m : MethodId} {below : List Frame} {meth : Method} {c : Code} {b L : Nat} {xs : Nat → Int32} {D : gD} {x h j : Nat} {H : Heap} {locs : List Loc} {ls : Array Slot} {iv : Int32} {Q : State → Prop} (C : Cx D p s m #[Value.ref b] c cL_law 4 RL) (hX : va_X b L xs s s.heap) (hbl : b < s.heap.size) (hL : L ≤ 3072) (hi : iv.toInt = 6 * j) (hj : 6 * j + 6 ≤ L) (hl : lv_has ls 4 [(0, .ref b), (1, .ref x), (2, .ref h), (3, .int iv)]) (hLS : LSt D s.heap x h j H locs)
    (kk : ∀ (H : Heap) (locs : List Loc), LSt D s.heap x h (j + 1) H locs → W p l e room_1 s m #[Value.ref b] below meth c H locs (71 + 63 * (j + 1)) (93918 + 1100 * (j + 1)) Q (F0 m 1149 ls [])) : W p l e room_1 s m #[Value.ref b] below meth c H locs (71 + 63 * j) (93918 + 1100 * j) Q (F0 m 1034 ls []) := by
  obtain ⟨hx, hb, hml, hown, hts, -, -⟩ := id C
  have hbA : ¬ (fun q : Nat => s.heap.size ≤ q) b := Nat.not_le.mpr hbl
  obtain ⟨S, R, u, tl, r1, mt, k, n, hJ, hI, kx, hRI, htl, ⟨hu, hr1, hmt⟩, hk, hn⟩ := hLS
  have t_1 : (1 : Int32).toInt = 1 := by decide
  have t_2 : (2 : Int32).toInt = 2 := by decide
  have t_3 : (3 : Int32).toInt = 3 := by decide
  have t_4 : (4 : Int32).toInt = 4 := by decide
  have t_5 : (5 : Int32).toInt = 5 := by decide
  have t_0 : (0 : Int32).toInt = 0 := by decide
  refine lv_aload_n hx hb dL_law_1034 rfl (lv_at hl 1 rfl) ?_
  refine r_V (As := []) (rest := []) (ci := 11) C hJ.mC (c_X11_clear l D (bC H s.heap h) S k n x  hI kx) i_X11_clear m_L_110 kx rfl rfl rfl hl.1 rfl (Nat.le_of_ble_eq_true rfl) ⟨by decide, by decide⟩ ⟨by show _ ≤ 600000; simp only []; omega, by show _ ≤ 7302250; simp only []; omega⟩ dL_law_1035 (fun rv1 S1 k1 n1 H locs hp hM => ?_)
  have hJ := hJ.aC hM
  obtain ⟨rfl, rfl, hKs, hI, -⟩ := hp
  have kx : mK S1 x = 12 := by rw [hKs]; exact kx
  refine W.eq (g2 := F0 m 1038 ls [.int rv1]) rfl ?_
  refine lv_pop hx hb dL_law_1038 rfl ?_
  refine lv_aload_n hx hb dL_law_1039 rfl (lv_at hl 2 rfl) ?_
  refine r_V (As := []) (rest := []) (ci := 12) C hJ.mR (c_X12_clear l D (bR H s.heap S1) h R k n  hRI) i_X12_clear m_L_113 rK0 rfl rfl rfl hl.1 rfl (Nat.le_of_ble_eq_true rfl) ⟨by decide, by decide⟩ ⟨by show _ ≤ 600000; simp only []; omega, by show _ ≤ 7302250; simp only []; omega⟩ dL_law_1040 (fun rv2 S2 k2 n2 H locs hp hM => ?_)
  obtain ⟨rfl, rfl, R1, rfl, hf9, hp⟩ := hp
  have hJ := hJ.aR hM
  have hRI := hp
  have htl : (rI R1 2).toInt = tl := by rw [hf9.gI 2 (by decide)]; exact htl
  refine W.eq (g2 := F0 m 1043 ls [.int rv2]) rfl ?_
  refine lv_pop hx hb dL_law_1043 rfl ?_
  have hLS : LSt D s.heap x h (j + 1) H locs := ⟨S1, R1, u, tl, r1, mt, k, n, hJ, hI, kx, hRI, htl, ⟨by omega, by omega, hmt⟩, by omega, by omega⟩
  refine r_tightJ hJ (k0 := 71 + 63 * (j + 1)) (n0 := 93918 + 1100 * (j + 1)) (by omega) (by omega) ?_
  refine lv_goto (tgt := 1149) hx hb dL_law_1044 (by decide) ?_
  exact kk _ _ hLS
set_option maxHeartbeats 4000000 in
set_option maxRecDepth 100000 in
theorem lc_run {p : Program} {l : Launch} {e : Env} {s : State} {m : MethodId} {below : List Frame} {meth : Method} {c : Code} {b L : Nat} {xs : Nat → Int32} {D : gD} {x h j : Nat} {H : Heap} {locs : List Loc} {ls : Array Slot} {iv : Int32} {Q : State → Prop} (C : Cx D p s m #[Value.ref b] c cL_law 4 RL) (hX : va_X b L xs s s.heap) (hbl : b < s.heap.size) (hL : L ≤ 3072) (hi : iv.toInt = 6 * j) (hj : 6 * j + 6 ≤ L) (hl : lv_has ls 4 [(0, .ref b), (1, .ref x), (2, .ref h), (3, .int iv)]) (hLS : LSt D s.heap x h j H locs)
    (kk : ∀ (H : Heap) (locs : List Loc), LSt D s.heap x h (j + 1) H locs → W p l e room_1 s m #[Value.ref b] below meth c H locs (71 + 63 * (j + 1)) (93918 + 1100 * (j + 1)) Q (F0 m 1149 ls [])) : W p l e room_1 s m #[Value.ref b] below meth c H locs (71 + 63 * j) (93918 + 1100 * j) Q (F0 m 1047 ls []) := by
  obtain ⟨hx, hb, hml, hown, hts, -, -⟩ := id C
  have hbA : ¬ (fun q : Nat => s.heap.size ≤ q) b := Nat.not_le.mpr hbl
  obtain ⟨S, R, u, tl, r1, mt, k, n, hJ, hI, kx, hRI, htl, ⟨hu, hr1, hmt⟩, hk, hn⟩ := hLS
  have t_1 : (1 : Int32).toInt = 1 := by decide
  have t_2 : (2 : Int32).toInt = 2 := by decide
  have t_3 : (3 : Int32).toInt = 3 := by decide
  have t_4 : (4 : Int32).toInt = 4 := by decide
  have t_5 : (5 : Int32).toInt = 5 := by decide
  have t_0 : (0 : Int32).toInt = 0 := by decide
  refine lv_aload_n hx hb dL_law_1047 rfl (lv_at hl 1 rfl) ?_
  refine lv_aload_n hx hb dL_law_1048 rfl (lv_at hl 0 rfl) ?_
  refine lv_iload_n hx hb dL_law_1049 rfl (lv_at hl 3 rfl) ?_
  refine lv_iconst (v := 1) hx hb dL_law_1050 (by decide) ?_
  refine lv_iadd hx hb dL_law_1051 ?_
  refine lv_topi (fun xv1 exv1 => ?_)
  have txv1 := addI (a := iv) (b := 1) (by omega) (by omega); rw [← exv1] at txv1
  refine va_sld (A := fun q => s.heap.size ≤ q) hx hb hX hbl hbA hJ.2.2.1 (inI (by omega) (by omega)) dL_law_1052 ?_
  refine lv_topi (fun yv2 eyv2 => ?_)
  refine r_V (As := [.int yv2]) (rest := []) (ci := 11) C hJ.mC (c_X11_run l D (bC H s.heap h) S k n x yv2 hI (by omega) hmt (by show r1 < _; omega) kx) i_X11_run m_L_114 kx rfl rfl rfl hl.1 rfl (Nat.le_of_ble_eq_true rfl) ⟨by decide, by decide⟩ ⟨by show _ ≤ 600000; simp only []; omega, by show _ ≤ 7302250; simp only []; omega⟩ dL_law_1053 (fun rv3 S1 k1 n1 H locs hp hM => ?_)
  have hJ := hJ.aC hM
  obtain ⟨m1, hm1, hm2, hk1, hn1, hX9, hI, -⟩ := hp
  have kx : mK S1 x = 12 := hX9.k kx
  refine W.eq (g2 := F0 m 1056 ls [.int rv3]) rfl ?_
  refine lv_pop hx hb dL_law_1056 rfl ?_
  refine lv_aload_n hx hb dL_law_1057 rfl (lv_at hl 2 rfl) ?_
  refine lv_aload_n hx hb dL_law_1058 rfl (lv_at hl 0 rfl) ?_
  refine lv_iload_n hx hb dL_law_1059 rfl (lv_at hl 3 rfl) ?_
  refine lv_iconst (v := 1) hx hb dL_law_1060 (by decide) ?_
  refine lv_iadd hx hb dL_law_1061 ?_
  rw [← exv1]
  refine va_sld (A := fun q => s.heap.size ≤ q) hx hb hX hbl hbA hJ.2.2.1 (inI (by omega) (by omega)) dL_law_1062 ?_
  rw [← eyv2]
  refine r_V (As := [.int yv2]) (rest := []) (ci := 12) C hJ.mR (c_X12_run l D (bR H s.heap S1) h R k1 n1 yv2 hRI) i_X12_run m_L_117 rK0 rfl rfl rfl hl.1 rfl (Nat.le_of_ble_eq_true rfl) ⟨by decide, by decide⟩ ⟨by show _ ≤ 600000; simp only []; omega, by show _ ≤ 7302250; simp only []; omega⟩ dL_law_1063 (fun rv4 S2 k2 n2 H locs hp hM => ?_)
  obtain ⟨rfl, rfl, R1, rfl, hf9, hp⟩ := hp
  have hJ := hJ.aR hM
  have hRI := hp
  have htl : (rI R1 2).toInt = tl := by rw [hf9.gI 2 (by decide)]; exact htl
  refine W.eq (g2 := F0 m 1066 ls [.int rv4]) rfl ?_
  refine lv_pop hx hb dL_law_1066 rfl ?_
  have hm1 : mt ≤ m1 := hm1
  have hk1 : k1 ≤ k + 3 * (m1 - mt) := hk1
  have hn1 : n1 ≤ n + 3665 * (m1 - mt) := hn1
  have hLS : LSt D s.heap x h (j + 1) H locs := ⟨S1, R1, u, tl, r1 + 1200, m1, k1, n1, hJ, hI, kx, hRI, htl, ⟨by omega, by omega, hm2⟩, by omega, by omega⟩
  refine r_tightJ hJ (k0 := 71 + 63 * (j + 1)) (n0 := 93918 + 1100 * (j + 1)) (by omega) (by omega) ?_
  refine lv_goto (tgt := 1149) hx hb dL_law_1067 (by decide) ?_
  exact kk _ _ hLS
set_option maxHeartbeats 4000000 in
set_option maxRecDepth 100000 in
theorem lc_ran {p : Program} {l : Launch} {e : Env} {s : State} {m : MethodId} {below : List Frame} {meth : Method} {c : Code} {b L : Nat} {xs : Nat → Int32} {D : gD} {x h j : Nat} {H : Heap} {locs : List Loc} {ls : Array Slot} {iv : Int32} {Q : State → Prop} (C : Cx D p s m #[Value.ref b] c cL_law 4 RL) (hX : va_X b L xs s s.heap) (hbl : b < s.heap.size) (hL : L ≤ 3072) (hi : iv.toInt = 6 * j) (hj : 6 * j + 6 ≤ L) (hl : lv_has ls 4 [(0, .ref b), (1, .ref x), (2, .ref h), (3, .int iv)]) (hLS : LSt D s.heap x h j H locs)
    (kk : ∀ (H : Heap) (locs : List Loc), LSt D s.heap x h (j + 1) H locs → W p l e room_1 s m #[Value.ref b] below meth c H locs (71 + 63 * (j + 1)) (93918 + 1100 * (j + 1)) Q (F0 m 1149 ls [])) : W p l e room_1 s m #[Value.ref b] below meth c H locs (71 + 63 * j) (93918 + 1100 * j) Q (F0 m 1070 ls []) := by
  obtain ⟨hx, hb, hml, hown, hts, -, -⟩ := id C
  have hbA : ¬ (fun q : Nat => s.heap.size ≤ q) b := Nat.not_le.mpr hbl
  obtain ⟨S, R, u, tl, r1, mt, k, n, hJ, hI, kx, hRI, htl, ⟨hu, hr1, hmt⟩, hk, hn⟩ := hLS
  have t_1 : (1 : Int32).toInt = 1 := by decide
  have t_2 : (2 : Int32).toInt = 2 := by decide
  have t_3 : (3 : Int32).toInt = 3 := by decide
  have t_4 : (4 : Int32).toInt = 4 := by decide
  have t_5 : (5 : Int32).toInt = 5 := by decide
  have t_0 : (0 : Int32).toInt = 0 := by decide
  refine lv_aload_n hx hb dL_law_1070 rfl (lv_at hl 1 rfl) ?_
  refine lv_aload_n hx hb dL_law_1071 rfl (lv_at hl 0 rfl) ?_
  refine lv_iload_n hx hb dL_law_1072 rfl (lv_at hl 3 rfl) ?_
  refine lv_iconst (v := 1) hx hb dL_law_1073 (by decide) ?_
  refine lv_iadd hx hb dL_law_1074 ?_
  refine lv_topi (fun xv1 exv1 => ?_)
  have txv1 := addI (a := iv) (b := 1) (by omega) (by omega); rw [← exv1] at txv1
  refine va_sld (A := fun q => s.heap.size ≤ q) hx hb hX hbl hbA hJ.2.2.1 (inI (by omega) (by omega)) dL_law_1075 ?_
  refine lv_topi (fun yv2 eyv2 => ?_)
  refine r_V (As := [.int yv2]) (rest := []) (ci := 11) C hJ.mC (c_X11_ran l D (bC H s.heap h) S k n x yv2 hI kx) i_X11_ran m_L_118 kx rfl rfl rfl hl.1 rfl (Nat.le_of_ble_eq_true rfl) ⟨by decide, by decide⟩ ⟨by show _ ≤ 600000; simp only []; omega, by show _ ≤ 7302250; simp only []; omega⟩ dL_law_1076 (fun rv3 S1 k1 n1 H locs hp hM => ?_)
  have hJ := hJ.aC hM
  obtain ⟨rfl, rfl, rfl, -⟩ := hp
  refine W.eq (g2 := F0 m 1079 ls [.int rv3]) rfl ?_
  refine lv_pop hx hb dL_law_1079 rfl ?_
  refine lv_aload_n hx hb dL_law_1080 rfl (lv_at hl 2 rfl) ?_
  refine lv_aload_n hx hb dL_law_1081 rfl (lv_at hl 0 rfl) ?_
  refine lv_iload_n hx hb dL_law_1082 rfl (lv_at hl 3 rfl) ?_
  refine lv_iconst (v := 1) hx hb dL_law_1083 (by decide) ?_
  refine lv_iadd hx hb dL_law_1084 ?_
  rw [← exv1]
  refine va_sld (A := fun q => s.heap.size ≤ q) hx hb hX hbl hbA hJ.2.2.1 (inI (by omega) (by omega)) dL_law_1085 ?_
  rw [← eyv2]
  refine r_V (As := [.int yv2]) (rest := []) (ci := 12) C hJ.mR (c_X12_ran l D (bR H s.heap S) h R k n yv2 hRI) i_X12_ran m_L_121 rK0 rfl rfl rfl hl.1 rfl (Nat.le_of_ble_eq_true rfl) ⟨by decide, by decide⟩ ⟨by show _ ≤ 600000; simp only []; omega, by show _ ≤ 7302250; simp only []; omega⟩ dL_law_1086 (fun rv4 S2 k2 n2 H locs hp hM => ?_)
  obtain ⟨rfl, rfl, rfl, hp⟩ := hp
  have hJ := hJ.aR hM
  refine W.eq (g2 := F0 m 1089 ls [.int rv4]) rfl ?_
  refine lv_pop hx hb dL_law_1089 rfl ?_
  have hLS : LSt D s.heap x h (j + 1) H locs := ⟨S, R, u, tl, r1, mt, k, n, hJ, hI, kx, hRI, htl, ⟨by omega, by omega, hmt⟩, by omega, by omega⟩
  refine r_tightJ hJ (k0 := 71 + 63 * (j + 1)) (n0 := 93918 + 1100 * (j + 1)) (by omega) (by omega) ?_
  refine lv_goto (tgt := 1149) hx hb dL_law_1090 (by decide) ?_
  exact kk _ _ hLS
set_option maxHeartbeats 4000000 in
set_option maxRecDepth 100000 in
theorem lc_read {p : Program} {l : Launch} {e : Env} {s : State} {m : MethodId} {below : List Frame} {meth : Method} {c : Code} {b L : Nat} {xs : Nat → Int32} {D : gD} {x h j : Nat} {H : Heap} {locs : List Loc} {ls : Array Slot} {iv : Int32} {Q : State → Prop} (C : Cx D p s m #[Value.ref b] c cL_law 4 RL) (hX : va_X b L xs s s.heap) (hbl : b < s.heap.size) (hL : L ≤ 3072) (hi : iv.toInt = 6 * j) (hj : 6 * j + 6 ≤ L) (hl : lv_has ls 4 [(0, .ref b), (1, .ref x), (2, .ref h), (3, .int iv)]) (hLS : LSt D s.heap x h j H locs)
    (kk : ∀ (H : Heap) (locs : List Loc), LSt D s.heap x h (j + 1) H locs → W p l e room_1 s m #[Value.ref b] below meth c H locs (71 + 63 * (j + 1)) (93918 + 1100 * (j + 1)) Q (F0 m 1149 ls [])) : W p l e room_1 s m #[Value.ref b] below meth c H locs (71 + 63 * j) (93918 + 1100 * j) Q (F0 m 1093 ls []) := by
  obtain ⟨hx, hb, hml, hown, hts, -, -⟩ := id C
  have hbA : ¬ (fun q : Nat => s.heap.size ≤ q) b := Nat.not_le.mpr hbl
  obtain ⟨S, R, u, tl, r1, mt, k, n, hJ, hI, kx, hRI, htl, ⟨hu, hr1, hmt⟩, hk, hn⟩ := hLS
  have t_1 : (1 : Int32).toInt = 1 := by decide
  have t_2 : (2 : Int32).toInt = 2 := by decide
  have t_3 : (3 : Int32).toInt = 3 := by decide
  have t_4 : (4 : Int32).toInt = 4 := by decide
  have t_5 : (5 : Int32).toInt = 5 := by decide
  have t_0 : (0 : Int32).toInt = 0 := by decide
  refine lv_aload_n hx hb dL_law_1093 rfl (lv_at hl 1 rfl) ?_
  refine lv_aload_n hx hb dL_law_1094 rfl (lv_at hl 0 rfl) ?_
  refine lv_iload_n hx hb dL_law_1095 rfl (lv_at hl 3 rfl) ?_
  refine lv_iconst (v := 1) hx hb dL_law_1096 (by decide) ?_
  refine lv_iadd hx hb dL_law_1097 ?_
  refine lv_topi (fun xv1 exv1 => ?_)
  have txv1 := addI (a := iv) (b := 1) (by omega) (by omega); rw [← exv1] at txv1
  refine va_sld (A := fun q => s.heap.size ≤ q) hx hb hX hbl hbA hJ.2.2.1 (inI (by omega) (by omega)) dL_law_1098 ?_
  refine lv_topi (fun yv2 eyv2 => ?_)
  refine lv_aload_n hx hb dL_law_1099 rfl (lv_at hl 0 rfl) ?_
  refine lv_iload_n hx hb dL_law_1100 rfl (lv_at hl 3 rfl) ?_
  refine lv_iconst (v := 2) hx hb dL_law_1101 (by decide) ?_
  refine lv_iadd hx hb dL_law_1102 ?_
  refine lv_topi (fun xv3 exv3 => ?_)
  have txv3 := addI (a := iv) (b := 2) (by omega) (by omega); rw [← exv3] at txv3
  refine va_sld (A := fun q => s.heap.size ≤ q) hx hb hX hbl hbA hJ.2.2.1 (inI (by omega) (by omega)) dL_law_1103 ?_
  refine lv_topi (fun yv4 eyv4 => ?_)
  refine r_V (As := [.int yv2, .int yv4]) (rest := []) (ci := 11) C hJ.mC (c_X11_read l D (bC H s.heap h) S k n x yv2 yv4 hI kx) i_X11_read m_L_122 kx rfl rfl rfl hl.1 rfl (Nat.le_of_ble_eq_true rfl) ⟨by decide, by decide⟩ ⟨by show _ ≤ 600000; simp only []; omega, by show _ ≤ 7302250; simp only []; omega⟩ dL_law_1104 (fun rv5 S1 k1 n1 H locs hp hM => ?_)
  have hJ := hJ.aC hM
  obtain ⟨rfl, rfl, rfl, -⟩ := hp
  refine W.eq (g2 := F0 m 1107 ls [.int rv5]) rfl ?_
  refine lv_pop hx hb dL_law_1107 rfl ?_
  refine lv_aload_n hx hb dL_law_1108 rfl (lv_at hl 2 rfl) ?_
  refine lv_aload_n hx hb dL_law_1109 rfl (lv_at hl 0 rfl) ?_
  refine lv_iload_n hx hb dL_law_1110 rfl (lv_at hl 3 rfl) ?_
  refine lv_iconst (v := 1) hx hb dL_law_1111 (by decide) ?_
  refine lv_iadd hx hb dL_law_1112 ?_
  rw [← exv1]
  refine va_sld (A := fun q => s.heap.size ≤ q) hx hb hX hbl hbA hJ.2.2.1 (inI (by omega) (by omega)) dL_law_1113 ?_
  rw [← eyv2]
  refine lv_aload_n hx hb dL_law_1114 rfl (lv_at hl 0 rfl) ?_
  refine lv_iload_n hx hb dL_law_1115 rfl (lv_at hl 3 rfl) ?_
  refine lv_iconst (v := 2) hx hb dL_law_1116 (by decide) ?_
  refine lv_iadd hx hb dL_law_1117 ?_
  rw [← exv3]
  refine va_sld (A := fun q => s.heap.size ≤ q) hx hb hX hbl hbA hJ.2.2.1 (inI (by omega) (by omega)) dL_law_1118 ?_
  rw [← eyv4]
  refine r_V (As := [.int yv2, .int yv4]) (rest := []) (ci := 12) C hJ.mR (c_X12_read l D (bR H s.heap S) h R k n yv2 yv4 hRI) i_X12_read m_L_125 rK0 rfl rfl rfl hl.1 rfl (Nat.le_of_ble_eq_true rfl) ⟨by decide, by decide⟩ ⟨by show _ ≤ 600000; simp only []; omega, by show _ ≤ 7302250; simp only []; omega⟩ dL_law_1119 (fun rv6 S2 k2 n2 H locs hp hM => ?_)
  obtain ⟨rfl, rfl, rfl, hp⟩ := hp
  have hJ := hJ.aR hM
  refine W.eq (g2 := F0 m 1122 ls [.int rv6]) rfl ?_
  refine lv_pop hx hb dL_law_1122 rfl ?_
  have hLS : LSt D s.heap x h (j + 1) H locs := ⟨S, R, u, tl, r1, mt, k, n, hJ, hI, kx, hRI, htl, ⟨by omega, by omega, hmt⟩, by omega, by omega⟩
  refine r_tightJ hJ (k0 := 71 + 63 * (j + 1)) (n0 := 93918 + 1100 * (j + 1)) (by omega) (by omega) ?_
  refine lv_goto (tgt := 1149) hx hb dL_law_1123 (by decide) ?_
  exact kk _ _ hLS
set_option maxHeartbeats 4000000 in
set_option maxRecDepth 100000 in
theorem lc_about {p : Program} {l : Launch} {e : Env} {s : State} {m : MethodId} {below : List Frame} {meth : Method} {c : Code} {b L : Nat} {xs : Nat → Int32} {D : gD} {x h j : Nat} {H : Heap} {locs : List Loc} {ls : Array Slot} {iv : Int32} {Q : State → Prop} (C : Cx D p s m #[Value.ref b] c cL_law 4 RL) (hX : va_X b L xs s s.heap) (hbl : b < s.heap.size) (hL : L ≤ 3072) (hi : iv.toInt = 6 * j) (hj : 6 * j + 6 ≤ L) (hl : lv_has ls 4 [(0, .ref b), (1, .ref x), (2, .ref h), (3, .int iv)]) (hLS : LSt D s.heap x h j H locs)
    (kk : ∀ (H : Heap) (locs : List Loc), LSt D s.heap x h (j + 1) H locs → W p l e room_1 s m #[Value.ref b] below meth c H locs (71 + 63 * (j + 1)) (93918 + 1100 * (j + 1)) Q (F0 m 1149 ls [])) : W p l e room_1 s m #[Value.ref b] below meth c H locs (71 + 63 * j) (93918 + 1100 * j) Q (F0 m 1126 ls []) := by
  obtain ⟨hx, hb, hml, hown, hts, -, -⟩ := id C
  have hbA : ¬ (fun q : Nat => s.heap.size ≤ q) b := Nat.not_le.mpr hbl
  obtain ⟨S, R, u, tl, r1, mt, k, n, hJ, hI, kx, hRI, htl, ⟨hu, hr1, hmt⟩, hk, hn⟩ := hLS
  have t_1 : (1 : Int32).toInt = 1 := by decide
  have t_2 : (2 : Int32).toInt = 2 := by decide
  have t_3 : (3 : Int32).toInt = 3 := by decide
  have t_4 : (4 : Int32).toInt = 4 := by decide
  have t_5 : (5 : Int32).toInt = 5 := by decide
  have t_0 : (0 : Int32).toInt = 0 := by decide
  refine lv_aload_n hx hb dL_law_1126 rfl (lv_at hl 1 rfl) ?_
  refine lv_aload_n hx hb dL_law_1127 rfl (lv_at hl 0 rfl) ?_
  refine lv_iload_n hx hb dL_law_1128 rfl (lv_at hl 3 rfl) ?_
  refine lv_iconst (v := 1) hx hb dL_law_1129 (by decide) ?_
  refine lv_iadd hx hb dL_law_1130 ?_
  refine lv_topi (fun xv1 exv1 => ?_)
  have txv1 := addI (a := iv) (b := 1) (by omega) (by omega); rw [← exv1] at txv1
  refine va_sld (A := fun q => s.heap.size ≤ q) hx hb hX hbl hbA hJ.2.2.1 (inI (by omega) (by omega)) dL_law_1131 ?_
  refine lv_topi (fun yv2 eyv2 => ?_)
  refine r_V (As := [.int yv2]) (rest := []) (ci := 11) C hJ.mC (c_X11_about l D (bC H s.heap h) S k n x yv2 hI kx) i_X11_about m_L_126 kx rfl rfl rfl hl.1 rfl (Nat.le_of_ble_eq_true rfl) ⟨by decide, by decide⟩ ⟨by show _ ≤ 600000; simp only []; omega, by show _ ≤ 7302250; simp only []; omega⟩ dL_law_1132 (fun rv3 S1 k1 n1 H locs hp hM => ?_)
  have hJ := hJ.aC hM
  obtain ⟨rfl, rfl, rfl, -⟩ := hp
  refine W.eq (g2 := F0 m 1135 ls [.int rv3]) rfl ?_
  refine lv_pop hx hb dL_law_1135 rfl ?_
  refine lv_aload_n hx hb dL_law_1136 rfl (lv_at hl 2 rfl) ?_
  refine lv_aload_n hx hb dL_law_1137 rfl (lv_at hl 0 rfl) ?_
  refine lv_iload_n hx hb dL_law_1138 rfl (lv_at hl 3 rfl) ?_
  refine lv_iconst (v := 1) hx hb dL_law_1139 (by decide) ?_
  refine lv_iadd hx hb dL_law_1140 ?_
  rw [← exv1]
  refine va_sld (A := fun q => s.heap.size ≤ q) hx hb hX hbl hbA hJ.2.2.1 (inI (by omega) (by omega)) dL_law_1141 ?_
  rw [← eyv2]
  refine r_V (As := [.int yv2]) (rest := []) (ci := 12) C hJ.mR (c_X12_about l D (bR H s.heap S) h R k n yv2 hRI) i_X12_about m_L_129 rK0 rfl rfl rfl hl.1 rfl (Nat.le_of_ble_eq_true rfl) ⟨by decide, by decide⟩ ⟨by show _ ≤ 600000; simp only []; omega, by show _ ≤ 7302250; simp only []; omega⟩ dL_law_1142 (fun rv4 S2 k2 n2 H locs hp hM => ?_)
  obtain ⟨rfl, rfl, rfl, hp⟩ := hp
  have hJ := hJ.aR hM
  refine W.eq (g2 := F0 m 1145 ls [.int rv4]) rfl ?_
  refine lv_pop hx hb dL_law_1145 rfl ?_
  have hLS : LSt D s.heap x h (j + 1) H locs := ⟨S, R, u, tl, r1, mt, k, n, hJ, hI, kx, hRI, htl, ⟨by omega, by omega, hmt⟩, by omega, by omega⟩
  refine r_tightJ hJ (k0 := 71 + 63 * (j + 1)) (n0 := 93918 + 1100 * (j + 1)) (by omega) (by omega) ?_
  refine lv_goto (tgt := 1149) hx hb dL_law_1146 (by decide) ?_
  exact kk _ _ hLS
