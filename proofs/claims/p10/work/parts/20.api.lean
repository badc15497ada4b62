set_option maxHeartbeats 4000000 in
set_option maxRecDepth 100000 in
theorem c_X3_of (l : Launch) (D : gD) (H0 : gB) (S : Mem) (kc ns : Nat) (h0 h1 : Nat) {u : Nat} {tl : Int} {rho : Nat × Nat} (hI : CI x0 u tl rho S) (kh0 : mK S h0 = 6) (kh1 : mK S h1 = 6) : Met l yX3_of (wsU yX3_of cX3_of 7 (some (.object "ClickBench$Loop"))) ({ frames := 2, cells := 1, slots := 4, locals := 44 } : Room) (mP D H0 S kc ns [.ref h0, .ref h1]) (mQ D H0 gR (fun r S1 k1 n1 => k1 ≤ kc + 1 ∧ n1 ≤ ns + 4 ∧ mX S S1 ∧ CI x0 u tl rho S1 ∧ (∀ q, r = some q → mK S1 q = 4))) 1 4 (mF H0) := by
  refine r_met (own := RX3) (by decide +kernel) rfl (Nat.le_of_ble_eq_true rfl) ?_
  intro p e s m args below meth c C hr hlk hnm H ls hl hM
  obtain ⟨hx, hb, hml, hown, hts, -, -⟩ := id C
  have hl : lv_has ls 7 [(0, .ref h0), (1, .ref h1)] := hl
  have hI0 := hI
  have hX : mX S S := mX.rf
  have t_0 : (0 : Int32).toInt = 0 := by decide
  have t_1 : (1 : Int32).toInt = 1 := by decide
  refine lv_aload_n hx hb dX3_of_0 rfl (lv_at hl 0 rfl) ?_
  refine r_getN (ci := 5) (k := 7) (v := .int (mI S 507 h0)) C hM kh0 f_X3_25 rfl dX3_of_1 ?_
  refine lv_topi (fun xv1 exv1 => ?_)
  refine lv_aload_n hx hb dX3_of_4 rfl (lv_at hl 1 rfl) ?_
  refine r_getN (ci := 5) (k := 7) (v := .int (mI S 507 h1)) C hM kh1 f_X3_25 rfl dX3_of_5 ?_
  refine lv_topi (fun xv2 exv2 => ?_)
  refine lv_icmp_eq (tgt := 13) hx hb dX3_of_8 (by decide) (fun cv3 => ?_) (fun cv3 => ?_)
  · have tcv3 := eqT cv3
    refine lv_null hx hb dX3_of_13 ?_
    refine lv_astore_nN (lv' := [(2, .null), (0, .ref h0), (1, .ref h1)]) hx hb dX3_of_14 rfl hl (by decide) rfl (fun ls hl => ?_)
    refine lv_null hx hb dX3_of_15 ?_
    refine lv_astore_nN (lv' := [(3, .null), (2, .null), (0, .ref h0), (1, .ref h1)]) hx hb dX3_of_16 rfl hl (by decide) rfl (fun ls hl => ?_)
    refine lv_aload_n hx hb dX3_of_17 rfl (lv_at hl 2 rfl) ?_
    refine lv_astore (lv' := [(4, .ref h0), (3, .null), (2, .null), (0, .ref h0), (1, .ref h1)]) hx hb dX3_of_18 hl (by decide) rfl (fun ls hl => ?_)
    refine lv_aload_n hx hb dX3_of_20 rfl (lv_at hl 4 rfl) ?_
    refine lv_astore (lv' := [(5, .ref h1), (4, .ref h0), (3, .null), (2, .null), (0, .ref h0), (1, .ref h1)]) hx hb dX3_of_21 hl (by decide) rfl (fun ls hl => ?_)
    have loop23 : ∀ (fu : Nat) (o2 : Option Nat) (o : Option Nat) (ob : Option Nat) (oa : Option Nat) (H : Heap) (locs : List Loc) (ls : Array Slot), (∀ z, oa = some z → mK S z = 6) → (∀ z, ob = some z → mK S z = 6) → (∀ z, o = some z → mK S z = 6) → (∀ z, o2 = some z → mK S z = 6) → cm S o < fu → lv_has ls 7 [(0, .ref h0), (1, .ref h1), (2, va_rf oa), (3, va_rf ob), (4, va_rf o), (5, va_rf o2)] → mH D H0 S kc ns H locs → W p l e ({ frames := 2, cells := 1, slots := 4, locals := 44 } : Room) s m args below meth c H locs 0 0 (MQ below (mQ D H0 gR (fun r S1 k1 n1 => k1 ≤ kc + 1 ∧ n1 ≤ ns + 4 ∧ mX S S1 ∧ CI x0 u tl rho S1 ∧ (∀ q, r = some q → mK S1 q = 4))) args s 1 4 (mF H0)) (F0 m 23 ls []) := by
      intro fu
      induction fu with
      | zero => intro o2 o ob oa H locs ls h23_0 h23_1 h23_2 h23_3 hfu; exact absurd hfu (by omega)
      | succ fu ih23 =>
        intro o2 o ob oa H locs ls h23_0 h23_1 h23_2 h23_3 hfu hl hM
        have koa := h23_0
        have kob := h23_1
        have ko := h23_2
        have ko2 := h23_3
        refine lv_aloadQ hx hb dX3_of_23 (lv_at hl 4 rfl) ?_
        cases o with
        | none =>
          refine lv_ifnullN (tgt := 106) hx hb dX3_of_25 (by decide) ?_
          refine lv_aload_nQ hx hb dX3_of_106 rfl (lv_at hl 2 rfl) ?_
          cases oa with
          | none =>
            refine lv_ifnullN (tgt := 114) hx hb dX3_of_107 (by decide) ?_
            refine lv_null hx hb dX3_of_114 ?_
            refine W.widen (k := 1) (n := 4) (by first | decide | omega) (by first | decide | omega) ?_
            exact r_retR (v := none) C hr hlk hM (⟨by omega, by omega, hX, hI, fun z h => by cases h⟩) dX3_of_115
          | some qv5 =>
            have kqv5 : mK S qv5 = 6 := koa qv5 rfl
            refine lv_ifnull hx hb dX3_of_107 ?_
            refine lv_aload_nQ hx hb dX3_of_110 rfl (lv_at hl 3 rfl) ?_
            cases ob with
            | none =>
              refine lv_ifnonnullN hx hb dX3_of_111 ?_
              refine lv_null hx hb dX3_of_114 ?_
              refine W.widen (k := 1) (n := 4) (by first | decide | omega) (by first | decide | omega) ?_
              exact r_retR (v := none) C hr hlk hM (⟨by omega, by omega, hX, hI, fun z h => by cases h⟩) dX3_of_115
            | some qv6 =>
              have kqv6 : mK S qv6 = 6 := kob qv6 rfl
              refine lv_ifnonnull (tgt := 116) hx hb dX3_of_111 (by decide) ?_
              refine lv_aload_n hx hb dX3_of_116 rfl (lv_at hl 2 rfl) ?_
              refine r_getN (ci := 5) (k := 6) (v := .int (mI S 506 qv5)) C hM kqv5 f_X3_30 rfl dX3_of_117 ?_
              refine lv_topi (fun xv7 exv7 => ?_)
              refine lv_aload_n hx hb dX3_of_120 rfl (lv_at hl 3 rfl) ?_
              refine r_getN (ci := 5) (k := 6) (v := .int (mI S 506 qv6)) C hM kqv6 f_X3_30 rfl dX3_of_121 ?_
              refine lv_topi (fun xv8 exv8 => ?_)
              refine va_mmin hx hb (hml.trans hl.1.symm) hown (hts _ m_X3_40) (hts _ i_J9_min_7cf53.2) (hts _ i_J9_min_7cf53.1.2.1) (hts _ i_J9_min_7cf53.1.1) (Nat.le_of_ble_eq_true rfl) (Nat.le_of_ble_eq_true rfl) (by decide) (by decide) dX3_of_124 ?_
              refine lv_topi (fun xv9 exv9 => ?_)
              refine lv_istore (lv' := [(6, .int xv9), (0, .ref h0), (1, .ref h1), (2, .ref qv5), (3, .ref qv6), (4, .null), (5, va_rf o2)]) hx hb dX3_of_127 hl (by decide) (by simp [cat_rf, cat_i, cat_l, cat_a, cat_n] <;> first | decide | (repeat' (first | rfl | constructor))) (fun ls hl => ?_)
              refine r_new (ci := 3) C hM rfl k_X3_10 in_X3 ini_X3 (by decide) (by decide) dX3_of_129 (fun qv10 H zqv10 hM => ?_)
              have hM : mH D H0 (nO S qv10 3) (kc + 1) (ns + 4) H locs := hM
              have kh0 : mK (nO S qv10 3) h0 = 6 := (mX.O (S := S) (a := qv10) (ci := 3) zqv10).k kh0
              have kh1 : mK (nO S qv10 3) h1 = 6 := (mX.O (S := S) (a := qv10) (ci := 3) zqv10).k kh1
              have kqv5 : mK (nO S qv10 3) qv5 = 6 := (mX.O (S := S) (a := qv10) (ci := 3) zqv10).k kqv5
              have kqv6 : mK (nO S qv10 3) qv6 = 6 := (mX.O (S := S) (a := qv10) (ci := 3) zqv10).k kqv6
              have ko2 : ∀ q, o2 = some q → mK (nO S qv10 3) q = 6 := fun q h => (mX.O (S := S) (a := qv10) (ci := 3) zqv10).k (ko2 q h)
              have kqv10 : mK (nO S qv10 3) qv10 = 4 := kO
              have hX := hX.trans (mX.O (ci := 3) zqv10)
              have hI := CI.newO (ci := 3) hI zqv10 (by decide) (by decide)
              have hI : CI (xl x0 qv10 [300]) u tl rho (nO S qv10 3) := CI.todo (ci := 3) hI kqv10 (by decide)
              refine lv_dup hx hb dX3_of_132 rfl ?_
              refine lv_aload_n hx hb dX3_of_133 rfl (lv_at hl 1 rfl) ?_
              refine lv_aload_n hx hb dX3_of_134 rfl (lv_at hl 3 rfl) ?_
              refine r_getN (ci := 5) (k := 7) (v := .int (mI (nO S qv10 3) 507 qv5)) C hM kqv5 f_X3_25 rfl dX3_of_135 ?_
              refine lv_topi (fun xv11 exv11 => ?_)
              refine lv_iload hx hb dX3_of_138 (lv_at hl 0 rfl) ?_
              refine lv_aload_n hx hb dX3_of_140 rfl (lv_at hl 3 rfl) ?_
              refine r_getN (ci := 5) (k := 6) (v := .int (mI (nO S qv10 3) 506 qv5)) C hM kqv5 f_X3_30 rfl dX3_of_141 ?_
              refine lv_topi (fun xv12 exv12 => ?_)
              refine lv_aload_n hx hb dX3_of_144 rfl (lv_at hl 4 rfl) ?_
              refine r_getN (ci := 5) (k := 6) (v := .int (mI (nO S qv10 3) 506 qv6)) C hM kqv6 f_X3_30 rfl dX3_of_145 ?_
              refine lv_topi (fun xv13 exv13 => ?_)
              refine lv_isub hx hb dX3_of_148 ?_
              refine lv_topi (fun xv14 exv14 => ?_)
              refine va_mabs hx hb (hml.trans hl.1.symm) hown (hts _ m_X3_46) (hts _ i_J9_abs_0f7a4.2) (hts _ i_J9_abs_0f7a4.1.2.1) (hts _ i_J9_abs_0f7a4.1.1) (Nat.le_of_ble_eq_true rfl) (Nat.le_of_ble_eq_true rfl) (by decide) (by decide) dX3_of_149 ?_
              refine lv_topi (fun xv15 exv15 => ?_)
              refine r_I (As := [.ref h0, .int xv11, .int xv9, .int xv15]) (rest := [.ref qv10]) C hM (c_X3_init l D H0 (nO S qv10 3) (kc + 1) (ns + 4) qv10 h0 xv11 xv9 xv15 hI kqv10 kh0) i_X3_init m_X3_50 rfl hl.1 rfl (Nat.le_of_ble_eq_true rfl) ⟨by decide, by decide⟩ ⟨by decide, by decide⟩ dX3_of_152 (fun uv19 Sv16 kv17 nv18 H locs pv20 hM => ?_)
              obtain ⟨rfl, rfl, hx9, hI⟩ := pv20
              have kh0 : mK Sv16 h0 = 6 := (hx9).k kh0
              have kh1 : mK Sv16 h1 = 6 := (hx9).k kh1
              have kqv5 : mK Sv16 qv5 = 6 := (hx9).k kqv5
              have kqv6 : mK Sv16 qv6 = 6 := (hx9).k kqv6
              have kqv10 : mK Sv16 qv10 = 4 := (hx9).k kqv10
              have ko2 : ∀ q, o2 = some q → mK Sv16 q = 6 := fun q h => (hx9).k (ko2 q h)
              have hX := hX.trans hx9
              refine W.eq (g2 := F0 m 155 ls [.ref qv10]) rfl ?_
              refine W.widen (k := 1) (n := 4) (by first | decide | omega) (by first | decide | omega) ?_
              exact r_retR (v := (some qv10)) C hr hlk hM (⟨by omega, by omega, hX, hI, fun z h => by cases h; exact kqv10⟩) dX3_of_155
        | some qv4 =>
          have kqv4 : mK S qv4 = 6 := ko qv4 rfl
          refine lv_ifnull hx hb dX3_of_25 ?_
          refine lv_aloadQ hx hb dX3_of_28 (lv_at hl 5 rfl) ?_
          cases o2 with
          | none =>
            refine lv_ifnullN (tgt := 106) hx hb dX3_of_30 (by decide) ?_
            refine lv_aload_nQ hx hb dX3_of_106 rfl (lv_at hl 2 rfl) ?_
            cases oa with
            | none =>
              refine lv_ifnullN (tgt := 114) hx hb dX3_of_107 (by decide) ?_
              refine lv_null hx hb dX3_of_114 ?_
              refine W.widen (k := 1) (n := 4) (by first | decide | omega) (by first | decide | omega) ?_
              exact r_retR (v := none) C hr hlk hM (⟨by omega, by omega, hX, hI, fun z h => by cases h⟩) dX3_of_115
            | some qv22 =>
              have kqv22 : mK S qv22 = 6 := koa qv22 rfl
              refine lv_ifnull hx hb dX3_of_107 ?_
              refine lv_aload_nQ hx hb dX3_of_110 rfl (lv_at hl 3 rfl) ?_
              cases ob with
              | none =>
                refine lv_ifnonnullN hx hb dX3_of_111 ?_
                refine lv_null hx hb dX3_of_114 ?_
                refine W.widen (k := 1) (n := 4) (by first | decide | omega) (by first | decide | omega) ?_
                exact r_retR (v := none) C hr hlk hM (⟨by omega, by omega, hX, hI, fun z h => by cases h⟩) dX3_of_115
              | some qv23 =>
                have kqv23 : mK S qv23 = 6 := kob qv23 rfl
                refine lv_ifnonnull (tgt := 116) hx hb dX3_of_111 (by decide) ?_
                refine lv_aload_n hx hb dX3_of_116 rfl (lv_at hl 2 rfl) ?_
                refine r_getN (ci := 5) (k := 6) (v := .int (mI S 506 qv22)) C hM kqv22 f_X3_30 rfl dX3_of_117 ?_
                refine lv_topi (fun xv24 exv24 => ?_)
                refine lv_aload_n hx hb dX3_of_120 rfl (lv_at hl 3 rfl) ?_
                refine r_getN (ci := 5) (k := 6) (v := .int (mI S 506 qv23)) C hM kqv23 f_X3_30 rfl dX3_of_121 ?_
                refine lv_topi (fun xv25 exv25 => ?_)
                refine va_mmin hx hb (hml.trans hl.1.symm) hown (hts _ m_X3_40) (hts _ i_J9_min_7cf53.2) (hts _ i_J9_min_7cf53.1.2.1) (hts _ i_J9_min_7cf53.1.1) (Nat.le_of_ble_eq_true rfl) (Nat.le_of_ble_eq_true rfl) (by decide) (by decide) dX3_of_124 ?_
                refine lv_topi (fun xv26 exv26 => ?_)
                refine lv_istore (lv' := [(6, .int xv26), (0, .ref h0), (1, .ref h1), (2, .ref qv22), (3, .ref qv23), (4, .ref qv4), (5, .null)]) hx hb dX3_of_127 hl (by decide) rfl (fun ls hl => ?_)
                refine r_new (ci := 3) C hM rfl k_X3_10 in_X3 ini_X3 (by decide) (by decide) dX3_of_129 (fun qv27 H zqv27 hM => ?_)
                have hM : mH D H0 (nO S qv27 3) (kc + 1) (ns + 4) H locs := hM
                have kh0 : mK (nO S qv27 3) h0 = 6 := (mX.O (S := S) (a := qv27) (ci := 3) zqv27).k kh0
                have kh1 : mK (nO S qv27 3) h1 = 6 := (mX.O (S := S) (a := qv27) (ci := 3) zqv27).k kh1
                have kqv22 : mK (nO S qv27 3) qv22 = 6 := (mX.O (S := S) (a := qv27) (ci := 3) zqv27).k kqv22
                have kqv23 : mK (nO S qv27 3) qv23 = 6 := (mX.O (S := S) (a := qv27) (ci := 3) zqv27).k kqv23
                have kqv4 : mK (nO S qv27 3) qv4 = 6 := (mX.O (S := S) (a := qv27) (ci := 3) zqv27).k kqv4
                have kqv27 : mK (nO S qv27 3) qv27 = 4 := kO
                have hX := hX.trans (mX.O (ci := 3) zqv27)
                have hI := CI.newO (ci := 3) hI zqv27 (by decide) (by decide)
                have hI : CI (xl x0 qv27 [300]) u tl rho (nO S qv27 3) := CI.todo (ci := 3) hI kqv27 (by decide)
                refine lv_dup hx hb dX3_of_132 rfl ?_
                refine lv_aload_n hx hb dX3_of_133 rfl (lv_at hl 1 rfl) ?_
                refine lv_aload_n hx hb dX3_of_134 rfl (lv_at hl 3 rfl) ?_
                refine r_getN (ci := 5) (k := 7) (v := .int (mI (nO S qv27 3) 507 qv22)) C hM kqv22 f_X3_25 rfl dX3_of_135 ?_
                refine lv_topi (fun xv28 exv28 => ?_)
                refine lv_iload hx hb dX3_of_138 (lv_at hl 0 rfl) ?_
                refine lv_aload_n hx hb dX3_of_140 rfl (lv_at hl 3 rfl) ?_
                refine r_getN (ci := 5) (k := 6) (v := .int (mI (nO S qv27 3) 506 qv22)) C hM kqv22 f_X3_30 rfl dX3_of_141 ?_
                refine lv_topi (fun xv29 exv29 => ?_)
                refine lv_aload_n hx hb dX3_of_144 rfl (lv_at hl 4 rfl) ?_
                refine r_getN (ci := 5) (k := 6) (v := .int (mI (nO S qv27 3) 506 qv23)) C hM kqv23 f_X3_30 rfl dX3_of_145 ?_
                refine lv_topi (fun xv30 exv30 => ?_)
                refine lv_isub hx hb dX3_of_148 ?_
                refine lv_topi (fun xv31 exv31 => ?_)
                refine va_mabs hx hb (hml.trans hl.1.symm) hown (hts _ m_X3_46) (hts _ i_J9_abs_0f7a4.2) (hts _ i_J9_abs_0f7a4.1.2.1) (hts _ i_J9_abs_0f7a4.1.1) (Nat.le_of_ble_eq_true rfl) (Nat.le_of_ble_eq_true rfl) (by decide) (by decide) dX3_of_149 ?_
                refine lv_topi (fun xv32 exv32 => ?_)
                refine r_I (As := [.ref h0, .int xv28, .int xv26, .int xv32]) (rest := [.ref qv27]) C hM (c_X3_init l D H0 (nO S qv27 3) (kc + 1) (ns + 4) qv27 h0 xv28 xv26 xv32 hI kqv27 kh0) i_X3_init m_X3_50 rfl hl.1 rfl (Nat.le_of_ble_eq_true rfl) ⟨by decide, by decide⟩ ⟨by decide, by decide⟩ dX3_of_152 (fun uv36 Sv33 kv34 nv35 H locs pv37 hM => ?_)
                obtain ⟨rfl, rfl, hx9, hI⟩ := pv37
                have kh0 : mK Sv33 h0 = 6 := (hx9).k kh0
                have kh1 : mK Sv33 h1 = 6 := (hx9).k kh1
                have kqv22 : mK Sv33 qv22 = 6 := (hx9).k kqv22
                have kqv23 : mK Sv33 qv23 = 6 := (hx9).k kqv23
                have kqv4 : mK Sv33 qv4 = 6 := (hx9).k kqv4
                have kqv27 : mK Sv33 qv27 = 4 := (hx9).k kqv27
                have hX := hX.trans hx9
                refine W.eq (g2 := F0 m 155 ls [.ref qv27]) rfl ?_
                refine W.widen (k := 1) (n := 4) (by first | decide | omega) (by first | decide | omega) ?_
                exact r_retR (v := (some qv27)) C hr hlk hM (⟨by omega, by omega, hX, hI, fun z h => by cases h; exact kqv27⟩) dX3_of_155
          | some qv21 =>
            have kqv21 : mK S qv21 = 6 := ko2 qv21 rfl
            refine lv_ifnull hx hb dX3_of_30 ?_
            refine lv_aload hx hb dX3_of_33 (lv_at hl 4 rfl) ?_
            refine r_getN (ci := 5) (k := 6) (v := .int (mI S 506 qv4)) C hM kqv4 f_X3_30 rfl dX3_of_35 ?_
            refine lv_topi (fun xv38 exv38 => ?_)
            refine lv_aload hx hb dX3_of_38 (lv_at hl 5 rfl) ?_
            refine r_getN (ci := 5) (k := 6) (v := .int (mI S 506 qv21)) C hM kqv21 f_X3_30 rfl dX3_of_40 ?_
            refine lv_topi (fun xv39 exv39 => ?_)
            refine lv_icmp_eq (tgt := 50) hx hb dX3_of_43 (by decide) (fun cv40 => ?_) (fun cv40 => ?_)
            · have tcv40 := eqT cv40
              refine lv_iconst (v := 0) hx hb dX3_of_50 (by decide) ?_
              refine lv_istore (lv' := [(6, .int 0), (0, .ref h0), (1, .ref h1), (2, va_rf oa), (3, va_rf ob), (4, .ref qv4), (5, .ref qv21)]) hx hb dX3_of_51 hl (by decide) rfl (fun ls hl => ?_)
              refine lv_aload hx hb dX3_of_53 (lv_at hl 5 rfl) ?_
              refine r_getN (ci := 5) (k := 2) (v := .long (mL S 502 qv4)) C hM kqv4 f_X3_33 rfl dX3_of_55 ?_
              refine lv_topl (fun lv41 elv41 => ?_)
              refine lv_aload hx hb dX3_of_58 (lv_at hl 6 rfl) ?_
              refine r_getN (ci := 5) (k := 2) (v := .long (mL S 502 qv21)) C hM kqv21 f_X3_33 rfl dX3_of_60 ?_
              refine lv_topl (fun lv42 elv42 => ?_)
              refine W.lcmp hx hb dX3_of_63 ?_
              refine lv_topi (fun xv43 exv43 => ?_)
              refine lv_if_ne (tgt := 76) hx hb dX3_of_64 (by decide) (fun cv44 => ?_) (fun cv44 => ?_)
              · have tcv44 := eqF cv44
                refine lv_null hx hb dX3_of_76 ?_
                refine W.widen (k := 1) (n := 4) (by first | decide | omega) (by first | decide | omega) ?_
                exact r_retR (v := none) C hr hlk hM (⟨by omega, by omega, hX, hI, fun z h => by cases h⟩) dX3_of_77
              · have tcv44 := eqT cv44
                refine lv_iload hx hb dX3_of_67 (lv_at hl 0 rfl) ?_
                refine lv_if_eq (tgt := 78) hx hb dX3_of_69 (by decide) (fun cv45 => ?_) (fun cv45 => ?_)
                · have tcv45 := eqT cv45
                  refine lv_iload hx hb dX3_of_78 (lv_at hl 0 rfl) ?_
                  refine lv_if_eq (tgt := 89) hx hb dX3_of_80 (by decide) (fun cv46 => ?_) (fun cv46 => ?_)
                  · have tcv46 := eqT cv46
                    refine lv_aload hx hb dX3_of_89 (lv_at hl 5 rfl) ?_
                    refine r_getN (ci := 5) (k := 3) C hM kqv4 f_X3_37 rfl dX3_of_91 ?_
                    obtain ⟨rv47, erv47, krv47⟩ : ∃ r : Option Nat, mR S 503 qv4 = r ∧ ∀ q, r = some q → mK S q = 6 := ⟨_, rfl, TI.opt hI.1 (ci := 5) (k := 3) kqv4⟩
                    refine W.eq (g2 := F0 m 94 ls [va_rf rv47]) (by rw [← erv47]; rfl) ?_
                    refine lv_astoreQ (lv' := [(4, va_rf rv47), (6, .int 0), (0, .ref h0), (1, .ref h1), (2, va_rf oa), (3, va_rf ob), (5, .ref qv21)]) hx hb dX3_of_94 hl (by decide) (by simp [cat_rf, cat_i, cat_l, cat_a, cat_n] <;> first | decide | (repeat' (first | rfl | constructor))) (fun ls hl => ?_)
                    refine lv_aload hx hb dX3_of_96 (lv_at hl 6 rfl) ?_
                    refine r_getN (ci := 5) (k := 3) C hM kqv21 f_X3_37 rfl dX3_of_98 ?_
                    obtain ⟨rv48, erv48, krv48⟩ : ∃ r : Option Nat, mR S 503 qv21 = r ∧ ∀ q, r = some q → mK S q = 6 := ⟨_, rfl, TI.opt hI.1 (ci := 5) (k := 3) kqv21⟩
                    refine W.eq (g2 := F0 m 101 ls [va_rf rv48]) (by rw [← erv48]; rfl) ?_
                    refine lv_astoreQ (lv' := [(5, va_rf rv48), (4, va_rf rv47), (6, .int 0), (0, .ref h0), (1, .ref h1), (2, va_rf oa), (3, va_rf ob)]) hx hb dX3_of_101 hl (by decide) (by simp [cat_rf, cat_i, cat_l, cat_a, cat_n] <;> first | decide | (repeat' (first | rfl | constructor))) (fun ls hl => ?_)
                    refine lv_goto (tgt := 23) hx hb dX3_of_103 (by decide) ?_
                    have h94 := cm503 hI kqv4; rw [erv47] at h94
                    exact ih23 rv48 rv47 ob oa _ _ _ (koa) (kob) (krv47) (krv48) (by omega) (lv_sub hl [3, 4, 5, 6, 1, 0] rfl) hM
                  · have tcv46 := eqF cv46
                    refine lv_aload hx hb dX3_of_83 (lv_at hl 5 rfl) ?_
                    refine lv_astore_n (lv' := [(2, .ref qv4), (6, .int 0), (0, .ref h0), (1, .ref h1), (3, va_rf ob), (4, .ref qv4), (5, .ref qv21)]) hx hb dX3_of_85 rfl hl (by decide) rfl (fun ls hl => ?_)
                    refine lv_aload hx hb dX3_of_86 (lv_at hl 6 rfl) ?_
                    refine lv_astore_n (lv' := [(3, .ref qv21), (2, .ref qv4), (6, .int 0), (0, .ref h0), (1, .ref h1), (4, .ref qv4), (5, .ref qv21)]) hx hb dX3_of_88 rfl hl (by decide) rfl (fun ls hl => ?_)
                    refine lv_aload hx hb dX3_of_89 (lv_at hl 5 rfl) ?_
                    refine r_getN (ci := 5) (k := 3) C hM kqv4 f_X3_37 rfl dX3_of_91 ?_
                    obtain ⟨rv49, erv49, krv49⟩ : ∃ r : Option Nat, mR S 503 qv4 = r ∧ ∀ q, r = some q → mK S q = 6 := ⟨_, rfl, TI.opt hI.1 (ci := 5) (k := 3) kqv4⟩
                    refine W.eq (g2 := F0 m 94 ls [va_rf rv49]) (by rw [← erv49]; rfl) ?_
                    refine lv_astoreQ (lv' := [(4, va_rf rv49), (3, .ref qv21), (2, .ref qv4), (6, .int 0), (0, .ref h0), (1, .ref h1), (5, .ref qv21)]) hx hb dX3_of_94 hl (by decide) rfl (fun ls hl => ?_)
                    refine lv_aload hx hb dX3_of_96 (lv_at hl 6 rfl) ?_
                    refine r_getN (ci := 5) (k := 3) C hM kqv21 f_X3_37 rfl dX3_of_98 ?_
                    obtain ⟨rv50, erv50, krv50⟩ : ∃ r : Option Nat, mR S 503 qv21 = r ∧ ∀ q, r = some q → mK S q = 6 := ⟨_, rfl, TI.opt hI.1 (ci := 5) (k := 3) kqv21⟩
                    refine W.eq (g2 := F0 m 101 ls [va_rf rv50]) (by rw [← erv50]; rfl) ?_
                    refine lv_astoreQ (lv' := [(5, va_rf rv50), (4, va_rf rv49), (3, .ref qv21), (2, .ref qv4), (6, .int 0), (0, .ref h0), (1, .ref h1)]) hx hb dX3_of_101 hl (by decide) (by simp [cat_rf, cat_i, cat_l, cat_a, cat_n] <;> first | decide | (repeat' (first | rfl | constructor))) (fun ls hl => ?_)
                    refine lv_goto (tgt := 23) hx hb dX3_of_103 (by decide) ?_
                    have h94 := cm503 hI kqv4; rw [erv49] at h94
                    exact ih23 rv50 rv49 (some qv21) (some qv4) _ _ _ (fun z h => by cases h; exact kqv4) (fun z h => by cases h; exact kqv21) (krv49) (krv50) (by omega) (lv_sub hl [5, 6, 3, 2, 1, 0] rfl) hM
                · have tcv45 := eqF cv45
                  refine lv_aload_nQ hx hb dX3_of_72 rfl (lv_at hl 3 rfl) ?_
                  cases oa with
                  | none =>
                    refine lv_ifnullN (tgt := 78) hx hb dX3_of_73 (by decide) ?_
                    refine lv_iload hx hb dX3_of_78 (lv_at hl 0 rfl) ?_
                    refine lv_if_eq (tgt := 89) hx hb dX3_of_80 (by decide) (fun cv52 => ?_) (fun cv52 => ?_)
                    · have tcv52 := eqT cv52
                      refine lv_aload hx hb dX3_of_89 (lv_at hl 5 rfl) ?_
                      refine r_getN (ci := 5) (k := 3) C hM kqv4 f_X3_37 rfl dX3_of_91 ?_
                      obtain ⟨rv53, erv53, krv53⟩ : ∃ r : Option Nat, mR S 503 qv4 = r ∧ ∀ q, r = some q → mK S q = 6 := ⟨_, rfl, TI.opt hI.1 (ci := 5) (k := 3) kqv4⟩
                      refine W.eq (g2 := F0 m 94 ls [va_rf rv53]) (by rw [← erv53]; rfl) ?_
                      refine lv_astoreQ (lv' := [(4, va_rf rv53), (6, .int 0), (0, .ref h0), (1, .ref h1), (2, .null), (3, va_rf ob), (5, .ref qv21)]) hx hb dX3_of_94 hl (by decide) (by simp [cat_rf, cat_i, cat_l, cat_a, cat_n] <;> first | decide | (repeat' (first | rfl | constructor))) (fun ls hl => ?_)
                      refine lv_aload hx hb dX3_of_96 (lv_at hl 6 rfl) ?_
                      refine r_getN (ci := 5) (k := 3) C hM kqv21 f_X3_37 rfl dX3_of_98 ?_
                      obtain ⟨rv54, erv54, krv54⟩ : ∃ r : Option Nat, mR S 503 qv21 = r ∧ ∀ q, r = some q → mK S q = 6 := ⟨_, rfl, TI.opt hI.1 (ci := 5) (k := 3) kqv21⟩
                      refine W.eq (g2 := F0 m 101 ls [va_rf rv54]) (by rw [← erv54]; rfl) ?_
                      refine lv_astoreQ (lv' := [(5, va_rf rv54), (4, va_rf rv53), (6, .int 0), (0, .ref h0), (1, .ref h1), (2, .null), (3, va_rf ob)]) hx hb dX3_of_101 hl (by decide) (by simp [cat_rf, cat_i, cat_l, cat_a, cat_n] <;> first | decide | (repeat' (first | rfl | constructor))) (fun ls hl => ?_)
                      refine lv_goto (tgt := 23) hx hb dX3_of_103 (by decide) ?_
                      have h94 := cm503 hI kqv4; rw [erv53] at h94
                      exact ih23 rv54 rv53 ob none _ _ _ (fun z h => by cases h) (kob) (krv53) (krv54) (by omega) (lv_sub hl [3, 4, 5, 6, 1, 0] rfl) hM
                    · have tcv52 := eqF cv52
                      refine lv_aload hx hb dX3_of_83 (lv_at hl 5 rfl) ?_
                      refine lv_astore_n (lv' := [(2, .ref qv4), (6, .int 0), (0, .ref h0), (1, .ref h1), (3, va_rf ob), (4, .ref qv4), (5, .ref qv21)]) hx hb dX3_of_85 rfl hl (by decide) rfl (fun ls hl => ?_)
                      refine lv_aload hx hb dX3_of_86 (lv_at hl 6 rfl) ?_
                      refine lv_astore_n (lv' := [(3, .ref qv21), (2, .ref qv4), (6, .int 0), (0, .ref h0), (1, .ref h1), (4, .ref qv4), (5, .ref qv21)]) hx hb dX3_of_88 rfl hl (by decide) rfl (fun ls hl => ?_)
                      refine lv_aload hx hb dX3_of_89 (lv_at hl 5 rfl) ?_
                      refine r_getN (ci := 5) (k := 3) C hM kqv4 f_X3_37 rfl dX3_of_91 ?_
                      obtain ⟨rv55, erv55, krv55⟩ : ∃ r : Option Nat, mR S 503 qv4 = r ∧ ∀ q, r = some q → mK S q = 6 := ⟨_, rfl, TI.opt hI.1 (ci := 5) (k := 3) kqv4⟩
                      refine W.eq (g2 := F0 m 94 ls [va_rf rv55]) (by rw [← erv55]; rfl) ?_
                      refine lv_astoreQ (lv' := [(4, va_rf rv55), (3, .ref qv21), (2, .ref qv4), (6, .int 0), (0, .ref h0), (1, .ref h1), (5, .ref qv21)]) hx hb dX3_of_94 hl (by decide) rfl (fun ls hl => ?_)
                      refine lv_aload hx hb dX3_of_96 (lv_at hl 6 rfl) ?_
                      refine r_getN (ci := 5) (k := 3) C hM kqv21 f_X3_37 rfl dX3_of_98 ?_
                      obtain ⟨rv56, erv56, krv56⟩ : ∃ r : Option Nat, mR S 503 qv21 = r ∧ ∀ q, r = some q → mK S q = 6 := ⟨_, rfl, TI.opt hI.1 (ci := 5) (k := 3) kqv21⟩
                      refine W.eq (g2 := F0 m 101 ls [va_rf rv56]) (by rw [← erv56]; rfl) ?_
                      refine lv_astoreQ (lv' := [(5, va_rf rv56), (4, va_rf rv55), (3, .ref qv21), (2, .ref qv4), (6, .int 0), (0, .ref h0), (1, .ref h1)]) hx hb dX3_of_101 hl (by decide) (by simp [cat_rf, cat_i, cat_l, cat_a, cat_n] <;> first | decide | (repeat' (first | rfl | constructor))) (fun ls hl => ?_)
                      refine lv_goto (tgt := 23) hx hb dX3_of_103 (by decide) ?_
                      have h94 := cm503 hI kqv4; rw [erv55] at h94
                      exact ih23 rv56 rv55 (some qv21) (some qv4) _ _ _ (fun z h => by cases h; exact kqv4) (fun z h => by cases h; exact kqv21) (krv55) (krv56) (by omega) (lv_sub hl [5, 6, 3, 2, 1, 0] rfl) hM
                  | some qv51 =>
                    have kqv51 : mK S qv51 = 6 := koa qv51 rfl
                    refine lv_ifnull hx hb dX3_of_73 ?_
                    refine lv_null hx hb dX3_of_76 ?_
                    refine W.widen (k := 1) (n := 4) (by first | decide | omega) (by first | decide | omega) ?_
                    exact r_retR (v := none) C hr hlk hM (⟨by omega, by omega, hX, hI, fun z h => by cases h⟩) dX3_of_77
            · have tcv40 := eqF cv40
              refine lv_iconst (v := 1) hx hb dX3_of_46 (by decide) ?_
              refine lv_goto (tgt := 51) hx hb dX3_of_47 (by decide) ?_
              refine lv_istore (lv' := [(6, .int 1), (0, .ref h0), (1, .ref h1), (2, va_rf oa), (3, va_rf ob), (4, .ref qv4), (5, .ref qv21)]) hx hb dX3_of_51 hl (by decide) rfl (fun ls hl => ?_)
              refine lv_aload hx hb dX3_of_53 (lv_at hl 5 rfl) ?_
              refine r_getN (ci := 5) (k := 2) (v := .long (mL S 502 qv4)) C hM kqv4 f_X3_33 rfl dX3_of_55 ?_
              refine lv_topl (fun lv57 elv57 => ?_)
              refine lv_aload hx hb dX3_of_58 (lv_at hl 6 rfl) ?_
              refine r_getN (ci := 5) (k := 2) (v := .long (mL S 502 qv21)) C hM kqv21 f_X3_33 rfl dX3_of_60 ?_
              refine lv_topl (fun lv58 elv58 => ?_)
              refine W.lcmp hx hb dX3_of_63 ?_
              refine lv_topi (fun xv59 exv59 => ?_)
              refine lv_if_ne (tgt := 76) hx hb dX3_of_64 (by decide) (fun cv60 => ?_) (fun cv60 => ?_)
              · have tcv60 := eqF cv60
                refine lv_null hx hb dX3_of_76 ?_
                refine W.widen (k := 1) (n := 4) (by first | decide | omega) (by first | decide | omega) ?_
                exact r_retR (v := none) C hr hlk hM (⟨by omega, by omega, hX, hI, fun z h => by cases h⟩) dX3_of_77
              · have tcv60 := eqT cv60
                refine lv_iload hx hb dX3_of_67 (lv_at hl 0 rfl) ?_
                refine lv_if_eq (tgt := 78) hx hb dX3_of_69 (by decide) (fun cv61 => ?_) (fun cv61 => ?_)
                · have tcv61 := eqT cv61
                  refine lv_iload hx hb dX3_of_78 (lv_at hl 0 rfl) ?_
                  refine lv_if_eq (tgt := 89) hx hb dX3_of_80 (by decide) (fun cv62 => ?_) (fun cv62 => ?_)
                  · have tcv62 := eqT cv62
                    refine lv_aload hx hb dX3_of_89 (lv_at hl 5 rfl) ?_
                    refine r_getN (ci := 5) (k := 3) C hM kqv4 f_X3_37 rfl dX3_of_91 ?_
                    obtain ⟨rv63, erv63, krv63⟩ : ∃ r : Option Nat, mR S 503 qv4 = r ∧ ∀ q, r = some q → mK S q = 6 := ⟨_, rfl, TI.opt hI.1 (ci := 5) (k := 3) kqv4⟩
                    refine W.eq (g2 := F0 m 94 ls [va_rf rv63]) (by rw [← erv63]; rfl) ?_
                    refine lv_astoreQ (lv' := [(4, va_rf rv63), (6, .int 1), (0, .ref h0), (1, .ref h1), (2, va_rf oa), (3, va_rf ob), (5, .ref qv21)]) hx hb dX3_of_94 hl (by decide) (by simp [cat_rf, cat_i, cat_l, cat_a, cat_n] <;> first | decide | (repeat' (first | rfl | constructor))) (fun ls hl => ?_)
                    refine lv_aload hx hb dX3_of_96 (lv_at hl 6 rfl) ?_
                    refine r_getN (ci := 5) (k := 3) C hM kqv21 f_X3_37 rfl dX3_of_98 ?_
                    obtain ⟨rv64, erv64, krv64⟩ : ∃ r : Option Nat, mR S 503 qv21 = r ∧ ∀ q, r = some q → mK S q = 6 := ⟨_, rfl, TI.opt hI.1 (ci := 5) (k := 3) kqv21⟩
                    refine W.eq (g2 := F0 m 101 ls [va_rf rv64]) (by rw [← erv64]; rfl) ?_
                    refine lv_astoreQ (lv' := [(5, va_rf rv64), (4, va_rf rv63), (6, .int 1), (0, .ref h0), (1, .ref h1), (2, va_rf oa), (3, va_rf ob)]) hx hb dX3_of_101 hl (by decide) (by simp [cat_rf, cat_i, cat_l, cat_a, cat_n] <;> first | decide | (repeat' (first | rfl | constructor))) (fun ls hl => ?_)
                    refine lv_goto (tgt := 23) hx hb dX3_of_103 (by decide) ?_
                    have h94 := cm503 hI kqv4; rw [erv63] at h94
                    exact ih23 rv64 rv63 ob oa _ _ _ (koa) (kob) (krv63) (krv64) (by omega) (lv_sub hl [3, 4, 5, 6, 1, 0] rfl) hM
                  · have tcv62 := eqF cv62
                    refine lv_aload hx hb dX3_of_83 (lv_at hl 5 rfl) ?_
                    refine lv_astore_n (lv' := [(2, .ref qv4), (6, .int 1), (0, .ref h0), (1, .ref h1), (3, va_rf ob), (4, .ref qv4), (5, .ref qv21)]) hx hb dX3_of_85 rfl hl (by decide) rfl (fun ls hl => ?_)
                    refine lv_aload hx hb dX3_of_86 (lv_at hl 6 rfl) ?_
                    refine lv_astore_n (lv' := [(3, .ref qv21), (2, .ref qv4), (6, .int 1), (0, .ref h0), (1, .ref h1), (4, .ref qv4), (5, .ref qv21)]) hx hb dX3_of_88 rfl hl (by decide) rfl (fun ls hl => ?_)
                    refine lv_aload hx hb dX3_of_89 (lv_at hl 5 rfl) ?_
                    refine r_getN (ci := 5) (k := 3) C hM kqv4 f_X3_37 rfl dX3_of_91 ?_
                    obtain ⟨rv65, erv65, krv65⟩ : ∃ r : Option Nat, mR S 503 qv4 = r ∧ ∀ q, r = some q → mK S q = 6 := ⟨_, rfl, TI.opt hI.1 (ci := 5) (k := 3) kqv4⟩
                    refine W.eq (g2 := F0 m 94 ls [va_rf rv65]) (by rw [← erv65]; rfl) ?_
                    refine lv_astoreQ (lv' := [(4, va_rf rv65), (3, .ref qv21), (2, .ref qv4), (6, .int 1), (0, .ref h0), (1, .ref h1), (5, .ref qv21)]) hx hb dX3_of_94 hl (by decide) rfl (fun ls hl => ?_)
                    refine lv_aload hx hb dX3_of_96 (lv_at hl 6 rfl) ?_
                    refine r_getN (ci := 5) (k := 3) C hM kqv21 f_X3_37 rfl dX3_of_98 ?_
                    obtain ⟨rv66, erv66, krv66⟩ : ∃ r : Option Nat, mR S 503 qv21 = r ∧ ∀ q, r = some q → mK S q = 6 := ⟨_, rfl, TI.opt hI.1 (ci := 5) (k := 3) kqv21⟩
                    refine W.eq (g2 := F0 m 101 ls [va_rf rv66]) (by rw [← erv66]; rfl) ?_
                    refine lv_astoreQ (lv' := [(5, va_rf rv66), (4, va_rf rv65), (3, .ref qv21), (2, .ref qv4), (6, .int 1), (0, .ref h0), (1, .ref h1)]) hx hb dX3_of_101 hl (by decide) (by simp [cat_rf, cat_i, cat_l, cat_a, cat_n] <;> first | decide | (repeat' (first | rfl | constructor))) (fun ls hl => ?_)
                    refine lv_goto (tgt := 23) hx hb dX3_of_103 (by decide) ?_
                    have h94 := cm503 hI kqv4; rw [erv65] at h94
                    exact ih23 rv66 rv65 (some qv21) (some qv4) _ _ _ (fun z h => by cases h; exact kqv4) (fun z h => by cases h; exact kqv21) (krv65) (krv66) (by omega) (lv_sub hl [5, 6, 3, 2, 1, 0] rfl) hM
                · have tcv61 := eqF cv61
                  refine lv_aload_nQ hx hb dX3_of_72 rfl (lv_at hl 3 rfl) ?_
                  cases oa with
                  | none =>
                    refine lv_ifnullN (tgt := 78) hx hb dX3_of_73 (by decide) ?_
                    refine lv_iload hx hb dX3_of_78 (lv_at hl 0 rfl) ?_
                    refine lv_if_eq (tgt := 89) hx hb dX3_of_80 (by decide) (fun cv68 => ?_) (fun cv68 => ?_)
                    · have tcv68 := eqT cv68
                      refine lv_aload hx hb dX3_of_89 (lv_at hl 5 rfl) ?_
                      refine r_getN (ci := 5) (k := 3) C hM kqv4 f_X3_37 rfl dX3_of_91 ?_
                      obtain ⟨rv69, erv69, krv69⟩ : ∃ r : Option Nat, mR S 503 qv4 = r ∧ ∀ q, r = some q → mK S q = 6 := ⟨_, rfl, TI.opt hI.1 (ci := 5) (k := 3) kqv4⟩
                      refine W.eq (g2 := F0 m 94 ls [va_rf rv69]) (by rw [← erv69]; rfl) ?_
                      refine lv_astoreQ (lv' := [(4, va_rf rv69), (6, .int 1), (0, .ref h0), (1, .ref h1), (2, .null), (3, va_rf ob), (5, .ref qv21)]) hx hb dX3_of_94 hl (by decide) (by simp [cat_rf, cat_i, cat_l, cat_a, cat_n] <;> first | decide | (repeat' (first | rfl | constructor))) (fun ls hl => ?_)
                      refine lv_aload hx hb dX3_of_96 (lv_at hl 6 rfl) ?_
                      refine r_getN (ci := 5) (k := 3) C hM kqv21 f_X3_37 rfl dX3_of_98 ?_
                      obtain ⟨rv70, erv70, krv70⟩ : ∃ r : Option Nat, mR S 503 qv21 = r ∧ ∀ q, r = some q → mK S q = 6 := ⟨_, rfl, TI.opt hI.1 (ci := 5) (k := 3) kqv21⟩
                      refine W.eq (g2 := F0 m 101 ls [va_rf rv70]) (by rw [← erv70]; rfl) ?_
                      refine lv_astoreQ (lv' := [(5, va_rf rv70), (4, va_rf rv69), (6, .int 1), (0, .ref h0), (1, .ref h1), (2, .null), (3, va_rf ob)]) hx hb dX3_of_101 hl (by decide) (by simp [cat_rf, cat_i, cat_l, cat_a, cat_n] <;> first | decide | (repeat' (first | rfl | constructor))) (fun ls hl => ?_)
                      refine lv_goto (tgt := 23) hx hb dX3_of_103 (by decide) ?_
                      have h94 := cm503 hI kqv4; rw [erv69] at h94
                      exact ih23 rv70 rv69 ob none _ _ _ (fun z h => by cases h) (kob) (krv69) (krv70) (by omega) (lv_sub hl [3, 4, 5, 6, 1, 0] rfl) hM
                    · have tcv68 := eqF cv68
                      refine lv_aload hx hb dX3_of_83 (lv_at hl 5 rfl) ?_
                      refine lv_astore_n (lv' := [(2, .ref qv4), (6, .int 1), (0, .ref h0), (1, .ref h1), (3, va_rf ob), (4, .ref qv4), (5, .ref qv21)]) hx hb dX3_of_85 rfl hl (by decide) rfl (fun ls hl => ?_)
                      refine lv_aload hx hb dX3_of_86 (lv_at hl 6 rfl) ?_
                      refine lv_astore_n (lv' := [(3, .ref qv21), (2, .ref qv4), (6, .int 1), (0, .ref h0), (1, .ref h1), (4, .ref qv4), (5, .ref qv21)]) hx hb dX3_of_88 rfl hl (by decide) rfl (fun ls hl => ?_)
                      refine lv_aload hx hb dX3_of_89 (lv_at hl 5 rfl) ?_
                      refine r_getN (ci := 5) (k := 3) C hM kqv4 f_X3_37 rfl dX3_of_91 ?_
                      obtain ⟨rv71, erv71, krv71⟩ : ∃ r : Option Nat, mR S 503 qv4 = r ∧ ∀ q, r = some q → mK S q = 6 := ⟨_, rfl, TI.opt hI.1 (ci := 5) (k := 3) kqv4⟩
                      refine W.eq (g2 := F0 m 94 ls [va_rf rv71]) (by rw [← erv71]; rfl) ?_
                      refine lv_astoreQ (lv' := [(4, va_rf rv71), (3, .ref qv21), (2, .ref qv4), (6, .int 1), (0, .ref h0), (1, .ref h1), (5, .ref qv21)]) hx hb dX3_of_94 hl (by decide) rfl (fun ls hl => ?_)
                      refine lv_aload hx hb dX3_of_96 (lv_at hl 6 rfl) ?_
                      refine r_getN (ci := 5) (k := 3) C hM kqv21 f_X3_37 rfl dX3_of_98 ?_
                      obtain ⟨rv72, erv72, krv72⟩ : ∃ r : Option Nat, mR S 503 qv21 = r ∧ ∀ q, r = some q → mK S q = 6 := ⟨_, rfl, TI.opt hI.1 (ci := 5) (k := 3) kqv21⟩
                      refine W.eq (g2 := F0 m 101 ls [va_rf rv72]) (by rw [← erv72]; rfl) ?_
                      refine lv_astoreQ (lv' := [(5, va_rf rv72), (4, va_rf rv71), (3, .ref qv21), (2, .ref qv4), (6, .int 1), (0, .ref h0), (1, .ref h1)]) hx hb dX3_of_101 hl (by decide) (by simp [cat_rf, cat_i, cat_l, cat_a, cat_n] <;> first | decide | (repeat' (first | rfl | constructor))) (fun ls hl => ?_)
                      refine lv_goto (tgt := 23) hx hb dX3_of_103 (by decide) ?_
                      have h94 := cm503 hI kqv4; rw [erv71] at h94
                      exact ih23 rv72 rv71 (some qv21) (some qv4) _ _ _ (fun z h => by cases h; exact kqv4) (fun z h => by cases h; exact kqv21) (krv71) (krv72) (by omega) (lv_sub hl [5, 6, 3, 2, 1, 0] rfl) hM
                  | some qv67 =>
                    have kqv67 : mK S qv67 = 6 := koa qv67 rfl
                    refine lv_ifnull hx hb dX3_of_73 ?_
                    refine lv_null hx hb dX3_of_76 ?_
                    refine W.widen (k := 1) (n := 4) (by first | decide | omega) (by first | decide | omega) ?_
                    exact r_retR (v := none) C hr hlk hM (⟨by omega, by omega, hX, hI, fun z h => by cases h⟩) dX3_of_77
    exact loop23 ((cm S h0) + 1) (some h1) (some h0) none none _ _ _ (fun z h => by cases h) (fun z h => by cases h) (fun z h => by cases h; exact kh0) (fun z h => by cases h; exact kh1) (by omega) (lv_sub hl [4, 5, 3, 2, 1, 0] rfl) hM
  · have tcv3 := eqF cv3
    refine lv_null hx hb dX3_of_11 ?_
    refine W.widen (k := 1) (n := 4) (by first | decide | omega) (by first | decide | omega) ?_
    exact r_retR (v := none) C hr hlk hM (⟨by omega, by omega, hX, hI, fun z h => by cases h⟩) dX3_of_12
set_option maxHeartbeats 4000000 in
set_option maxRecDepth 100000 in
theorem c_X11_loopOn (l : Launch) (D : gD) (H0 : gB) (S : Mem) (kc ns : Nat) (h0 : Nat) (i0 i1 i2 : Int32) {u : Nat} {tl : Int} {rho : Nat × Nat} (hI : CI x0 u tl rho S) (kh0 : mK S h0 = 12) : Met l yX11_loopOn (wsU yX11_loopOn cX11_loopOn 6 (some (.object "ClickBench$Loop"))) ({ frames := 3, cells := 1, slots := 4, locals := 70 } : Room) (mP D H0 S kc ns [.ref h0, .int i0, .int i1, .int i2]) (mQ D H0 gR (fun r S1 k1 n1 => k1 ≤ kc + 1 ∧ n1 ≤ ns + 4 ∧ mX S S1 ∧ CI x0 u tl rho S1 ∧ (∀ q, r = some q → mK S1 q = 4))) 1 4 (mF H0) := by
  refine r_met (own := RX11) (by decide +kernel) rfl (Nat.le_of_ble_eq_true rfl) ?_
  intro p e s m args below meth c C hr hlk hnm H ls hl hM
  obtain ⟨hx, hb, hml, hown, hts, -, -⟩ := id C
  have hl : lv_has ls 6 [(0, .ref h0), (1, .int i0), (2, .int i1), (3, .int i2)] := hl
  have hI0 := hI
  have hX : mX S S := mX.rf
  have t_0 : (0 : Int32).toInt = 0 := by decide
  refine lv_aload_n hx hb dX11_loopOn_0 rfl (lv_at hl 0 rfl) ?_
  refine lv_iload_n hx hb dX11_loopOn_1 rfl (lv_at hl 1 rfl) ?_
  refine lv_iload_n hx hb dX11_loopOn_2 rfl (lv_at hl 2 rfl) ?_
  refine r_V (As := [.int i0, .int i1]) (rest := []) (ci := 11) C hM (c_X11_partOn l D H0 S kc ns h0 i0 i1 hI kh0) i_X11_partOn m_X11_101 kh0 rfl rfl rfl hl.1 rfl (Nat.le_of_ble_eq_true rfl) ⟨by decide, by decide⟩ ⟨by decide, by decide⟩ dX11_loopOn_3 (fun rv4 Sv1 kv2 nv3 H locs pv5 hM => ?_)
  obtain ⟨rfl, rfl, rfl, krv4⟩ := pv5
  refine W.eq (g2 := F0 m 6 ls [va_rf rv4]) rfl ?_
  refine lv_astoreQ (lv' := [(4, va_rf rv4), (0, .ref h0), (1, .int i0), (2, .int i1), (3, .int i2)]) hx hb dX11_loopOn_6 hl (by decide) rfl (fun ls hl => ?_)
  refine lv_aload_n hx hb dX11_loopOn_8 rfl (lv_at hl 1 rfl) ?_
  refine lv_iload_n hx hb dX11_loopOn_9 rfl (lv_at hl 2 rfl) ?_
  refine lv_iload_n hx hb dX11_loopOn_10 rfl (lv_at hl 4 rfl) ?_
  refine r_V (As := [.int i0, .int i2]) (rest := []) (ci := 11) C hM (c_X11_partOn l D H0 S kc ns h0 i0 i2 hI kh0) i_X11_partOn m_X11_101 kh0 rfl rfl rfl hl.1 rfl (Nat.le_of_ble_eq_true rfl) ⟨by decide, by decide⟩ ⟨by decide, by decide⟩ dX11_loopOn_11 (fun rv9 Sv6 kv7 nv8 H locs pv10 hM => ?_)
  obtain ⟨rfl, rfl, rfl, krv9⟩ := pv10
  refine W.eq (g2 := F0 m 14 ls [va_rf rv9]) rfl ?_
  refine lv_astoreQ (lv' := [(5, va_rf rv9), (4, va_rf rv4), (0, .ref h0), (1, .int i0), (2, .int i1), (3, .int i2)]) hx hb dX11_loopOn_14 hl (by decide) (by simp [cat_rf, cat_i, cat_l, cat_a, cat_n] <;> first | decide | (repeat' (first | rfl | constructor))) (fun ls hl => ?_)
  refine lv_aloadQ hx hb dX11_loopOn_16 (lv_at hl 1 rfl) ?_
  cases rv4 with
  | none =>
    refine lv_ifnullN (tgt := 26) hx hb dX11_loopOn_18 (by decide) ?_
    refine lv_null hx hb dX11_loopOn_26 ?_
    refine lv_goto (tgt := 37) hx hb dX11_loopOn_27 (by decide) ?_
    refine W.widen (k := 1) (n := 4) (by first | decide | omega) (by first | decide | omega) ?_
    exact r_retR (v := none) C hr hlk hM (⟨by omega, by omega, hX, hI, fun z h => by cases h⟩) dX11_loopOn_37
  | some qv11 =>
    have kqv11 : mK S qv11 = 6 := krv4 qv11 rfl
    refine lv_ifnull hx hb dX11_loopOn_18 ?_
    refine lv_aloadQ hx hb dX11_loopOn_21 (lv_at hl 0 rfl) ?_
    cases rv9 with
    | none =>
      refine lv_ifnonnullN hx hb dX11_loopOn_23 ?_
      refine lv_null hx hb dX11_loopOn_26 ?_
      refine lv_goto (tgt := 37) hx hb dX11_loopOn_27 (by decide) ?_
      refine W.widen (k := 1) (n := 4) (by first | decide | omega) (by first | decide | omega) ?_
      exact r_retR (v := none) C hr hlk hM (⟨by omega, by omega, hX, hI, fun z h => by cases h⟩) dX11_loopOn_37
    | some qv12 =>
      have kqv12 : mK S qv12 = 6 := krv9 qv12 rfl
      refine lv_ifnonnull (tgt := 30) hx hb dX11_loopOn_23 (by decide) ?_
      refine lv_aload hx hb dX11_loopOn_30 (lv_at hl 1 rfl) ?_
      refine lv_aload hx hb dX11_loopOn_32 (lv_at hl 0 rfl) ?_
      refine r_SN (As := [.ref qv11, .ref qv12]) (rest := []) C hM (c_X3_of l D H0 S kc ns qv11 qv12 hI kqv11 kqv12) i_X3_of m_X11_272 rfl hl.1 rfl (Nat.le_of_ble_eq_true rfl) ⟨by decide, by decide⟩ ⟨by decide, by decide⟩ dX11_loopOn_34 (fun rv16 Sv13 kv14 nv15 H locs pv17 hM => ?_)
      obtain ⟨hk1, hn1, hx9, hI, krv16⟩ := pv17
      have kqv12 : mK Sv13 qv12 = 6 := (hx9).k kqv12
      have kqv11 : mK Sv13 qv11 = 6 := (hx9).k kqv11
      have kh0 : mK Sv13 h0 = 12 := (hx9).k kh0
      have hX := hX.trans hx9
      refine W.eq (g2 := F0 m 37 ls [va_rf rv16]) rfl ?_
      refine W.widen (k := 1) (n := 4) (by first | decide | omega) (by first | decide | omega) ?_
      exact r_retR (v := rv16) C hr hlk hM (⟨by omega, by omega, hX, hI, krv16⟩) dX11_loopOn_37
set_option maxHeartbeats 4000000 in
set_option maxRecDepth 100000 in
theorem c_X11_rows (l : Launch) (D : gD) (H0 : gB) (S : Mem) (kc ns : Nat) (h0 : Nat) (i0 i1 i2 i3 : Int32) {u : Nat} {tl : Int} {rho : Nat × Nat} (hI : CI x0 u tl rho S) (kh0 : mK S h0 = 12) : Met l yX11_rows (wsU yX11_rows cX11_rows 7 (some .int)) ({ frames := 4, cells := 1, slots := 4, locals := 95 } : Room) (mP D H0 S kc ns [.ref h0, .int i0, .int i1, .int i2, .int i3]) (mQ D H0 gI (fun r S1 k1 n1 => k1 ≤ kc + 1 ∧ n1 ≤ ns + 4 ∧ mX S S1 ∧ CI x0 u tl rho S1 ∧ True)) 1 4 (mF H0) := by
  refine r_met (own := RX11) (by decide +kernel) rfl (Nat.le_of_ble_eq_true rfl) ?_
  intro p e s m args below meth c C hr hlk hnm H ls hl hM
  obtain ⟨hx, hb, hml, hown, hts, -, -⟩ := id C
  have hl : lv_has ls 7 [(0, .ref h0), (1, .int i0), (2, .int i1), (3, .int i2), (4, .int i3)] := hl
  have hI0 := hI
  have hX : mX S S := mX.rf
  have t_m1 : (-1 : Int32).toInt = -1 := by decide
  have t_0 : (0 : Int32).toInt = 0 := by decide
  refine lv_aload_n hx hb dX11_rows_0 rfl (lv_at hl 0 rfl) ?_
  refine lv_iload_n hx hb dX11_rows_1 rfl (lv_at hl 1 rfl) ?_
  refine lv_iload_n hx hb dX11_rows_2 rfl (lv_at hl 2 rfl) ?_
  refine lv_iload_n hx hb dX11_rows_3 rfl (lv_at hl 3 rfl) ?_
  refine r_V (As := [.int i0, .int i1, .int i2]) (rest := []) (ci := 11) C hM (c_X11_loopOn l D H0 S kc ns h0 i0 i1 i2 hI kh0) i_X11_loopOn m_X11_224 kh0 rfl rfl rfl hl.1 rfl (Nat.le_of_ble_eq_true rfl) ⟨by decide, by decide⟩ ⟨by decide, by decide⟩ dX11_rows_4 (fun rv4 Sv1 kv2 nv3 H locs pv5 hM => ?_)
  obtain ⟨hk1, hn1, hx9, hI, krv4⟩ := pv5
  have kh0 : mK Sv1 h0 = 12 := (hx9).k kh0
  have hX := hX.trans hx9
  refine W.eq (g2 := F0 m 7 ls [va_rf rv4]) rfl ?_
  refine lv_astoreQ (lv' := [(5, va_rf rv4), (0, .ref h0), (1, .int i0), (2, .int i1), (3, .int i2), (4, .int i3)]) hx hb dX11_rows_7 hl (by decide) rfl (fun ls hl => ?_)
  refine lv_aload_n hx hb dX11_rows_9 rfl (lv_at hl 1 rfl) ?_
  refine lv_iload hx hb dX11_rows_10 (lv_at hl 5 rfl) ?_
  refine r_V (As := [.int i3]) (rest := []) (ci := 11) C hM (c_X11_pageOn l D H0 Sv1 kv2 nv3 h0 i3 hI kh0) i_X11_pageOn m_X11_173 kh0 rfl rfl rfl hl.1 rfl (Nat.le_of_ble_eq_true rfl) ⟨by decide, by decide⟩ ⟨by decide, by decide⟩ dX11_rows_12 (fun rv9 Sv6 kv7 nv8 H locs pv10 hM => ?_)
  obtain ⟨rfl, rfl, rfl, krv9⟩ := pv10
  refine W.eq (g2 := F0 m 15 ls [va_rf rv9]) rfl ?_
  refine lv_astoreQ (lv' := [(6, va_rf rv9), (5, va_rf rv4), (0, .ref h0), (1, .int i0), (2, .int i1), (3, .int i2), (4, .int i3)]) hx hb dX11_rows_15 hl (by decide) (by simp [cat_rf, cat_i, cat_l, cat_a, cat_n] <;> first | decide | (repeat' (first | rfl | constructor))) (fun ls hl => ?_)
  refine lv_aloadQ hx hb dX11_rows_17 (lv_at hl 1 rfl) ?_
  cases rv4 with
  | none =>
    refine lv_ifnullN (tgt := 27) hx hb dX11_rows_19 (by decide) ?_
    refine lv_iconst (v := -1) hx hb dX11_rows_27 (by decide) ?_
    refine W.widen (k := 1) (n := 4) (by first | decide | omega) (by first | decide | omega) ?_
    exact r_retI C hr hlk hM (⟨by omega, by omega, hX, hI, trivial⟩) dX11_rows_28
  | some qv11 =>
    have kqv11 : mK Sv1 qv11 = 4 := krv4 qv11 rfl
    refine lv_ifnull hx hb dX11_rows_19 ?_
    refine lv_aloadQ hx hb dX11_rows_22 (lv_at hl 0 rfl) ?_
    cases rv9 with
    | none =>
      refine lv_ifnonnullN hx hb dX11_rows_24 ?_
      refine lv_iconst (v := -1) hx hb dX11_rows_27 (by decide) ?_
      refine W.widen (k := 1) (n := 4) (by first | decide | omega) (by first | decide | omega) ?_
      exact r_retI C hr hlk hM (⟨by omega, by omega, hX, hI, trivial⟩) dX11_rows_28
    | some qv12 =>
      have kqv12 : mK Sv1 qv12 = 5 := krv9 qv12 rfl
      refine lv_ifnonnull (tgt := 29) hx hb dX11_rows_24 (by decide) ?_
      refine lv_aload hx hb dX11_rows_29 (lv_at hl 1 rfl) ?_
      refine lv_aload hx hb dX11_rows_31 (lv_at hl 0 rfl) ?_
      refine r_VN (As := [.ref qv12]) (rest := []) (ci := 3) C hM (c_X3_countRows l D H0 Sv1 kv2 nv3 qv11 qv12 hI kqv11 kqv12) i_X3_countRows m_X11_228 kqv11 rfl rfl rfl hl.1 rfl (Nat.le_of_ble_eq_true rfl) ⟨by decide, by decide⟩ ⟨by decide, by decide⟩ dX11_rows_33 (fun xv16 Sv13 kv14 nv15 H locs pv17 hM => ?_)
      obtain ⟨rfl, rfl, rfl, hxv16⟩ := pv17
      refine W.eq (g2 := F0 m 36 ls [.int xv16]) rfl ?_
      refine W.widen (k := 1) (n := 4) (by first | decide | omega) (by first | decide | omega) ?_
      exact r_retI C hr hlk hM (⟨by omega, by omega, hX, hI, trivial⟩) dX11_rows_36
set_option maxHeartbeats 4000000 in
set_option maxRecDepth 100000 in
theorem c_X11_row (l : Launch) (D : gD) (H0 : gB) (S : Mem) (kc ns : Nat) (h0 : Nat) (i0 i1 i2 i3 i4 : Int32) {u : Nat} {tl : Int} {rho : Nat × Nat} (hI : CI x0 u tl rho S) (kh0 : mK S h0 = 12) : Met l yX11_row (wsU yX11_row cX11_row 8 (some .int)) ({ frames := 4, cells := 1, slots := 4, locals := 95 } : Room) (mP D H0 S kc ns [.ref h0, .int i0, .int i1, .int i2, .int i3, .int i4]) (mQ D H0 gI (fun r S1 k1 n1 => k1 ≤ kc + 1 ∧ n1 ≤ ns + 4 ∧ mX S S1 ∧ CI x0 u tl rho S1 ∧ True)) 1 4 (mF H0) := by
  refine r_met (own := RX11) (by decide +kernel) rfl (Nat.le_of_ble_eq_true rfl) ?_
  intro p e s m args below meth c C hr hlk hnm H ls hl hM
  obtain ⟨hx, hb, hml, hown, hts, -, -⟩ := id C
  have hl : lv_has ls 8 [(0, .ref h0), (1, .int i0), (2, .int i1), (3, .int i2), (4, .int i3), (5, .int i4)] := hl
  have hI0 := hI
  have hX : mX S S := mX.rf
  have t_m1 : (-1 : Int32).toInt = -1 := by decide
  have t_0 : (0 : Int32).toInt = 0 := by decide
  refine lv_aload_n hx hb dX11_row_0 rfl (lv_at hl 0 rfl) ?_
  refine lv_iload_n hx hb dX11_row_1 rfl (lv_at hl 1 rfl) ?_
  refine lv_iload_n hx hb dX11_row_2 rfl (lv_at hl 2 rfl) ?_
  refine lv_iload_n hx hb dX11_row_3 rfl (lv_at hl 3 rfl) ?_
  refine r_V (As := [.int i0, .int i1, .int i2]) (rest := []) (ci := 11) C hM (c_X11_loopOn l D H0 S kc ns h0 i0 i1 i2 hI kh0) i_X11_loopOn m_X11_224 kh0 rfl rfl rfl hl.1 rfl (Nat.le_of_ble_eq_true rfl) ⟨by decide, by decide⟩ ⟨by decide, by decide⟩ dX11_row_4 (fun rv4 Sv1 kv2 nv3 H locs pv5 hM => ?_)
  obtain ⟨hk1, hn1, hx9, hI, krv4⟩ := pv5
  have kh0 : mK Sv1 h0 = 12 := (hx9).k kh0
  have hX := hX.trans hx9
  refine W.eq (g2 := F0 m 7 ls [va_rf rv4]) rfl ?_
  refine lv_astoreQ (lv' := [(6, va_rf rv4), (0, .ref h0), (1, .int i0), (2, .int i1), (3, .int i2), (4, .int i3), (5, .int i4)]) hx hb dX11_row_7 hl (by decide) rfl (fun ls hl => ?_)
  refine lv_aload_n hx hb dX11_row_9 rfl (lv_at hl 1 rfl) ?_
  refine lv_iload hx hb dX11_row_10 (lv_at hl 5 rfl) ?_
  refine r_V (As := [.int i3]) (rest := []) (ci := 11) C hM (c_X11_pageOn l D H0 Sv1 kv2 nv3 h0 i3 hI kh0) i_X11_pageOn m_X11_173 kh0 rfl rfl rfl hl.1 rfl (Nat.le_of_ble_eq_true rfl) ⟨by decide, by decide⟩ ⟨by decide, by decide⟩ dX11_row_12 (fun rv9 Sv6 kv7 nv8 H locs pv10 hM => ?_)
  obtain ⟨rfl, rfl, rfl, krv9⟩ := pv10
  refine W.eq (g2 := F0 m 15 ls [va_rf rv9]) rfl ?_
  refine lv_astoreQ (lv' := [(7, va_rf rv9), (6, va_rf rv4), (0, .ref h0), (1, .int i0), (2, .int i1), (3, .int i2), (4, .int i3), (5, .int i4)]) hx hb dX11_row_15 hl (by decide) (by simp [cat_rf, cat_i, cat_l, cat_a, cat_n] <;> first | decide | (repeat' (first | rfl | constructor))) (fun ls hl => ?_)
  refine lv_aloadQ hx hb dX11_row_17 (lv_at hl 1 rfl) ?_
  cases rv4 with
  | none =>
    refine lv_ifnullN (tgt := 27) hx hb dX11_row_19 (by decide) ?_
    refine lv_iconst (v := -1) hx hb dX11_row_27 (by decide) ?_
    refine W.widen (k := 1) (n := 4) (by first | decide | omega) (by first | decide | omega) ?_
    exact r_retI C hr hlk hM (⟨by omega, by omega, hX, hI, trivial⟩) dX11_row_28
  | some qv11 =>
    have kqv11 : mK Sv1 qv11 = 4 := krv4 qv11 rfl
    refine lv_ifnull hx hb dX11_row_19 ?_
    refine lv_aloadQ hx hb dX11_row_22 (lv_at hl 0 rfl) ?_
    cases rv9 with
    | none =>
      refine lv_ifnonnullN hx hb dX11_row_24 ?_
      refine lv_iconst (v := -1) hx hb dX11_row_27 (by decide) ?_
      refine W.widen (k := 1) (n := 4) (by first | decide | omega) (by first | decide | omega) ?_
      exact r_retI C hr hlk hM (⟨by omega, by omega, hX, hI, trivial⟩) dX11_row_28
    | some qv12 =>
      have kqv12 : mK Sv1 qv12 = 5 := krv9 qv12 rfl
      refine lv_ifnonnull (tgt := 29) hx hb dX11_row_24 (by decide) ?_
      refine lv_aload hx hb dX11_row_29 (lv_at hl 1 rfl) ?_
      refine lv_aload hx hb dX11_row_31 (lv_at hl 0 rfl) ?_
      refine lv_iload hx hb dX11_row_33 (lv_at hl 7 rfl) ?_
      refine r_VN (As := [.ref qv12, .int i4]) (rest := []) (ci := 3) C hM (c_X3_rowOn l D H0 Sv1 kv2 nv3 qv11 qv12 i4 hI kqv11 kqv12) i_X3_rowOn m_X11_234 kqv11 rfl rfl rfl hl.1 rfl (Nat.le_of_ble_eq_true rfl) ⟨by decide, by decide⟩ ⟨by decide, by decide⟩ dX11_row_35 (fun rv16 Sv13 kv14 nv15 H locs pv17 hM => ?_)
      obtain ⟨rfl, rfl, rfl, krv16⟩ := pv17
      refine W.eq (g2 := F0 m 38 ls [va_rf rv16]) rfl ?_
      refine r_S (As := [va_rf rv16]) (rest := []) C hM (c_X11_numberOf l D H0 Sv1 kv2 nv3 rv16 hI (krv16)) i_X11_numberOf m_X11_111 rfl hl.1 rfl (Nat.le_of_ble_eq_true rfl) ⟨by decide, by decide⟩ ⟨by decide, by decide⟩ dX11_row_38 (fun xv21 Sv18 kv19 nv20 H locs pv22 hM => ?_)
      obtain ⟨rfl, rfl, rfl, hxv21⟩ := pv22
      refine W.eq (g2 := F0 m 41 ls [.int xv21]) rfl ?_
      refine W.widen (k := 1) (n := 4) (by first | decide | omega) (by first | decide | omega) ?_
      exact r_retI C hr hlk hM (⟨by omega, by omega, hX, hI, trivial⟩) dX11_row_41
set_option maxHeartbeats 4000000 in
set_option maxRecDepth 100000 in
theorem c_X11_tell (l : Launch) (D : gD) (H0 : gB) (S : Mem) (kc ns : Nat) (h0 : Nat) (i0 : Int32) (h1 : Nat) (o0 : Option Nat) {u : Nat} {tl : Int} {rho : Nat × Nat} (hI : CI x0 u tl rho S) (kh0 : mK S h0 = 12) (kh1 : mK S h1 = 6) (ko0 : ∀ q, o0 = some q → mK S q = 4) (hz0 : i0 = 0 ∨ i0 = 1) : Met l yX11_tell (wsU yX11_tell cX11_tell 4 (some .int)) ({ frames := 2, cells := 1, slots := 3, locals := 43 } : Room) (mP D H0 S kc ns [.ref h0, .int i0, .ref h1, va_rf o0]) (mQ D H0 gI (fun r S1 k1 n1 => k1 ≤ kc + 1 ∧ n1 ≤ ns + 3 ∧ mX S S1 ∧ CI x0 u tl rho S1 ∧ True)) 1 3 (mF H0) := by
  refine r_met (own := RX11) (by decide +kernel) rfl (by simp [lg_sl, cat_rf, cat_i, cat_l, cat_a, cat_n]) ?_
  intro p e s m args below meth c C hr hlk hnm H ls hl hM
  obtain ⟨hx, hb, hml, hown, hts, -, -⟩ := id C
  have hl : lv_has ls 4 [(0, .ref h0), (1, .int i0), (2, .ref h1), (3, va_rf o0)] := by simpa [lv_args, cat_rf, cat_i, cat_l, cat_a, cat_n] using hl
  have hI0 := hI
  have hX : mX S S := mX.rf
  have t_m1 : (-1 : Int32).toInt = -1 := by decide
  have t_0 : (0 : Int32).toInt = 0 := by decide
  have t_1 : (1 : Int32).toInt = 1 := by decide
  have t_20 : (20 : Int32).toInt = 20 := by decide
  have kh0a := kh0
  refine lv_aload_n hx hb dX11_tell_0 rfl (lv_at hl 0 rfl) ?_
  refine r_get (ci := 11) (k := 10) (v := .int (mI S 1110 h0)) C hM kh0 f_X11_71 rfl dX11_tell_1 ?_
  refine lv_topi (fun xv1 exv1 => ?_)
  have fxv1 := NI.g1110 hI.2 kh0 exv1
  refine lv_bipush (v := 20) hx hb dX11_tell_4 (by decide) ?_
  refine lv_icmp_lt (tgt := 11) hx hb dX11_tell_6 (by decide) (fun cv2 => ?_) (fun cv2 => ?_)
  · have tcv2 := ltT cv2
    refine lv_aload_n hx hb dX11_tell_11 rfl (lv_at hl 0 rfl) ?_
    obtain ⟨qv3, eqv3, kqv3, nqv3⟩ := TI.nn hI.1 (ci := 11) (k := 8) kh0
    refine r_get (ci := 11) (k := 8) (v := .ref qv3) C hM kh0 f_X11_60 (congrArg va_rf eqv3) dX11_tell_12 ?_
    refine lv_aload_n hx hb dX11_tell_15 rfl (lv_at hl 0 rfl) ?_
    refine r_get (ci := 11) (k := 10) (v := .int (mI S 1110 h0)) C hM kh0 f_X11_71 rfl dX11_tell_16 ?_
    refine lv_topi (fun xv4 exv4 => ?_)
    have fxv4 := NI.g1110 hI.2 kh0 exv4
    have gxv4 : xv4 = xv1 := exv4.trans (exv1.symm)
    have hxv4 : xv4.toInt = xv1.toInt := by rw [gxv4]
    refine r_new (ci := 0) C hM rfl k_X11_58 in_X0 ini_X0 (by decide) (by decide) dX11_tell_19 (fun qv5 H zqv5 hM => ?_)
    have hM : mH D H0 (nO S qv5 0) (kc + 1) (ns + 3) H [] := hM
    have kh0 : mK (nO S qv5 0) h0 = 12 := (mX.O (S := S) (a := qv5) (ci := 0) zqv5).k kh0
    have kh1 : mK (nO S qv5 0) h1 = 6 := (mX.O (S := S) (a := qv5) (ci := 0) zqv5).k kh1
    have kqv3 : mK (nO S qv5 0) qv3 = 28 := (mX.O (S := S) (a := qv5) (ci := 0) zqv5).k kqv3
    have ko0 : ∀ q, o0 = some q → mK (nO S qv5 0) q = 4 := fun q h => (mX.O (S := S) (a := qv5) (ci := 0) zqv5).k (ko0 q h)
    have kqv5 : mK (nO S qv5 0) qv5 = 1 := kO
    have hX := hX.trans (mX.O (ci := 0) zqv5)
    have hI := CI.newO (ci := 0) hI zqv5 (by decide) (by decide)
    have hI : CI (xl x0 qv5 [1]) u tl rho (nO S qv5 0) := CI.todo (ci := 0) hI kqv5 (by decide)
    have hh9 : h0 ≠ qv5 := ne9 zqv5 kh0a
    have hq9 : mI (nO S qv5 0) 1110 h0 = mI S 1110 h0 := cl2_ne hh9
    refine lv_dup hx hb dX11_tell_22 rfl ?_
    refine lv_iload_n hx hb dX11_tell_23 rfl (lv_at hl 1 rfl) ?_
    refine lv_aload_n hx hb dX11_tell_24 rfl (lv_at hl 2 rfl) ?_
    refine lv_aload_nQ hx hb dX11_tell_25 rfl (lv_at hl 3 rfl) ?_
    refine r_IN (As := [.int i0, .ref h1, va_rf o0]) (rest := [.ref qv5, .int xv4, .ref qv3]) C hM (c_X0_init l D H0 (nO S qv5 0) (kc + 1) (ns + 3) qv5 i0 h1 o0 hI kqv5 kh1 (ko0) hz0) i_X0_init m_X11_295 rfl hl.1 rfl (Nat.le_of_ble_eq_true rfl) ⟨by decide, by decide⟩ ⟨by decide, by decide⟩ dX11_tell_26 (fun uv9 Sv6 kv7 nv8 H locs pv10 hM => ?_)
    obtain ⟨rfl, rfl, hx9, hI, hn9, hm9⟩ := pv10
    have nqv3 : 20 ≠ 0 → mN Sv6 qv3 = 20 := fun h => (hn9 qv3 (by rw [kqv3]; decide)).trans (nqv3 h)
    have kh0 : mK Sv6 h0 = 12 := (hx9).k kh0
    have kh1 : mK Sv6 h1 = 6 := (hx9).k kh1
    have kqv5 : mK Sv6 qv5 = 1 := (hx9).k kqv5
    have kqv3 : mK Sv6 qv3 = 28 := (hx9).k kqv3
    have ko0 : ∀ q, o0 = some q → mK Sv6 q = 4 := fun q h => (hx9).k (ko0 q h)
    have hX := hX.trans hx9
    refine W.eq (g2 := F0 m 29 ls [.ref qv5, .int xv4, .ref qv3]) rfl ?_
    refine r_aast (t := 3) (ci := 0) (o := (some qv5)) C hM kqv3 (by decide) rfl rfl (fun q h => by cases h; exact kqv5) (inI (by omega) (by rw [nqv3 (by decide)]; show _ < (20 : Int); omega)) dX11_tell_29 (fun H locs hM => ?_)
    have hM : mH D H0 (qR Sv6 qv3 xv4.toNatClampNeg (some qv5)) ((kc + 1) + 0) ((ns + 3) + 0) H locs := hM
    have hI := CI.putA (i := xv4.toNatClampNeg) (o := (some qv5)) hI kqv3 (fun q h => by cases h; exact kqv5)
    refine lv_aload_n hx hb dX11_tell_30 rfl (lv_at hl 0 rfl) ?_
    refine lv_dup hx hb dX11_tell_31 rfl ?_
    refine r_get (ci := 11) (k := 10) (v := .int (mI (qR Sv6 qv3 xv4.toNatClampNeg (some qv5)) 1110 h0)) C hM kh0 f_X11_71 rfl dX11_tell_32 ?_
    refine lv_topi (fun xv11 exv11 => ?_)
    have fxv11 := NI.g1110 hI.2 kh0 exv11
    have h32 : xv11.toInt < 20 := by rw [show xv11 = mI S 1110 h0 from exv11.trans ((hm9 1110 h0 hh9).trans hq9), ← exv1]; omega
    refine lv_iconst (v := 1) hx hb dX11_tell_35 (by decide) ?_
    refine lv_iadd hx hb dX11_tell_36 ?_
    refine lv_topi (fun xv12 exv12 => ?_)
    try (have txv12 := addI (a := xv11) (b := 1) (by omega) (by omega); rw [← exv12] at txv12)
    refine r_put C hM kh0 f_X11_71 (fun r h => by cases h; rfl) rfl rfl (mPut.I (ci := 11) (k := 10) rfl) dX11_tell_37 (fun H locs hM => ?_)
    have hM : mH D H0 (pI (qR Sv6 qv3 xv4.toNatClampNeg (some qv5)) 1110 h0 xv12) ((kc + 1) + 0) ((ns + 3) + 0) H locs := hM
    have hI := CI.p1110 (a := h0) (v := xv12) hI ⟨by omega, by omega⟩
    refine lv_aload_n hx hb dX11_tell_40 rfl (lv_at hl 0 rfl) ?_
    refine r_get (ci := 11) (k := 10) (v := .int (mI (pI (qR Sv6 qv3 xv4.toNatClampNeg (some qv5)) 1110 h0 xv12) 1110 h0)) C hM kh0 f_X11_71 rfl dX11_tell_41 ?_
    refine lv_topi (fun xv13 exv13 => ?_)
    have fxv13 := NI.g1110 hI.2 kh0 exv13
    refine W.widen (k := 1) (n := 3) (by first | decide | omega) (by first | decide | omega) ?_
    exact r_retI C hr hlk hM (⟨by omega, by omega, hX, hI, trivial⟩) dX11_tell_44
  · have tcv2 := ltF cv2
    refine lv_iconst (v := -1) hx hb dX11_tell_9 (by decide) ?_
    refine W.widen (k := 1) (n := 3) (by first | decide | omega) (by first | decide | omega) ?_
    exact r_retI C hr hlk hM (⟨by omega, by omega, hX, hI, trivial⟩) dX11_tell_10
set_option maxHeartbeats 4000000 in
set_option maxRecDepth 100000 in
theorem c_X11_act (l : Launch) (D : gD) (H0 : gB) (S : Mem) (kc ns : Nat) (h0 : Nat) (i0 i1 i2 : Int32) {u : Nat} {tl : Int} {rho : Nat × Nat} (hI : CI x0 u tl rho S) (kh0 : mK S h0 = 12) (hz0 : i0 = 0 ∨ i0 = 1) : Met l yX11_act (wsU yX11_act cX11_act 5 (some .int)) ({ frames := 3, cells := 1, slots := 3, locals := 66 } : Room) (mP D H0 S kc ns [.ref h0, .int i0, .int i1, .int i2]) (mQ D H0 gI (fun r S1 k1 n1 => k1 ≤ kc + 1 ∧ n1 ≤ ns + 3 ∧ mX S S1 ∧ CI x0 u tl rho S1 ∧ True)) 1 3 (mF H0) := by
  refine r_met (own := RX11) (by decide +kernel) rfl (Nat.le_of_ble_eq_true rfl) ?_
  intro p e s m args below meth c C hr hlk hnm H ls hl hM
  obtain ⟨hx, hb, hml, hown, hts, -, -⟩ := id C
  have hl : lv_has ls 5 [(0, .ref h0), (1, .int i0), (2, .int i1), (3, .int i2)] := hl
  have hI0 := hI
  have hX : mX S S := mX.rf
  have t_m1 : (-1 : Int32).toInt = -1 := by decide
  have t_0 : (0 : Int32).toInt = 0 := by decide
  refine lv_aload_n hx hb dX11_act_0 rfl (lv_at hl 0 rfl) ?_
  refine lv_iload_n hx hb dX11_act_1 rfl (lv_at hl 2 rfl) ?_
  refine lv_iload_n hx hb dX11_act_2 rfl (lv_at hl 3 rfl) ?_
  refine r_V (As := [.int i1, .int i2]) (rest := []) (ci := 11) C hM (c_X11_partOn l D H0 S kc ns h0 i1 i2 hI kh0) i_X11_partOn m_X11_101 kh0 rfl rfl rfl hl.1 rfl (Nat.le_of_ble_eq_true rfl) ⟨by decide, by decide⟩ ⟨by decide, by decide⟩ dX11_act_3 (fun rv4 Sv1 kv2 nv3 H locs pv5 hM => ?_)
  obtain ⟨rfl, rfl, rfl, krv4⟩ := pv5
  refine W.eq (g2 := F0 m 6 ls [va_rf rv4]) rfl ?_
  refine lv_astoreQ (lv' := [(4, va_rf rv4), (0, .ref h0), (1, .int i0), (2, .int i1), (3, .int i2)]) hx hb dX11_act_6 hl (by decide) rfl (fun ls hl => ?_)
  refine lv_aloadQ hx hb dX11_act_8 (lv_at hl 0 rfl) ?_
  cases rv4 with
  | none =>
    refine lv_ifnonnullN hx hb dX11_act_10 ?_
    refine lv_iconst (v := -1) hx hb dX11_act_13 (by decide) ?_
    refine lv_goto (tgt := 25) hx hb dX11_act_14 (by decide) ?_
    refine W.widen (k := 1) (n := 3) (by first | decide | omega) (by first | decide | omega) ?_
    exact r_retI C hr hlk hM (⟨by omega, by omega, hX, hI, trivial⟩) dX11_act_25
  | some qv6 =>
    have kqv6 : mK S qv6 = 6 := krv4 qv6 rfl
    refine lv_ifnonnull (tgt := 17) hx hb dX11_act_10 (by decide) ?_
    refine lv_aload_n hx hb dX11_act_17 rfl (lv_at hl 1 rfl) ?_
    refine lv_iload_n hx hb dX11_act_18 rfl (lv_at hl 2 rfl) ?_
    refine lv_aload hx hb dX11_act_19 (lv_at hl 0 rfl) ?_
    refine lv_null hx hb dX11_act_21 ?_
    refine r_V (As := [.int i0, .ref qv6, .null]) (rest := []) (ci := 11) C hM (c_X11_tell l D H0 S kc ns h0 i0 qv6 none hI kh0 kqv6 (fun z h => by cases h) hz0) i_X11_tell m_X11_238 kh0 rfl rfl rfl hl.1 rfl (Nat.le_of_ble_eq_true rfl) ⟨by decide, by decide⟩ ⟨by decide, by decide⟩ dX11_act_22 (fun xv10 Sv7 kv8 nv9 H locs pv11 hM => ?_)
    obtain ⟨hk1, hn1, hx9, hI, hxv10⟩ := pv11
    have kqv6 : mK Sv7 qv6 = 6 := (hx9).k kqv6
    have kh0 : mK Sv7 h0 = 12 := (hx9).k kh0
    have hX := hX.trans hx9
    refine W.eq (g2 := F0 m 25 ls [.int xv10]) rfl ?_
    refine W.widen (k := 1) (n := 3) (by first | decide | omega) (by first | decide | omega) ?_
    exact r_retI C hr hlk hM (⟨by omega, by omega, hX, hI, trivial⟩) dX11_act_25
set_option maxHeartbeats 4000000 in
set_option maxRecDepth 100000 in
theorem c_X11_loop (l : Launch) (D : gD) (H0 : gB) (S : Mem) (kc ns : Nat) (h0 : Nat) (i0 i1 i2 i3 : Int32) {u : Nat} {tl : Int} {rho : Nat × Nat} (hI : CI x0 u tl rho S) (kh0 : mK S h0 = 12) (hz0 : i0 = 0 ∨ i0 = 1) : Met l yX11_loop (wsU yX11_loop cX11_loop 6 (some .int)) ({ frames := 4, cells := 2, slots := 7, locals := 95 } : Room) (mP D H0 S kc ns [.ref h0, .int i0, .int i1, .int i2, .int i3]) (mQ D H0 gI (fun r S1 k1 n1 => k1 ≤ kc + 2 ∧ n1 ≤ ns + 7 ∧ mX S S1 ∧ CI x0 u tl rho S1 ∧ True)) 2 7 (mF H0) := by
  refine r_met (own := RX11) (by decide +kernel) rfl (Nat.le_of_ble_eq_true rfl) ?_
  intro p e s m args below meth c C hr hlk hnm H ls hl hM
  obtain ⟨hx, hb, hml, hown, hts, -, -⟩ := id C
  have hl : lv_has ls 6 [(0, .ref h0), (1, .int i0), (2, .int i1), (3, .int i2), (4, .int i3)] := hl
  have hI0 := hI
  have hX : mX S S := mX.rf
  have t_m1 : (-1 : Int32).toInt = -1 := by decide
  have t_0 : (0 : Int32).toInt = 0 := by decide
  refine lv_aload_n hx hb dX11_loop_0 rfl (lv_at hl 0 rfl) ?_
  refine lv_iload_n hx hb dX11_loop_1 rfl (lv_at hl 2 rfl) ?_
  refine lv_iload_n hx hb dX11_loop_2 rfl (lv_at hl 3 rfl) ?_
  refine lv_iload hx hb dX11_loop_3 (lv_at hl 4 rfl) ?_
  refine r_V (As := [.int i1, .int i2, .int i3]) (rest := []) (ci := 11) C hM (c_X11_loopOn l D H0 S kc ns h0 i1 i2 i3 hI kh0) i_X11_loopOn m_X11_224 kh0 rfl rfl rfl hl.1 rfl (Nat.le_of_ble_eq_true rfl) ⟨by decide, by decide⟩ ⟨by decide, by decide⟩ dX11_loop_5 (fun rv4 Sv1 kv2 nv3 H locs pv5 hM => ?_)
  obtain ⟨hk1, hn1, hx9, hI, krv4⟩ := pv5
  have kh0 : mK Sv1 h0 = 12 := (hx9).k kh0
  have hX := hX.trans hx9
  refine W.eq (g2 := F0 m 8 ls [va_rf rv4]) rfl ?_
  refine lv_astoreQ (lv' := [(5, va_rf rv4), (0, .ref h0), (1, .int i0), (2, .int i1), (3, .int i2), (4, .int i3)]) hx hb dX11_loop_8 hl (by decide) rfl (fun ls hl => ?_)
  refine lv_aloadQ hx hb dX11_loop_10 (lv_at hl 0 rfl) ?_
  cases rv4 with
  | none =>
    refine lv_ifnonnullN hx hb dX11_loop_12 ?_
    refine lv_iconst (v := -1) hx hb dX11_loop_15 (by decide) ?_
    refine lv_goto (tgt := 31) hx hb dX11_loop_16 (by decide) ?_
    refine W.widen (k := 2) (n := 7) (by first | decide | omega) (by first | decide | omega) ?_
    exact r_retI C hr hlk hM (⟨by omega, by omega, hX, hI, trivial⟩) dX11_loop_31
  | some qv6 =>
    have kqv6 : mK Sv1 qv6 = 4 := krv4 qv6 rfl
    refine lv_ifnonnull (tgt := 19) hx hb dX11_loop_12 (by decide) ?_
    refine lv_aload_n hx hb dX11_loop_19 rfl (lv_at hl 1 rfl) ?_
    refine lv_iload_n hx hb dX11_loop_20 rfl (lv_at hl 2 rfl) ?_
    refine lv_aload hx hb dX11_loop_21 (lv_at hl 0 rfl) ?_
    obtain ⟨qv7, eqv7, kqv7, nqv7⟩ := TI.nn hI.1 (ci := 3) (k := 0) kqv6
    refine r_getN (ci := 3) (k := 0) (v := .ref qv7) C hM kqv6 f_X11_242 (congrArg va_rf eqv7) dX11_loop_23 ?_
    refine lv_aload hx hb dX11_loop_26 (lv_at hl 0 rfl) ?_
    refine r_V (As := [.int i0, .ref qv7, .ref qv6]) (rest := []) (ci := 11) C hM (c_X11_tell l D H0 Sv1 kv2 nv3 h0 i0 qv7 (some qv6) hI kh0 kqv7 (fun z h => by cases h; exact kqv6) hz0) i_X11_tell m_X11_238 kh0 rfl rfl rfl hl.1 rfl (Nat.le_of_ble_eq_true rfl) ⟨by decide, by decide⟩ ⟨by decide, by decide⟩ dX11_loop_28 (fun xv11 Sv8 kv9 nv10 H locs pv12 hM => ?_)
    obtain ⟨hk1, hn1, hx9, hI, hxv11⟩ := pv12
    have kqv6 : mK Sv8 qv6 = 4 := (hx9).k kqv6
    have kh0 : mK Sv8 h0 = 12 := (hx9).k kh0
    have hX := hX.trans hx9
    refine W.eq (g2 := F0 m 31 ls [.int xv11]) rfl ?_
    refine W.widen (k := 2) (n := 7) (by first | decide | omega) (by first | decide | omega) ?_
    exact r_retI C hr hlk hM (⟨by omega, by omega, hX, hI, trivial⟩) dX11_loop_31
set_option maxHeartbeats 4000000 in
set_option maxRecDepth 100000 in
theorem c_X11_page (l : Launch) (D : gD) (H0 : gB) (S : Mem) (kc ns : Nat) (h0 : Nat) (i0 : Int32) {u : Nat} {tl : Int} {rho : Nat × Nat} (hI : CI x0 u tl rho S) (hu : u < 1900000000) (kh0 : mK S h0 = 12) : Met l yX11_page (wsU yX11_page cX11_page 3 (some .int)) ({ frames := 6, cells := 63, slots := 1099, locals := 139 } : Room) (mP D H0 S kc ns [.ref h0, .int i0]) (mQ D H0 gI (fun r S1 k1 n1 => k1 ≤ kc + 62 ∧ n1 ≤ ns + 1082 ∧ mX S S1 ∧ ((0 ≤ i0.toInt ∧ i0.toInt < 4) ∧ CI x0 (u + 97661) 0 rho S1 ∨ ¬ (0 ≤ i0.toInt ∧ i0.toInt < 4) ∧ CI x0 (u + 97661) tl rho S1))) 63 1099 (mF H0) := by
  refine r_met (own := RX11) (by decide +kernel) rfl (Nat.le_of_ble_eq_true rfl) ?_
  intro p e s m args below meth c C hr hlk hnm H ls hl hM
  obtain ⟨hx, hb, hml, hown, hts, -, -⟩ := id C
  have hl : lv_has ls 3 [(0, .ref h0), (1, .int i0)] := hl
  have hI0 := hI
  have hX : mX S S := mX.rf
  have t_m2 : (-2 : Int32).toInt = -2 := by decide
  have t_m1 : (-1 : Int32).toInt = -1 := by decide
  have t_0 : (0 : Int32).toInt = 0 := by decide
  have t_4 : (4 : Int32).toInt = 4 := by decide
  refine lv_iload_n hx hb dX11_page_0 rfl (lv_at hl 1 rfl) ?_
  refine lv_if_lt (tgt := 9) hx hb dX11_page_1 (by decide) (fun cv1 => ?_) (fun cv1 => ?_)
  · have tcv1 := ltT cv1
    refine lv_bipush (v := -2) hx hb dX11_page_9 (by decide) ?_
    refine W.widen (k := 63) (n := 1099) (by first | decide | omega) (by first | decide | omega) ?_
    exact r_retI C hr hlk hM (⟨by omega, by omega, hX, Or.inr ⟨by omega, CI.ccLe hI (by omega)⟩⟩) dX11_page_11
  · have tcv1 := ltF cv1
    refine lv_iload_n hx hb dX11_page_4 rfl (lv_at hl 1 rfl) ?_
    refine lv_iconst (v := 4) hx hb dX11_page_5 (by decide) ?_
    refine lv_icmp_lt (tgt := 12) hx hb dX11_page_6 (by decide) (fun cv2 => ?_) (fun cv2 => ?_)
    · have tcv2 := ltT cv2
      refine lv_aload_n hx hb dX11_page_12 rfl (lv_at hl 0 rfl) ?_
      obtain ⟨qv3, eqv3, kqv3, nqv3⟩ := TI.nn hI.1 (ci := 11) (k := 1) kh0
      refine r_get (ci := 11) (k := 1) (v := .ref qv3) C hM kh0 f_X11_21 (congrArg va_rf eqv3) dX11_page_13 ?_
      refine r_VN (As := []) (rest := []) (ci := 6) C hM (c_X6_readPage l D H0 S kc ns qv3 hI hu kqv3) i_X6_readPage m_X11_88 kqv3 rfl rfl rfl hl.1 rfl (Nat.le_of_ble_eq_true rfl) ⟨by decide, by decide⟩ ⟨by decide, by decide⟩ dX11_page_16 (fun rv7 Sv4 kv5 nv6 H locs pv8 hM => ?_)
      obtain ⟨hk1, hn1, hx9, hI, krv7⟩ := pv8
      have kh0 : mK Sv4 h0 = 12 := (hx9).k kh0
      have hX := hX.trans hx9
      refine W.eq (g2 := F0 m 19 ls [va_rf rv7]) rfl ?_
      refine lv_astore_nQ (lv' := [(2, va_rf rv7), (0, .ref h0), (1, .int i0)]) hx hb dX11_page_19 rfl hl (by decide) rfl (fun ls hl => ?_)
      refine lv_aload_n hx hb dX11_page_20 rfl (lv_at hl 1 rfl) ?_
      obtain ⟨qv9, eqv9, kqv9, nqv9⟩ := TI.nn hI.1 (ci := 11) (k := 0) kh0
      refine r_get (ci := 11) (k := 0) (v := .ref qv9) C hM kh0 f_X11_10 (congrArg va_rf eqv9) dX11_page_21 ?_
      refine lv_iconst (v := 0) hx hb dX11_page_24 (by decide) ?_
      have k901 := kqv9
      refine r_putN C hM kqv9 f_X11_81 (fun r h => by cases h; rfl) rfl rfl (mPut.I (ci := 9) (k := 1) rfl) dX11_page_25 (fun H locs hM => ?_)
      have hM : mH D H0 (pI Sv4 901 qv9 0) kv5 nv6 H locs := hM
      have hI : CI x0 (u + 97661) 0 rho (pI Sv4 901 qv9 0) := CI.p901 (v := 0) hI k901 ⟨by decide, by decide⟩
      refine lv_aload_nQ hx hb dX11_page_28 rfl (lv_at hl 0 rfl) ?_
      cases rv7 with
      | none =>
        refine lv_ifnonnullN hx hb dX11_page_29 ?_
        refine lv_iconst (v := -1) hx hb dX11_page_32 (by decide) ?_
        refine W.widen (k := 63) (n := 1099) (by first | decide | omega) (by first | decide | omega) ?_
        exact r_retI C hr hlk hM (⟨by omega, by omega, hX, Or.inl ⟨⟨by omega, by omega⟩, hI⟩⟩) dX11_page_33
      | some qv10 =>
        have kqv10 : mK _ qv10 = 5 := krv7 qv10 rfl
        refine lv_ifnonnull (tgt := 34) hx hb dX11_page_29 (by decide) ?_
        refine lv_aload_n hx hb dX11_page_34 rfl (lv_at hl 1 rfl) ?_
        obtain ⟨qv11, eqv11, kqv11, nqv11⟩ := TI.nn hI.1 (ci := 11) (k := 2) kh0
        refine r_get (ci := 11) (k := 2) (v := .ref qv11) C hM kh0 f_X11_27 (congrArg va_rf eqv11) dX11_page_35 ?_
        refine lv_iload_n hx hb dX11_page_38 rfl (lv_at hl 2 rfl) ?_
        refine lv_aload_n hx hb dX11_page_39 rfl (lv_at hl 0 rfl) ?_
        refine r_aast (t := 1) (ci := 4) (o := (some qv10)) C hM kqv11 (by decide) rfl rfl (fun q h => by cases h; exact kqv10) (inI (by omega) (by rw [nqv11 (by decide)]; show _ < (4 : Int); omega)) dX11_page_40 (fun H locs hM => ?_)
        have hM : mH D H0 (qR (pI Sv4 901 qv9 0) qv11 i0.toNatClampNeg (some qv10)) kv5 nv6 H locs := hM
        have hI := CI.putA (i := i0.toNatClampNeg) (o := (some qv10)) hI kqv11 (fun q h => by cases h; exact kqv10)
        refine lv_aload_n hx hb dX11_page_41 rfl (lv_at hl 0 rfl) ?_
        refine r_getN (ci := 4) (k := 1) (v := .int (mI (qR (pI Sv4 901 qv9 0) qv11 i0.toNatClampNeg (some qv10)) 401 qv10)) C hM kqv10 f_X11_92 rfl dX11_page_42 ?_
        refine lv_topi (fun xv12 exv12 => ?_)
        have fxv12 := NI.g401 hI.2 kqv10 exv12
        refine W.widen (k := 63) (n := 1099) (by first | decide | omega) (by first | decide | omega) ?_
        exact r_retI C hr hlk hM (⟨by omega, by omega, hX, Or.inl ⟨⟨by omega, by omega⟩, hI⟩⟩) dX11_page_45
    · have tcv2 := ltF cv2
      refine lv_bipush (v := -2) hx hb dX11_page_9 (by decide) ?_
      refine W.widen (k := 63) (n := 1099) (by first | decide | omega) (by first | decide | omega) ?_
      exact r_retI C hr hlk hM (⟨by omega, by omega, hX, Or.inr ⟨by omega, CI.ccLe hI (by omega)⟩⟩) dX11_page_11
