set_option maxHeartbeats 4000000 in
set_option maxRecDepth 100000 in
theorem lc_feed {p : Program} {l : Launch} {e : Env} {s : State} {m : MethodId} {below : List Frame} {meth : Method} {c : Code} {b L : Nat} {xs : Nat → Int32} {D : gD} {x h j : Nat} {H : Heap} {locs : List Loc} {ls : Array Slot} {iv : Int32} {Q : State → Prop} (C : Cx D p s m #[Value.ref b] c cL_law 4 RL) (hX : va_X b L xs s s.heap) (hbl : b < s.heap.size) (hL : L ≤ 3072) (hi : iv.toInt = 6 * j) (hj : 6 * j + 6 ≤ L) (hl : lv_has ls 4 [(0, .ref b), (1, .ref x), (2, .ref h), (3, .int iv)]) (hLS : LSt D s.heap x h j H locs)
    (kk : ∀ (H : Heap) (locs : List Loc), LSt D s.heap x h (j + 1) H locs → W p l e room_1 s m #[Value.ref b] below meth c H locs (71 + 63 * (j + 1)) (93918 + 1100 * (j + 1)) Q (F0 m 1149 ls [])) : W p l e room_1 s m #[Value.ref b] below meth c H locs (71 + 63 * j) (93918 + 1100 * j) Q (F0 m 156 ls []) := by
  obtain ⟨hx, hb, hml, hown, hts, -, -⟩ := id C
  have hbA : ¬ (fun q : Nat => s.heap.size ≤ q) b := Nat.not_le.mpr hbl
  obtain ⟨S, R, u, tl, r1, mt, k, n, hJ, hI, kx, hRI, htl, ⟨hu, hr1, hmt⟩, hk, hn⟩ := hLS
  have t_1 : (1 : Int32).toInt = 1 := by decide
  have t_2 : (2 : Int32).toInt = 2 := by decide
  have t_3 : (3 : Int32).toInt = 3 := by decide
  have t_4 : (4 : Int32).toInt = 4 := by decide
  have t_5 : (5 : Int32).toInt = 5 := by decide
  have t_0 : (0 : Int32).toInt = 0 := by decide
  refine lv_aload_n hx hb dL_law_156 rfl (lv_at hl 1 rfl) ?_
  refine lv_aload_n hx hb dL_law_157 rfl (lv_at hl 0 rfl) ?_
  refine lv_iload_n hx hb dL_law_158 rfl (lv_at hl 3 rfl) ?_
  refine lv_iconst (v := 1) hx hb dL_law_159 (by decide) ?_
  refine lv_iadd hx hb dL_law_160 ?_
  refine lv_topi (fun xv1 exv1 => ?_)
  have txv1 := addI (a := iv) (b := 1) (by omega) (by omega); rw [← exv1] at txv1
  refine va_sld (A := fun q => s.heap.size ≤ q) hx hb hX hbl hbA hJ.2.2.1 (inI (by omega) (by omega)) dL_law_161 ?_
  refine lv_topi (fun yv2 eyv2 => ?_)
  refine lv_aload_n hx hb dL_law_162 rfl (lv_at hl 0 rfl) ?_
  refine lv_iload_n hx hb dL_law_163 rfl (lv_at hl 3 rfl) ?_
  refine lv_iconst (v := 2) hx hb dL_law_164 (by decide) ?_
  refine lv_iadd hx hb dL_law_165 ?_
  refine lv_topi (fun xv3 exv3 => ?_)
  have txv3 := addI (a := iv) (b := 2) (by omega) (by omega); rw [← exv3] at txv3
  refine va_sld (A := fun q => s.heap.size ≤ q) hx hb hX hbl hbA hJ.2.2.1 (inI (by omega) (by omega)) dL_law_166 ?_
  refine lv_topi (fun yv4 eyv4 => ?_)
  refine lv_aload_n hx hb dL_law_167 rfl (lv_at hl 0 rfl) ?_
  refine lv_iload_n hx hb dL_law_168 rfl (lv_at hl 3 rfl) ?_
  refine lv_iconst (v := 3) hx hb dL_law_169 (by decide) ?_
  refine lv_iadd hx hb dL_law_170 ?_
  refine lv_topi (fun xv5 exv5 => ?_)
  have txv5 := addI (a := iv) (b := 3) (by omega) (by omega); rw [← exv5] at txv5
  refine va_sld (A := fun q => s.heap.size ≤ q) hx hb hX hbl hbA hJ.2.2.1 (inI (by omega) (by omega)) dL_law_171 ?_
  refine lv_topi (fun yv6 eyv6 => ?_)
  refine lv_aload_n hx hb dL_law_172 rfl (lv_at hl 0 rfl) ?_
  refine lv_iload_n hx hb dL_law_173 rfl (lv_at hl 3 rfl) ?_
  refine lv_iconst (v := 4) hx hb dL_law_174 (by decide) ?_
  refine lv_iadd hx hb dL_law_175 ?_
  refine lv_topi (fun xv7 exv7 => ?_)
  have txv7 := addI (a := iv) (b := 4) (by omega) (by omega); rw [← exv7] at txv7
  refine va_sld (A := fun q => s.heap.size ≤ q) hx hb hX hbl hbA hJ.2.2.1 (inI (by omega) (by omega)) dL_law_176 ?_
  refine lv_topi (fun yv8 eyv8 => ?_)
  refine lv_aload_n hx hb dL_law_177 rfl (lv_at hl 0 rfl) ?_
  refine lv_iload_n hx hb dL_law_178 rfl (lv_at hl 3 rfl) ?_
  refine lv_iconst (v := 5) hx hb dL_law_179 (by decide) ?_
  refine lv_iadd hx hb dL_law_180 ?_
  refine lv_topi (fun xv9 exv9 => ?_)
  have txv9 := addI (a := iv) (b := 5) (by omega) (by omega); rw [← exv9] at txv9
  refine va_sld (A := fun q => s.heap.size ≤ q) hx hb hX hbl hbA hJ.2.2.1 (inI (by omega) (by omega)) dL_law_181 ?_
  refine lv_topi (fun yv10 eyv10 => ?_)
  refine r_V (As := [.int yv2, .int yv4, .int yv6, .int yv8, .int yv10]) (rest := []) (ci := 11) C hJ.mC (c_X11_feed l D (bC H s.heap h) S k n x yv2 yv4 yv6 yv8 yv10 hI kx) i_X11_feed m_L_13 kx rfl rfl rfl hl.1 rfl (Nat.le_of_ble_eq_true rfl) ⟨by decide, by decide⟩ ⟨by show _ ≤ 600000; simp only []; omega, by show _ ≤ 7302250; simp only []; omega⟩ dL_law_182 (fun rv11 S1 k1 n1 H locs hp hM => ?_)
  have hJ := hJ.aC hM
  obtain ⟨rfl, rfl, hKs, hcl⟩ := hp
  have kx : mK S1 x = 12 := by rw [hKs]; exact kx
  refine W.eq (g2 := F0 m 185 ls [.int rv11]) rfl ?_
  refine lv_pop hx hb dL_law_185 rfl ?_
  refine lv_aload_n hx hb dL_law_186 rfl (lv_at hl 2 rfl) ?_
  refine lv_aload_n hx hb dL_law_187 rfl (lv_at hl 0 rfl) ?_
  refine lv_iload_n hx hb dL_law_188 rfl (lv_at hl 3 rfl) ?_
  refine lv_iconst (v := 1) hx hb dL_law_189 (by decide) ?_
  refine lv_iadd hx hb dL_law_190 ?_
  rw [← exv1]
  refine va_sld (A := fun q => s.heap.size ≤ q) hx hb hX hbl hbA hJ.2.2.1 (inI (by omega) (by omega)) dL_law_191 ?_
  rw [← eyv2]
  refine lv_aload_n hx hb dL_law_192 rfl (lv_at hl 0 rfl) ?_
  refine lv_iload_n hx hb dL_law_193 rfl (lv_at hl 3 rfl) ?_
  refine lv_iconst (v := 2) hx hb dL_law_194 (by decide) ?_
  refine lv_iadd hx hb dL_law_195 ?_
  rw [← exv3]
  refine va_sld (A := fun q => s.heap.size ≤ q) hx hb hX hbl hbA hJ.2.2.1 (inI (by omega) (by omega)) dL_law_196 ?_
  rw [← eyv4]
  refine lv_aload_n hx hb dL_law_197 rfl (lv_at hl 0 rfl) ?_
  refine lv_iload_n hx hb dL_law_198 rfl (lv_at hl 3 rfl) ?_
  refine lv_iconst (v := 3) hx hb dL_law_199 (by decide) ?_
  refine lv_iadd hx hb dL_law_200 ?_
  rw [← exv5]
  refine va_sld (A := fun q => s.heap.size ≤ q) hx hb hX hbl hbA hJ.2.2.1 (inI (by omega) (by omega)) dL_law_201 ?_
  rw [← eyv6]
  refine lv_aload_n hx hb dL_law_202 rfl (lv_at hl 0 rfl) ?_
  refine lv_iload_n hx hb dL_law_203 rfl (lv_at hl 3 rfl) ?_
  refine lv_iconst (v := 4) hx hb dL_law_204 (by decide) ?_
  refine lv_iadd hx hb dL_law_205 ?_
  rw [← exv7]
  refine va_sld (A := fun q => s.heap.size ≤ q) hx hb hX hbl hbA hJ.2.2.1 (inI (by omega) (by omega)) dL_law_206 ?_
  rw [← eyv8]
  refine lv_aload_n hx hb dL_law_207 rfl (lv_at hl 0 rfl) ?_
  refine lv_iload_n hx hb dL_law_208 rfl (lv_at hl 3 rfl) ?_
  refine lv_iconst (v := 5) hx hb dL_law_209 (by decide) ?_
  refine lv_iadd hx hb dL_law_210 ?_
  rw [← exv9]
  refine va_sld (A := fun q => s.heap.size ≤ q) hx hb hX hbl hbA hJ.2.2.1 (inI (by omega) (by omega)) dL_law_211 ?_
  rw [← eyv10]
  refine r_V (As := [.int yv2, .int yv4, .int yv6, .int yv8, .int yv10]) (rest := []) (ci := 12) C hJ.mR (c_X12_feed l D (bR H s.heap S1) h R k n yv2 yv4 yv6 yv8 yv10 hRI) i_X12_feed m_L_17 rK0 rfl rfl rfl hl.1 rfl (Nat.le_of_ble_eq_true rfl) ⟨by decide, by decide⟩ ⟨by show _ ≤ 600000; simp only []; omega, by show _ ≤ 7302250; simp only []; omega⟩ dL_law_212 (fun rv12 S2 k2 n2 H locs hp hM => ?_)
  obtain ⟨rfl, rfl, R1, rfl, hf9, hp⟩ := hp
  have hJ := hJ.aR hM
  obtain ⟨hRI, hq9⟩ := hp
  refine W.eq (g2 := F0 m 215 ls [.int rv12]) rfl ?_
  refine lv_pop hx hb dL_law_215 rfl ?_
  have hLS : LSt D s.heap x h (j + 1) H locs ∧ rv11.toInt = rv12.toInt := by
    rcases hcl with ⟨q1, hI, q2⟩ | ⟨q1, hI, q2⟩
    · exact ⟨⟨S1, R1, u, tl, r1, mt, k, n, hJ, hI, kx, hRI, by omega, ⟨by omega, by omega, hmt⟩, by omega, by omega⟩, by rw [q2]; show (-1 : Int) = _; omega⟩
    · exact ⟨⟨S1, R1, u, tl + 20, r1, mt, k, n, hJ, hI, kx, hRI, by omega, ⟨by omega, by omega, hmt⟩, by omega, by omega⟩, by omega⟩
  obtain ⟨hLS, hcmp⟩ := hLS
  refine r_tightJ hJ (k0 := 71 + 63 * (j + 1)) (n0 := 93918 + 1100 * (j + 1)) (by omega) (by omega) ?_
  refine lv_goto (tgt := 1149) hx hb dL_law_216 (by decide) ?_
  exact kk _ _ hLS
set_option maxHeartbeats 4000000 in
set_option maxRecDepth 100000 in
theorem lc_end {p : Program} {l : Launch} {e : Env} {s : State} {m : MethodId} {below : List Frame} {meth : Method} {c : Code} {b L : Nat} {xs : Nat → Int32} {D : gD} {x h j : Nat} {H : Heap} {locs : List Loc} {ls : Array Slot} {iv : Int32} {Q : State → Prop} (C : Cx D p s m #[Value.ref b] c cL_law 4 RL) (hX : va_X b L xs s s.heap) (hbl : b < s.heap.size) (hL : L ≤ 3072) (hi : iv.toInt = 6 * j) (hj : 6 * j + 6 ≤ L) (hl : lv_has ls 4 [(0, .ref b), (1, .ref x), (2, .ref h), (3, .int iv)]) (hLS : LSt D s.heap x h j H locs)
    (kk : ∀ (H : Heap) (locs : List Loc), LSt D s.heap x h (j + 1) H locs → W p l e room_1 s m #[Value.ref b] below meth c H locs (71 + 63 * (j + 1)) (93918 + 1100 * (j + 1)) Q (F0 m 1149 ls [])) : W p l e room_1 s m #[Value.ref b] below meth c H locs (71 + 63 * j) (93918 + 1100 * j) Q (F0 m 219 ls []) := by
  obtain ⟨hx, hb, hml, hown, hts, -, -⟩ := id C
  have hbA : ¬ (fun q : Nat => s.heap.size ≤ q) b := Nat.not_le.mpr hbl
  obtain ⟨S, R, u, tl, r1, mt, k, n, hJ, hI, kx, hRI, htl, ⟨hu, hr1, hmt⟩, hk, hn⟩ := hLS
  have t_1 : (1 : Int32).toInt = 1 := by decide
  have t_2 : (2 : Int32).toInt = 2 := by decide
  have t_3 : (3 : Int32).toInt = 3 := by decide
  have t_4 : (4 : Int32).toInt = 4 := by decide
  have t_5 : (5 : Int32).toInt = 5 := by decide
  have t_0 : (0 : Int32).toInt = 0 := by decide
  refine lv_aload_n hx hb dL_law_219 rfl (lv_at hl 1 rfl) ?_
  refine lv_aload_n hx hb dL_law_220 rfl (lv_at hl 0 rfl) ?_
  refine lv_iload_n hx hb dL_law_221 rfl (lv_at hl 3 rfl) ?_
  refine lv_iconst (v := 1) hx hb dL_law_222 (by decide) ?_
  refine lv_iadd hx hb dL_law_223 ?_
  refine lv_topi (fun xv1 exv1 => ?_)
  have txv1 := addI (a := iv) (b := 1) (by omega) (by omega); rw [← exv1] at txv1
  refine va_sld (A := fun q => s.heap.size ≤ q) hx hb hX hbl hbA hJ.2.2.1 (inI (by omega) (by omega)) dL_law_224 ?_
  refine lv_topi (fun yv2 eyv2 => ?_)
  refine r_V (As := [.int yv2]) (rest := []) (ci := 11) C hJ.mC (c_X11_end l D (bC H s.heap h) S k n x yv2 hI kx) i_X11_end m_L_18 kx rfl rfl rfl hl.1 rfl (Nat.le_of_ble_eq_true rfl) ⟨by decide, by decide⟩ ⟨by show _ ≤ 600000; simp only []; omega, by show _ ≤ 7302250; simp only []; omega⟩ dL_law_225 (fun rv3 S1 k1 n1 H locs hp hM => ?_)
  have hJ := hJ.aC hM
  obtain ⟨rfl, rfl, hKs, hcl⟩ := hp
  have kx : mK S1 x = 12 := by rw [hKs]; exact kx
  refine W.eq (g2 := F0 m 228 ls [.int rv3]) rfl ?_
  refine lv_pop hx hb dL_law_228 rfl ?_
  refine lv_aload_n hx hb dL_law_229 rfl (lv_at hl 2 rfl) ?_
  refine lv_aload_n hx hb dL_law_230 rfl (lv_at hl 0 rfl) ?_
  refine lv_iload_n hx hb dL_law_231 rfl (lv_at hl 3 rfl) ?_
  refine lv_iconst (v := 1) hx hb dL_law_232 (by decide) ?_
  refine lv_iadd hx hb dL_law_233 ?_
  rw [← exv1]
  refine va_sld (A := fun q => s.heap.size ≤ q) hx hb hX hbl hbA hJ.2.2.1 (inI (by omega) (by omega)) dL_law_234 ?_
  rw [← eyv2]
  refine r_V (As := [.int yv2]) (rest := []) (ci := 12) C hJ.mR (c_X12_end l D (bR H s.heap S1) h R k n yv2 hRI) i_X12_end m_L_22 rK0 rfl rfl rfl hl.1 rfl (Nat.le_of_ble_eq_true rfl) ⟨by decide, by decide⟩ ⟨by show _ ≤ 600000; simp only []; omega, by show _ ≤ 7302250; simp only []; omega⟩ dL_law_235 (fun rv4 S2 k2 n2 H locs hp hM => ?_)
  obtain ⟨rfl, rfl, R1, rfl, hf9, hp⟩ := hp
  have hJ := hJ.aR hM
  obtain ⟨hRI, hq9⟩ := hp
  refine W.eq (g2 := F0 m 238 ls [.int rv4]) rfl ?_
  refine lv_pop hx hb dL_law_238 rfl ?_
  have hLS : LSt D s.heap x h (j + 1) H locs ∧ rv3.toInt = rv4.toInt := by
    rcases hcl with ⟨q1, hI, q2⟩ | ⟨q1, hI, q2⟩
    · exact ⟨⟨S1, R1, u, tl, r1, mt, k, n, hJ, hI, kx, hRI, by omega, ⟨by omega, by omega, hmt⟩, by omega, by omega⟩, by rw [q2]; show (-1 : Int) = _; omega⟩
    · exact ⟨⟨S1, R1, u, _, r1, mt, k, n, hJ, hI, kx, hRI, by omega, ⟨by omega, by omega, hmt⟩, by omega, by omega⟩, by rw [q2]; omega⟩
  obtain ⟨hLS, hcmp⟩ := hLS
  refine r_tightJ hJ (k0 := 71 + 63 * (j + 1)) (n0 := 93918 + 1100 * (j + 1)) (by omega) (by omega) ?_
  refine lv_goto (tgt := 1149) hx hb dL_law_239 (by decide) ?_
  exact kk _ _ hLS
set_option maxHeartbeats 4000000 in
set_option maxRecDepth 100000 in
theorem lc_page {p : Program} {l : Launch} {e : Env} {s : State} {m : MethodId} {below : List Frame} {meth : Method} {c : Code} {b L : Nat} {xs : Nat → Int32} {D : gD} {x h j : Nat} {H : Heap} {locs : List Loc} {ls : Array Slot} {iv : Int32} {Q : State → Prop} (C : Cx D p s m #[Value.ref b] c cL_law 4 RL) (hX : va_X b L xs s s.heap) (hbl : b < s.heap.size) (hL : L ≤ 3072) (hi : iv.toInt = 6 * j) (hj : 6 * j + 6 ≤ L) (hl : lv_has ls 4 [(0, .ref b), (1, .ref x), (2, .ref h), (3, .int iv)]) (hLS : LSt D s.heap x h j H locs)
    (kk : ∀ (H : Heap) (locs : List Loc), LSt D s.heap x h (j + 1) H locs → W p l e room_1 s m #[Value.ref b] below meth c H locs (71 + 63 * (j + 1)) (93918 + 1100 * (j + 1)) Q (F0 m 1149 ls [])) : W p l e room_1 s m #[Value.ref b] below meth c H locs (71 + 63 * j) (93918 + 1100 * j) Q (F0 m 242 ls []) := by
  obtain ⟨hx, hb, hml, hown, hts, -, -⟩ := id C
  have hbA : ¬ (fun q : Nat => s.heap.size ≤ q) b := Nat.not_le.mpr hbl
  obtain ⟨S, R, u, tl, r1, mt, k, n, hJ, hI, kx, hRI, htl, ⟨hu, hr1, hmt⟩, hk, hn⟩ := hLS
  have t_1 : (1 : Int32).toInt = 1 := by decide
  have t_2 : (2 : Int32).toInt = 2 := by decide
  have t_3 : (3 : Int32).toInt = 3 := by decide
  have t_4 : (4 : Int32).toInt = 4 := by decide
  have t_5 : (5 : Int32).toInt = 5 := by decide
  have t_0 : (0 : Int32).toInt = 0 := by decide
  refine lv_aload_n hx hb dL_law_242 rfl (lv_at hl 1 rfl) ?_
  refine lv_aload_n hx hb dL_law_243 rfl (lv_at hl 0 rfl) ?_
  refine lv_iload_n hx hb dL_law_244 rfl (lv_at hl 3 rfl) ?_
  refine lv_iconst (v := 1) hx hb dL_law_245 (by decide) ?_
  refine lv_iadd hx hb dL_law_246 ?_
  refine lv_topi (fun xv1 exv1 => ?_)
  have txv1 := addI (a := iv) (b := 1) (by omega) (by omega); rw [← exv1] at txv1
  refine va_sld (A := fun q => s.heap.size ≤ q) hx hb hX hbl hbA hJ.2.2.1 (inI (by omega) (by omega)) dL_law_247 ?_
  refine lv_topi (fun yv2 eyv2 => ?_)
  refine r_V (As := [.int yv2]) (rest := []) (ci := 11) C hJ.mC (c_X11_page l D (bC H s.heap h) S k n x yv2 hI (by omega) kx) i_X11_page m_L_23 kx rfl rfl rfl hl.1 rfl (Nat.le_of_ble_eq_true rfl) ⟨by decide, by decide⟩ ⟨by show _ ≤ 600000; simp only []; omega, by show _ ≤ 7302250; simp only []; omega⟩ dL_law_248 (fun rv3 S1 k1 n1 H locs hp hM => ?_)
  have hJ := hJ.aC hM
  obtain ⟨hk1, hn1, hX9, hcl⟩ := hp
  have kx : mK S1 x = 12 := hX9.k kx
  refine W.eq (g2 := F0 m 251 ls [.int rv3]) rfl ?_
  refine lv_pop hx hb dL_law_251 rfl ?_
  refine lv_aload_n hx hb dL_law_252 rfl (lv_at hl 2 rfl) ?_
  refine lv_aload_n hx hb dL_law_253 rfl (lv_at hl 0 rfl) ?_
  refine lv_iload_n hx hb dL_law_254 rfl (lv_at hl 3 rfl) ?_
  refine lv_iconst (v := 1) hx hb dL_law_255 (by decide) ?_
  refine lv_iadd hx hb dL_law_256 ?_
  rw [← exv1]
  refine va_sld (A := fun q => s.heap.size ≤ q) hx hb hX hbl hbA hJ.2.2.1 (inI (by omega) (by omega)) dL_law_257 ?_
  rw [← eyv2]
  refine r_V (As := [.int yv2]) (rest := []) (ci := 12) C hJ.mR (c_X12_page l D (bR H s.heap S1) h R k1 n1 yv2 hRI) i_X12_page m_L_26 rK0 rfl rfl rfl hl.1 rfl (Nat.le_of_ble_eq_true rfl) ⟨by decide, by decide⟩ ⟨by show _ ≤ 600000; simp only []; omega, by show _ ≤ 7302250; simp only []; omega⟩ dL_law_258 (fun rv4 S2 k2 n2 H locs hp hM => ?_)
  obtain ⟨rfl, rfl, R1, rfl, hf9, hp⟩ := hp
  have hJ := hJ.aR hM
  obtain ⟨hRI, hq9⟩ := hp
  refine W.eq (g2 := F0 m 261 ls [.int rv4]) rfl ?_
  refine lv_pop hx hb dL_law_261 rfl ?_
  have hLS : LSt D s.heap x h (j + 1) H locs := by
    rcases hcl with ⟨q1, hI⟩ | ⟨q1, hI⟩
    · exact ⟨S1, R1, u + 97661, 0, r1, mt, k1, n1, hJ, hI, kx, hRI, by omega, ⟨by omega, by omega, hmt⟩, by omega, by omega⟩
    · exact ⟨S1, R1, u + 97661, tl, r1, mt, k1, n1, hJ, hI, kx, hRI, by omega, ⟨by omega, by omega, hmt⟩, by omega, by omega⟩
  refine r_tightJ hJ (k0 := 71 + 63 * (j + 1)) (n0 := 93918 + 1100 * (j + 1)) (by omega) (by omega) ?_
  refine lv_goto (tgt := 1149) hx hb dL_law_262 (by decide) ?_
  exact kk _ _ hLS
set_option maxHeartbeats 4000000 in
set_option maxRecDepth 100000 in
theorem lc_fault {p : Program} {l : Launch} {e : Env} {s : State} {m : MethodId} {below : List Frame} {meth : Method} {c : Code} {b L : Nat} {xs : Nat → Int32} {D : gD} {x h j : Nat} {H : Heap} {locs : List Loc} {ls : Array Slot} {iv : Int32} {Q : State → Prop} (C : Cx D p s m #[Value.ref b] c cL_law 4 RL) (hX : va_X b L xs s s.heap) (hbl : b < s.heap.size) (hL : L ≤ 3072) (hi : iv.toInt = 6 * j) (hj : 6 * j + 6 ≤ L) (hl : lv_has ls 4 [(0, .ref b), (1, .ref x), (2, .ref h), (3, .int iv)]) (hLS : LSt D s.heap x h j H locs)
    (kk : ∀ (H : Heap) (locs : List Loc), LSt D s.heap x h (j + 1) H locs → W p l e room_1 s m #[Value.ref b] below meth c H locs (71 + 63 * (j + 1)) (93918 + 1100 * (j + 1)) Q (F0 m 1149 ls [])) : W p l e room_1 s m #[Value.ref b] below meth c H locs (71 + 63 * j) (93918 + 1100 * j) Q (F0 m 265 ls []) := by
  obtain ⟨hx, hb, hml, hown, hts, -, -⟩ := id C
  have hbA : ¬ (fun q : Nat => s.heap.size ≤ q) b := Nat.not_le.mpr hbl
  obtain ⟨S, R, u, tl, r1, mt, k, n, hJ, hI, kx, hRI, htl, ⟨hu, hr1, hmt⟩, hk, hn⟩ := hLS
  have t_1 : (1 : Int32).toInt = 1 := by decide
  have t_2 : (2 : Int32).toInt = 2 := by decide
  have t_3 : (3 : Int32).toInt = 3 := by decide
  have t_4 : (4 : Int32).toInt = 4 := by decide
  have t_5 : (5 : Int32).toInt = 5 := by decide
  have t_0 : (0 : Int32).toInt = 0 := by decide
  refine lv_aload_n hx hb dL_law_265 rfl (lv_at hl 1 rfl) ?_
  refine lv_aload_n hx hb dL_law_266 rfl (lv_at hl 0 rfl) ?_
  refine lv_iload_n hx hb dL_law_267 rfl (lv_at hl 3 rfl) ?_
  refine lv_iconst (v := 1) hx hb dL_law_268 (by decide) ?_
  refine lv_iadd hx hb dL_law_269 ?_
  refine lv_topi (fun xv1 exv1 => ?_)
  have txv1 := addI (a := iv) (b := 1) (by omega) (by omega); rw [← exv1] at txv1
  refine va_sld (A := fun q => s.heap.size ≤ q) hx hb hX hbl hbA hJ.2.2.1 (inI (by omega) (by omega)) dL_law_270 ?_
  refine lv_topi (fun yv2 eyv2 => ?_)
  refine r_V (As := [.int yv2]) (rest := []) (ci := 11) C hJ.mC (c_X11_fault l D (bC H s.heap h) S k n x yv2 hI kx) i_X11_fault m_L_27 kx rfl rfl rfl hl.1 rfl (Nat.le_of_ble_eq_true rfl) ⟨by decide, by decide⟩ ⟨by show _ ≤ 600000; simp only []; omega, by show _ ≤ 7302250; simp only []; omega⟩ dL_law_271 (fun rv3 S1 k1 n1 H locs hp hM => ?_)
  have hJ := hJ.aC hM
  obtain ⟨rfl, rfl, rfl, -⟩ := hp
  refine W.eq (g2 := F0 m 274 ls [.int rv3]) rfl ?_
  refine lv_pop hx hb dL_law_274 rfl ?_
  refine lv_aload_n hx hb dL_law_275 rfl (lv_at hl 2 rfl) ?_
  refine lv_aload_n hx hb dL_law_276 rfl (lv_at hl 0 rfl) ?_
  refine lv_iload_n hx hb dL_law_277 rfl (lv_at hl 3 rfl) ?_
  refine lv_iconst (v := 1) hx hb dL_law_278 (by decide) ?_
  refine lv_iadd hx hb dL_law_279 ?_
  rw [← exv1]
  refine va_sld (A := fun q => s.heap.size ≤ q) hx hb hX hbl hbA hJ.2.2.1 (inI (by omega) (by omega)) dL_law_280 ?_
  rw [← eyv2]
  refine r_V (As := [.int yv2]) (rest := []) (ci := 12) C hJ.mR (c_X12_fault l D (bR H s.heap S) h R k n yv2 hRI) i_X12_fault m_L_30 rK0 rfl rfl rfl hl.1 rfl (Nat.le_of_ble_eq_true rfl) ⟨by decide, by decide⟩ ⟨by show _ ≤ 600000; simp only []; omega, by show _ ≤ 7302250; simp only []; omega⟩ dL_law_281 (fun rv4 S2 k2 n2 H locs hp hM => ?_)
  obtain ⟨rfl, rfl, rfl, hp⟩ := hp
  have hJ := hJ.aR hM
  refine W.eq (g2 := F0 m 284 ls [.int rv4]) rfl ?_
  refine lv_pop hx hb dL_law_284 rfl ?_
  have hLS : LSt D s.heap x h (j + 1) H locs := ⟨S, R, u, tl, r1, mt, k, n, hJ, hI, kx, hRI, htl, ⟨by omega, by omega, hmt⟩, by omega, by omega⟩
  refine r_tightJ hJ (k0 := 71 + 63 * (j + 1)) (n0 := 93918 + 1100 * (j + 1)) (by omega) (by omega) ?_
  refine lv_goto (tgt := 1149) hx hb dL_law_285 (by decide) ?_
  exact kk _ _ hLS
set_option maxHeartbeats 4000000 in
set_option maxRecDepth 100000 in
theorem lc_part {p : Program} {l : Launch} {e : Env} {s : State} {m : MethodId} {below : List Frame} {meth : Method} {c : Code} {b L : Nat} {xs : Nat → Int32} {D : gD} {x h j : Nat} {H : Heap} {locs : List Loc} {ls : Array Slot} {iv : Int32} {Q : State → Prop} (C : Cx D p s m #[Value.ref b] c cL_law 4 RL) (hX : va_X b L xs s s.heap) (hbl : b < s.heap.size) (hL : L ≤ 3072) (hi : iv.toInt = 6 * j) (hj : 6 * j + 6 ≤ L) (hl : lv_has ls 4 [(0, .ref b), (1, .ref x), (2, .ref h), (3, .int iv)]) (hLS : LSt D s.heap x h j H locs)
    (kk : ∀ (H : Heap) (locs : List Loc), LSt D s.heap x h (j + 1) H locs → W p l e room_1 s m #[Value.ref b] below meth c H locs (71 + 63 * (j + 1)) (93918 + 1100 * (j + 1)) Q (F0 m 1149 ls [])) : W p l e room_1 s m #[Value.ref b] below meth c H locs (71 + 63 * j) (93918 + 1100 * j) Q (F0 m 288 ls []) := by
  obtain ⟨hx, hb, hml, hown, hts, -, -⟩ := id C
  have hbA : ¬ (fun q : Nat => s.heap.size ≤ q) b := Nat.not_le.mpr hbl
  obtain ⟨S, R, u, tl, r1, mt, k, n, hJ, hI, kx, hRI, htl, ⟨hu, hr1, hmt⟩, hk, hn⟩ := hLS
  have t_1 : (1 : Int32).toInt = 1 := by decide
  have t_2 : (2 : Int32).toInt = 2 := by decide
  have t_3 : (3 : Int32).toInt = 3 := by decide
  have t_4 : (4 : Int32).toInt = 4 := by decide
  have t_5 : (5 : Int32).toInt = 5 := by decide
  have t_0 : (0 : Int32).toInt = 0 := by decide
  refine lv_aload_n hx hb dL_law_288 rfl (lv_at hl 1 rfl) ?_
  refine lv_aload_n hx hb dL_law_289 rfl (lv_at hl 0 rfl) ?_
  refine lv_iload_n hx hb dL_law_290 rfl (lv_at hl 3 rfl) ?_
  refine lv_iconst (v := 1) hx hb dL_law_291 (by decide) ?_
  refine lv_iadd hx hb dL_law_292 ?_
  refine lv_topi (fun xv1 exv1 => ?_)
  have txv1 := addI (a := iv) (b := 1) (by omega) (by omega); rw [← exv1] at txv1
  refine va_sld (A := fun q => s.heap.size ≤ q) hx hb hX hbl hbA hJ.2.2.1 (inI (by omega) (by omega)) dL_law_293 ?_
  refine lv_topi (fun yv2 eyv2 => ?_)
  refine lv_aload_n hx hb dL_law_294 rfl (lv_at hl 0 rfl) ?_
  refine lv_iload_n hx hb dL_law_295 rfl (lv_at hl 3 rfl) ?_
  refine lv_iconst (v := 2) hx hb dL_law_296 (by decide) ?_
  refine lv_iadd hx hb dL_law_297 ?_
  refine lv_topi (fun xv3 exv3 => ?_)
  have txv3 := addI (a := iv) (b := 2) (by omega) (by omega); rw [← exv3] at txv3
  refine va_sld (A := fun q => s.heap.size ≤ q) hx hb hX hbl hbA hJ.2.2.1 (inI (by omega) (by omega)) dL_law_298 ?_
  refine lv_topi (fun yv4 eyv4 => ?_)
  refine lv_aload_n hx hb dL_law_299 rfl (lv_at hl 0 rfl) ?_
  refine lv_iload_n hx hb dL_law_300 rfl (lv_at hl 3 rfl) ?_
  refine lv_iconst (v := 3) hx hb dL_law_301 (by decide) ?_
  refine lv_iadd hx hb dL_law_302 ?_
  refine lv_topi (fun xv5 exv5 => ?_)
  have txv5 := addI (a := iv) (b := 3) (by omega) (by omega); rw [← exv5] at txv5
  refine va_sld (A := fun q => s.heap.size ≤ q) hx hb hX hbl hbA hJ.2.2.1 (inI (by omega) (by omega)) dL_law_303 ?_
  refine lv_topi (fun yv6 eyv6 => ?_)
  refine r_V (As := [.int yv2, .int yv4, .int yv6]) (rest := []) (ci := 11) C hJ.mC (c_X11_part l D (bC H s.heap h) S k n x yv2 yv4 yv6 hI kx) i_X11_part m_L_31 kx rfl rfl rfl hl.1 rfl (Nat.le_of_ble_eq_true rfl) ⟨by decide, by decide⟩ ⟨by show _ ≤ 600000; simp only []; omega, by show _ ≤ 7302250; simp only []; omega⟩ dL_law_304 (fun rv7 S1 k1 n1 H locs hp hM => ?_)
  have hJ := hJ.aC hM
  obtain ⟨rfl, rfl, rfl, -⟩ := hp
  refine W.eq (g2 := F0 m 307 ls [.int rv7]) rfl ?_
  refine lv_pop hx hb dL_law_307 rfl ?_
  refine lv_aload_n hx hb dL_law_308 rfl (lv_at hl 2 rfl) ?_
  refine lv_aload_n hx hb dL_law_309 rfl (lv_at hl 0 rfl) ?_
  refine lv_iload_n hx hb dL_law_310 rfl (lv_at hl 3 rfl) ?_
  refine lv_iconst (v := 1) hx hb dL_law_311 (by decide) ?_
  refine lv_iadd hx hb dL_law_312 ?_
  rw [← exv1]
  refine va_sld (A := fun q => s.heap.size ≤ q) hx hb hX hbl hbA hJ.2.2.1 (inI (by omega) (by omega)) dL_law_313 ?_
  rw [← eyv2]
  refine lv_aload_n hx hb dL_law_314 rfl (lv_at hl 0 rfl) ?_
  refine lv_iload_n hx hb dL_law_315 rfl (lv_at hl 3 rfl) ?_
  refine lv_iconst (v := 2) hx hb dL_law_316 (by decide) ?_
  refine lv_iadd hx hb dL_law_317 ?_
  rw [← exv3]
  refine va_sld (A := fun q => s.heap.size ≤ q) hx hb hX hbl hbA hJ.2.2.1 (inI (by omega) (by omega)) dL_law_318 ?_
  rw [← eyv4]
  refine lv_aload_n hx hb dL_law_319 rfl (lv_at hl 0 rfl) ?_
  refine lv_iload_n hx hb dL_law_320 rfl (lv_at hl 3 rfl) ?_
  refine lv_iconst (v := 3) hx hb dL_law_321 (by decide) ?_
  refine lv_iadd hx hb dL_law_322 ?_
  rw [← exv5]
  refine va_sld (A := fun q => s.heap.size ≤ q) hx hb hX hbl hbA hJ.2.2.1 (inI (by omega) (by omega)) dL_law_323 ?_
  rw [← eyv6]
  refine r_V (As := [.int yv2, .int yv4, .int yv6]) (rest := []) (ci := 12) C hJ.mR (c_X12_part l D (bR H s.heap S) h R k n yv2 yv4 yv6 hRI) i_X12_part m_L_35 rK0 rfl rfl rfl hl.1 rfl (Nat.le_of_ble_eq_true rfl) ⟨by decide, by decide⟩ ⟨by show _ ≤ 600000; simp only []; omega, by show _ ≤ 7302250; simp only []; omega⟩ dL_law_324 (fun rv8 S2 k2 n2 H locs hp hM => ?_)
  obtain ⟨rfl, rfl, rfl, hp⟩ := hp
  have hJ := hJ.aR hM
  refine W.eq (g2 := F0 m 327 ls [.int rv8]) rfl ?_
  refine lv_pop hx hb dL_law_327 rfl ?_
  have hLS : LSt D s.heap x h (j + 1) H locs := ⟨S, R, u, tl, r1, mt, k, n, hJ, hI, kx, hRI, htl, ⟨by omega, by omega, hmt⟩, by omega, by omega⟩
  refine r_tightJ hJ (k0 := 71 + 63 * (j + 1)) (n0 := 93918 + 1100 * (j + 1)) (by omega) (by omega) ?_
  refine lv_goto (tgt := 1149) hx hb dL_law_328 (by decide) ?_
  exact kk _ _ hLS
set_option maxHeartbeats 4000000 in
set_option maxRecDepth 100000 in
theorem lc_text {p : Program} {l : Launch} {e : Env} {s : State} {m : MethodId} {below : List Frame} {meth : Method} {c : Code} {b L : Nat} {xs : Nat → Int32} {D : gD} {x h j : Nat} {H : Heap} {locs : List Loc} {ls : Array Slot} {iv : Int32} {Q : State → Prop} (C : Cx D p s m #[Value.ref b] c cL_law 4 RL) (hX : va_X b L xs s s.heap) (hbl : b < s.heap.size) (hL : L ≤ 3072) (hi : iv.toInt = 6 * j) (hj : 6 * j + 6 ≤ L) (hl : lv_has ls 4 [(0, .ref b), (1, .ref x), (2, .ref h), (3, .int iv)]) (hLS : LSt D s.heap x h j H locs)
    (kk : ∀ (H : Heap) (locs : List Loc), LSt D s.heap x h (j + 1) H locs → W p l e room_1 s m #[Value.ref b] below meth c H locs (71 + 63 * (j + 1)) (93918 + 1100 * (j + 1)) Q (F0 m 1149 ls [])) : W p l e room_1 s m #[Value.ref b] below meth c H locs (71 + 63 * j) (93918 + 1100 * j) Q (F0 m 331 ls []) := by
  obtain ⟨hx, hb, hml, hown, hts, -, -⟩ := id C
  have hbA : ¬ (fun q : Nat => s.heap.size ≤ q) b := Nat.not_le.mpr hbl
  obtain ⟨S, R, u, tl, r1, mt, k, n, hJ, hI, kx, hRI, htl, ⟨hu, hr1, hmt⟩, hk, hn⟩ := hLS
  have t_1 : (1 : Int32).toInt = 1 := by decide
  have t_2 : (2 : Int32).toInt = 2 := by decide
  have t_3 : (3 : Int32).toInt = 3 := by decide
  have t_4 : (4 : Int32).toInt = 4 := by decide
  have t_5 : (5 : Int32).toInt = 5 := by decide
  have t_0 : (0 : Int32).toInt = 0 := by decide
  refine lv_aload_n hx hb dL_law_331 rfl (lv_at hl 1 rfl) ?_
  refine lv_aload_n hx hb dL_law_332 rfl (lv_at hl 0 rfl) ?_
  refine lv_iload_n hx hb dL_law_333 rfl (lv_at hl 3 rfl) ?_
  refine lv_iconst (v := 1) hx hb dL_law_334 (by decide) ?_
  refine lv_iadd hx hb dL_law_335 ?_
  refine lv_topi (fun xv1 exv1 => ?_)
  have txv1 := addI (a := iv) (b := 1) (by omega) (by omega); rw [← exv1] at txv1
  refine va_sld (A := fun q => s.heap.size ≤ q) hx hb hX hbl hbA hJ.2.2.1 (inI (by omega) (by omega)) dL_law_336 ?_
  refine lv_topi (fun yv2 eyv2 => ?_)
  refine lv_aload_n hx hb dL_law_337 rfl (lv_at hl 0 rfl) ?_
  refine lv_iload_n hx hb dL_law_338 rfl (lv_at hl 3 rfl) ?_
  refine lv_iconst (v := 2) hx hb dL_law_339 (by decide) ?_
  refine lv_iadd hx hb dL_law_340 ?_
  refine lv_topi (fun xv3 exv3 => ?_)
  have txv3 := addI (a := iv) (b := 2) (by omega) (by omega); rw [← exv3] at txv3
  refine va_sld (A := fun q => s.heap.size ≤ q) hx hb hX hbl hbA hJ.2.2.1 (inI (by omega) (by omega)) dL_law_341 ?_
  refine lv_topi (fun yv4 eyv4 => ?_)
  refine lv_aload_n hx hb dL_law_342 rfl (lv_at hl 0 rfl) ?_
  refine lv_iload_n hx hb dL_law_343 rfl (lv_at hl 3 rfl) ?_
  refine lv_iconst (v := 3) hx hb dL_law_344 (by decide) ?_
  refine lv_iadd hx hb dL_law_345 ?_
  refine lv_topi (fun xv5 exv5 => ?_)
  have txv5 := addI (a := iv) (b := 3) (by omega) (by omega); rw [← exv5] at txv5
  refine va_sld (A := fun q => s.heap.size ≤ q) hx hb hX hbl hbA hJ.2.2.1 (inI (by omega) (by omega)) dL_law_346 ?_
  refine lv_topi (fun yv6 eyv6 => ?_)
  refine lv_aload_n hx hb dL_law_347 rfl (lv_at hl 0 rfl) ?_
  refine lv_iload_n hx hb dL_law_348 rfl (lv_at hl 3 rfl) ?_
  refine lv_iconst (v := 4) hx hb dL_law_349 (by decide) ?_
  refine lv_iadd hx hb dL_law_350 ?_
  refine lv_topi (fun xv7 exv7 => ?_)
  have txv7 := addI (a := iv) (b := 4) (by omega) (by omega); rw [← exv7] at txv7
  refine va_sld (A := fun q => s.heap.size ≤ q) hx hb hX hbl hbA hJ.2.2.1 (inI (by omega) (by omega)) dL_law_351 ?_
  refine lv_topi (fun yv8 eyv8 => ?_)
  refine r_V (As := [.int yv2, .int yv4, .int yv6, .int yv8]) (rest := []) (ci := 11) C hJ.mC (c_X11_text l D (bC H s.heap h) S k n x yv2 yv4 yv6 yv8 hI kx) i_X11_text m_L_36 kx rfl rfl rfl hl.1 rfl (Nat.le_of_ble_eq_true rfl) ⟨by decide, by decide⟩ ⟨by show _ ≤ 600000; simp only []; omega, by show _ ≤ 7302250; simp only []; omega⟩ dL_law_352 (fun rv9 S1 k1 n1 H locs hp hM => ?_)
  have hJ := hJ.aC hM
  obtain ⟨rfl, rfl, rfl, -⟩ := hp
  refine W.eq (g2 := F0 m 355 ls [.int rv9]) rfl ?_
  refine lv_pop hx hb dL_law_355 rfl ?_
  refine lv_aload_n hx hb dL_law_356 rfl (lv_at hl 2 rfl) ?_
  refine lv_aload_n hx hb dL_law_357 rfl (lv_at hl 0 rfl) ?_
  refine lv_iload_n hx hb dL_law_358 rfl (lv_at hl 3 rfl) ?_
  refine lv_iconst (v := 1) hx hb dL_law_359 (by decide) ?_
  refine lv_iadd hx hb dL_law_360 ?_
  rw [← exv1]
  refine va_sld (A := fun q => s.heap.size ≤ q) hx hb hX hbl hbA hJ.2.2.1 (inI (by omega) (by omega)) dL_law_361 ?_
  rw [← eyv2]
  refine lv_aload_n hx hb dL_law_362 rfl (lv_at hl 0 rfl) ?_
  refine lv_iload_n hx hb dL_law_363 rfl (lv_at hl 3 rfl) ?_
  refine lv_iconst (v := 2) hx hb dL_law_364 (by decide) ?_
  refine lv_iadd hx hb dL_law_365 ?_
  rw [← exv3]
  refine va_sld (A := fun q => s.heap.size ≤ q) hx hb hX hbl hbA hJ.2.2.1 (inI (by omega) (by omega)) dL_law_366 ?_
  rw [← eyv4]
  refine lv_aload_n hx hb dL_law_367 rfl (lv_at hl 0 rfl) ?_
  refine lv_iload_n hx hb dL_law_368 rfl (lv_at hl 3 rfl) ?_
  refine lv_iconst (v := 3) hx hb dL_law_369 (by decide) ?_
  refine lv_iadd hx hb dL_law_370 ?_
  rw [← exv5]
  refine va_sld (A := fun q => s.heap.size ≤ q) hx hb hX hbl hbA hJ.2.2.1 (inI (by omega) (by omega)) dL_law_371 ?_
  rw [← eyv6]
  refine lv_aload_n hx hb dL_law_372 rfl (lv_at hl 0 rfl) ?_
  refine lv_iload_n hx hb dL_law_373 rfl (lv_at hl 3 rfl) ?_
  refine lv_iconst (v := 4) hx hb dL_law_374 (by decide) ?_
  refine lv_iadd hx hb dL_law_375 ?_
  rw [← exv7]
  refine va_sld (A := fun q => s.heap.size ≤ q) hx hb hX hbl hbA hJ.2.2.1 (inI (by omega) (by omega)) dL_law_376 ?_
  rw [← eyv8]
  refine r_V (As := [.int yv2, .int yv4, .int yv6, .int yv8]) (rest := []) (ci := 12) C hJ.mR (c_X12_text l D (bR H s.heap S) h R k n yv2 yv4 yv6 yv8 hRI) i_X12_text m_L_40 rK0 rfl rfl rfl hl.1 rfl (Nat.le_of_ble_eq_true rfl) ⟨by decide, by decide⟩ ⟨by show _ ≤ 600000; simp only []; omega, by show _ ≤ 7302250; simp only []; omega⟩ dL_law_377 (fun rv10 S2 k2 n2 H locs hp hM => ?_)
  obtain ⟨rfl, rfl, rfl, hp⟩ := hp
  have hJ := hJ.aR hM
  refine W.eq (g2 := F0 m 380 ls [.int rv10]) rfl ?_
  refine lv_pop hx hb dL_law_380 rfl ?_
  have hLS : LSt D s.heap x h (j + 1) H locs := ⟨S, R, u, tl, r1, mt, k, n, hJ, hI, kx, hRI, htl, ⟨by omega, by omega, hmt⟩, by omega, by omega⟩
  refine r_tightJ hJ (k0 := 71 + 63 * (j + 1)) (n0 := 93918 + 1100 * (j + 1)) (by omega) (by omega) ?_
  refine lv_goto (tgt := 1149) hx hb dL_law_381 (by decide) ?_
  exact kk _ _ hLS
set_option maxHeartbeats 4000000 in
set_option maxRecDepth 100000 in
theorem lc_far {p : Program} {l : Launch} {e : Env} {s : State} {m : MethodId} {below : List Frame} {meth : Method} {c : Code} {b L : Nat} {xs : Nat → Int32} {D : gD} {x h j : Nat} {H : Heap} {locs : List Loc} {ls : Array Slot} {iv : Int32} {Q : State → Prop} (C : Cx D p s m #[Value.ref b] c cL_law 4 RL) (hX : va_X b L xs s s.heap) (hbl : b < s.heap.size) (hL : L ≤ 3072) (hi : iv.toInt = 6 * j) (hj : 6 * j + 6 ≤ L) (hl : lv_has ls 4 [(0, .ref b), (1, .ref x), (2, .ref h), (3, .int iv)]) (hLS : LSt D s.heap x h j H locs)
    (kk : ∀ (H : Heap) (locs : List Loc), LSt D s.heap x h (j + 1) H locs → W p l e room_1 s m #[Value.ref b] below meth c H locs (71 + 63 * (j + 1)) (93918 + 1100 * (j + 1)) Q (F0 m 1149 ls [])) : W p l e room_1 s m #[Value.ref b] below meth c H locs (71 + 63 * j) (93918 + 1100 * j) Q (F0 m 384 ls []) := by
  obtain ⟨hx, hb, hml, hown, hts, -, -⟩ := id C
  have hbA : ¬ (fun q : Nat => s.heap.size ≤ q) b := Nat.not_le.mpr hbl
  obtain ⟨S, R, u, tl, r1, mt, k, n, hJ, hI, kx, hRI, htl, ⟨hu, hr1, hmt⟩, hk, hn⟩ := hLS
  have t_1 : (1 : Int32).toInt = 1 := by decide
  have t_2 : (2 : Int32).toInt = 2 := by decide
  have t_3 : (3 : Int32).toInt = 3 := by decide
  have t_4 : (4 : Int32).toInt = 4 := by decide
  have t_5 : (5 : Int32).toInt = 5 := by decide
  have t_0 : (0 : Int32).toInt = 0 := by decide
  refine lv_aload_n hx hb dL_law_384 rfl (lv_at hl 1 rfl) ?_
  refine lv_aload_n hx hb dL_law_385 rfl (lv_at hl 0 rfl) ?_
  refine lv_iload_n hx hb dL_law_386 rfl (lv_at hl 3 rfl) ?_
  refine lv_iconst (v := 1) hx hb dL_law_387 (by decide) ?_
  refine lv_iadd hx hb dL_law_388 ?_
  refine lv_topi (fun xv1 exv1 => ?_)
  have txv1 := addI (a := iv) (b := 1) (by omega) (by omega); rw [← exv1] at txv1
  refine va_sld (A := fun q => s.heap.size ≤ q) hx hb hX hbl hbA hJ.2.2.1 (inI (by omega) (by omega)) dL_law_389 ?_
  refine lv_topi (fun yv2 eyv2 => ?_)
  refine lv_aload_n hx hb dL_law_390 rfl (lv_at hl 0 rfl) ?_
  refine lv_iload_n hx hb dL_law_391 rfl (lv_at hl 3 rfl) ?_
  refine lv_iconst (v := 2) hx hb dL_law_392 (by decide) ?_
  refine lv_iadd hx hb dL_law_393 ?_
  refine lv_topi (fun xv3 exv3 => ?_)
  have txv3 := addI (a := iv) (b := 2) (by omega) (by omega); rw [← exv3] at txv3
  refine va_sld (A := fun q => s.heap.size ≤ q) hx hb hX hbl hbA hJ.2.2.1 (inI (by omega) (by omega)) dL_law_394 ?_
  refine lv_topi (fun yv4 eyv4 => ?_)
  refine lv_aload_n hx hb dL_law_395 rfl (lv_at hl 0 rfl) ?_
  refine lv_iload_n hx hb dL_law_396 rfl (lv_at hl 3 rfl) ?_
  refine lv_iconst (v := 3) hx hb dL_law_397 (by decide) ?_
  refine lv_iadd hx hb dL_law_398 ?_
  refine lv_topi (fun xv5 exv5 => ?_)
  have txv5 := addI (a := iv) (b := 3) (by omega) (by omega); rw [← exv5] at txv5
  refine va_sld (A := fun q => s.heap.size ≤ q) hx hb hX hbl hbA hJ.2.2.1 (inI (by omega) (by omega)) dL_law_399 ?_
  refine lv_topi (fun yv6 eyv6 => ?_)
  refine lv_aload_n hx hb dL_law_400 rfl (lv_at hl 0 rfl) ?_
  refine lv_iload_n hx hb dL_law_401 rfl (lv_at hl 3 rfl) ?_
  refine lv_iconst (v := 4) hx hb dL_law_402 (by decide) ?_
  refine lv_iadd hx hb dL_law_403 ?_
  refine lv_topi (fun xv7 exv7 => ?_)
  have txv7 := addI (a := iv) (b := 4) (by omega) (by omega); rw [← exv7] at txv7
  refine va_sld (A := fun q => s.heap.size ≤ q) hx hb hX hbl hbA hJ.2.2.1 (inI (by omega) (by omega)) dL_law_404 ?_
  refine lv_topi (fun yv8 eyv8 => ?_)
  refine r_V (As := [.int yv2, .int yv4, .int yv6, .int yv8]) (rest := []) (ci := 11) C hJ.mC (c_X11_far l D (bC H s.heap h) S k n x yv2 yv4 yv6 yv8 hI (by omega) hmt kx) i_X11_far m_L_41 kx rfl rfl rfl hl.1 rfl (Nat.le_of_ble_eq_true rfl) ⟨by decide, by decide⟩ ⟨by show _ ≤ 600000; simp only []; omega, by show _ ≤ 7302250; simp only []; omega⟩ dL_law_405 (fun rv9 S1 k1 n1 H locs hp hM => ?_)
  have hJ := hJ.aC hM
  obtain ⟨m1, hm1, hm2, hk1, hn1, hX9, hI, -⟩ := hp
  have kx : mK S1 x = 12 := hX9.k kx
  refine W.eq (g2 := F0 m 408 ls [.int rv9]) rfl ?_
  refine lv_pop hx hb dL_law_408 rfl ?_
  refine lv_aload_n hx hb dL_law_409 rfl (lv_at hl 2 rfl) ?_
  refine lv_aload_n hx hb dL_law_410 rfl (lv_at hl 0 rfl) ?_
  refine lv_iload_n hx hb dL_law_411 rfl (lv_at hl 3 rfl) ?_
  refine lv_iconst (v := 1) hx hb dL_law_412 (by decide) ?_
  refine lv_iadd hx hb dL_law_413 ?_
  rw [← exv1]
  refine va_sld (A := fun q => s.heap.size ≤ q) hx hb hX hbl hbA hJ.2.2.1 (inI (by omega) (by omega)) dL_law_414 ?_
  rw [← eyv2]
  refine lv_aload_n hx hb dL_law_415 rfl (lv_at hl 0 rfl) ?_
  refine lv_iload_n hx hb dL_law_416 rfl (lv_at hl 3 rfl) ?_
  refine lv_iconst (v := 2) hx hb dL_law_417 (by decide) ?_
  refine lv_iadd hx hb dL_law_418 ?_
  rw [← exv3]
  refine va_sld (A := fun q => s.heap.size ≤ q) hx hb hX hbl hbA hJ.2.2.1 (inI (by omega) (by omega)) dL_law_419 ?_
  rw [← eyv4]
  refine lv_aload_n hx hb dL_law_420 rfl (lv_at hl 0 rfl) ?_
  refine lv_iload_n hx hb dL_law_421 rfl (lv_at hl 3 rfl) ?_
  refine lv_iconst (v := 3) hx hb dL_law_422 (by decide) ?_
  refine lv_iadd hx hb dL_law_423 ?_
  rw [← exv5]
  refine va_sld (A := fun q => s.heap.size ≤ q) hx hb hX hbl hbA hJ.2.2.1 (inI (by omega) (by omega)) dL_law_424 ?_
  rw [← eyv6]
  refine lv_aload_n hx hb dL_law_425 rfl (lv_at hl 0 rfl) ?_
  refine lv_iload_n hx hb dL_law_426 rfl (lv_at hl 3 rfl) ?_
  refine lv_iconst (v := 4) hx hb dL_law_427 (by decide) ?_
  refine lv_iadd hx hb dL_law_428 ?_
  rw [← exv7]
  refine va_sld (A := fun q => s.heap.size ≤ q) hx hb hX hbl hbA hJ.2.2.1 (inI (by omega) (by omega)) dL_law_429 ?_
  rw [← eyv8]
  refine r_V (As := [.int yv2, .int yv4, .int yv6, .int yv8]) (rest := []) (ci := 12) C hJ.mR (c_X12_far l D (bR H s.heap S1) h R k1 n1 yv2 yv4 yv6 yv8 hRI) i_X12_far m_L_44 rK0 rfl rfl rfl hl.1 rfl (Nat.le_of_ble_eq_true rfl) ⟨by decide, by decide⟩ ⟨by show _ ≤ 600000; simp only []; omega, by show _ ≤ 7302250; simp only []; omega⟩ dL_law_430 (fun rv10 S2 k2 n2 H locs hp hM => ?_)
  obtain ⟨rfl, rfl, R1, rfl, hf9, hp⟩ := hp
  have hJ := hJ.aR hM
  have hRI : RI R1 := hRI.fr hf9 (by decide)
  have htl : (rI R1 2).toInt = tl := by rw [hf9.gI 2 (by decide)]; exact htl
  refine W.eq (g2 := F0 m 433 ls [.int rv10]) rfl ?_
  refine lv_pop hx hb dL_law_433 rfl ?_
  have hm1 : mt ≤ m1 := hm1
  have hk1 : k1 ≤ k + 3 * (m1 - mt) := hk1
  have hn1 : n1 ≤ n + 3665 * (m1 - mt) := hn1
  have hLS : LSt D s.heap x h (j + 1) H locs := ⟨S1, R1, u, tl, r1, m1, k1, n1, hJ, hI, kx, hRI, htl, ⟨by omega, by omega, hm2⟩, by omega, by omega⟩
  refine r_tightJ hJ (k0 := 71 + 63 * (j + 1)) (n0 := 93918 + 1100 * (j + 1)) (by omega) (by omega) ?_
  refine lv_goto (tgt := 1149) hx hb dL_law_434 (by decide) ?_
  exact kk _ _ hLS
set_option maxHeartbeats 4000000 in
set_option maxRecDepth 100000 in
theorem lc_cost {p : Program} {l : Launch} {e : Env} {s : State} {m : MethodId} {below : List Frame} {meth : Method} {c : Code} {b L : Nat} {xs : Nat → Int32} {D : gD} {x h j : Nat} {H : Heap} {locs : List Loc} {ls : Array Slot} {iv : Int32} {Q : State → Prop} (C : Cx D p s m #[Value.ref b] c cL_law 4 RL) (hX : va_X b L xs s s.heap) (hbl : b < s.heap.size) (hL : L ≤ 3072) (hi : iv.toInt = 6 * j) (hj : 6 * j + 6 ≤ L) (hl : lv_has ls 4 [(0, .ref b), (1, .ref x), (2, .ref h), (3, .int iv)]) (hLS : LSt D s.heap x h j H locs)
    (kk : ∀ (H : Heap) (locs : List Loc), LSt D s.heap x h (j + 1) H locs → W p l e room_1 s m #[Value.ref b] below meth c H locs (71 + 63 * (j + 1)) (93918 + 1100 * (j + 1)) Q (F0 m 1149 ls [])) : W p l e room_1 s m #[Value.ref b] below meth c H locs (71 + 63 * j) (93918 + 1100 * j) Q (F0 m 437 ls []) := by
  obtain ⟨hx, hb, hml, hown, hts, -, -⟩ := id C
  have hbA : ¬ (fun q : Nat => s.heap.size ≤ q) b := Nat.not_le.mpr hbl
  obtain ⟨S, R, u, tl, r1, mt, k, n, hJ, hI, kx, hRI, htl, ⟨hu, hr1, hmt⟩, hk, hn⟩ := hLS
  have t_1 : (1 : Int32).toInt = 1 := by decide
  have t_2 : (2 : Int32).toInt = 2 := by decide
  have t_3 : (3 : Int32).toInt = 3 := by decide
  have t_4 : (4 : Int32).toInt = 4 := by decide
  have t_5 : (5 : Int32).toInt = 5 := by decide
  have t_0 : (0 : Int32).toInt = 0 := by decide
  refine lv_aload_n hx hb dL_law_437 rfl (lv_at hl 1 rfl) ?_
  refine lv_aload_n hx hb dL_law_438 rfl (lv_at hl 0 rfl) ?_
  refine lv_iload_n hx hb dL_law_439 rfl (lv_at hl 3 rfl) ?_
  refine lv_iconst (v := 1) hx hb dL_law_440 (by decide) ?_
  refine lv_iadd hx hb dL_law_441 ?_
  refine lv_topi (fun xv1 exv1 => ?_)
  have txv1 := addI (a := iv) (b := 1) (by omega) (by omega); rw [← exv1] at txv1
  refine va_sld (A := fun q => s.heap.size ≤ q) hx hb hX hbl hbA hJ.2.2.1 (inI (by omega) (by omega)) dL_law_442 ?_
  refine lv_topi (fun yv2 eyv2 => ?_)
  refine lv_aload_n hx hb dL_law_443 rfl (lv_at hl 0 rfl) ?_
  refine lv_iload_n hx hb dL_law_444 rfl (lv_at hl 3 rfl) ?_
  refine lv_iconst (v := 2) hx hb dL_law_445 (by decide) ?_
  refine lv_iadd hx hb dL_law_446 ?_
  refine lv_topi (fun xv3 exv3 => ?_)
  have txv3 := addI (a := iv) (b := 2) (by omega) (by omega); rw [← exv3] at txv3
  refine va_sld (A := fun q => s.heap.size ≤ q) hx hb hX hbl hbA hJ.2.2.1 (inI (by omega) (by omega)) dL_law_447 ?_
  refine lv_topi (fun yv4 eyv4 => ?_)
  refine lv_aload_n hx hb dL_law_448 rfl (lv_at hl 0 rfl) ?_
  refine lv_iload_n hx hb dL_law_449 rfl (lv_at hl 3 rfl) ?_
  refine lv_iconst (v := 3) hx hb dL_law_450 (by decide) ?_
  refine lv_iadd hx hb dL_law_451 ?_
  refine lv_topi (fun xv5 exv5 => ?_)
  have txv5 := addI (a := iv) (b := 3) (by omega) (by omega); rw [← exv5] at txv5
  refine va_sld (A := fun q => s.heap.size ≤ q) hx hb hX hbl hbA hJ.2.2.1 (inI (by omega) (by omega)) dL_law_452 ?_
  refine lv_topi (fun yv6 eyv6 => ?_)
  refine lv_aload_n hx hb dL_law_453 rfl (lv_at hl 0 rfl) ?_
  refine lv_iload_n hx hb dL_law_454 rfl (lv_at hl 3 rfl) ?_
  refine lv_iconst (v := 4) hx hb dL_law_455 (by decide) ?_
  refine lv_iadd hx hb dL_law_456 ?_
  refine lv_topi (fun xv7 exv7 => ?_)
  have txv7 := addI (a := iv) (b := 4) (by omega) (by omega); rw [← exv7] at txv7
  refine va_sld (A := fun q => s.heap.size ≤ q) hx hb hX hbl hbA hJ.2.2.1 (inI (by omega) (by omega)) dL_law_457 ?_
  refine lv_topi (fun yv8 eyv8 => ?_)
  refine r_V (As := [.int yv2, .int yv4, .int yv6, .int yv8]) (rest := []) (ci := 11) C hJ.mC (c_X11_cost l D (bC H s.heap h) S k n x yv2 yv4 yv6 yv8 hI (by omega) hmt kx) i_X11_cost m_L_45 kx rfl rfl rfl hl.1 rfl (Nat.le_of_ble_eq_true rfl) ⟨by decide, by decide⟩ ⟨by show _ ≤ 600000; simp only []; omega, by show _ ≤ 7302250; simp only []; omega⟩ dL_law_458 (fun rv9 S1 k1 n1 H locs hp hM => ?_)
  have hJ := hJ.aC hM
  obtain ⟨m1, hm1, hm2, hk1, hn1, hX9, hI, -⟩ := hp
  have kx : mK S1 x = 12 := hX9.k kx
  refine W.eq (g2 := F0 m 461 ls [.int rv9]) rfl ?_
  refine lv_pop hx hb dL_law_461 rfl ?_
  refine lv_aload_n hx hb dL_law_462 rfl (lv_at hl 2 rfl) ?_
  refine lv_aload_n hx hb dL_law_463 rfl (lv_at hl 0 rfl) ?_
  refine lv_iload_n hx hb dL_law_464 rfl (lv_at hl 3 rfl) ?_
  refine lv_iconst (v := 1) hx hb dL_law_465 (by decide) ?_
  refine lv_iadd hx hb dL_law_466 ?_
  rw [← exv1]
  refine va_sld (A := fun q => s.heap.size ≤ q) hx hb hX hbl hbA hJ.2.2.1 (inI (by omega) (by omega)) dL_law_467 ?_
  rw [← eyv2]
  refine lv_aload_n hx hb dL_law_468 rfl (lv_at hl 0 rfl) ?_
  refine lv_iload_n hx hb dL_law_469 rfl (lv_at hl 3 rfl) ?_
  refine lv_iconst (v := 2) hx hb dL_law_470 (by decide) ?_
  refine lv_iadd hx hb dL_law_471 ?_
  rw [← exv3]
  refine va_sld (A := fun q => s.heap.size ≤ q) hx hb hX hbl hbA hJ.2.2.1 (inI (by omega) (by omega)) dL_law_472 ?_
  rw [← eyv4]
  refine lv_aload_n hx hb dL_law_473 rfl (lv_at hl 0 rfl) ?_
  refine lv_iload_n hx hb dL_law_474 rfl (lv_at hl 3 rfl) ?_
  refine lv_iconst (v := 3) hx hb dL_law_475 (by decide) ?_
  refine lv_iadd hx hb dL_law_476 ?_
  rw [← exv5]
  refine va_sld (A := fun q => s.heap.size ≤ q) hx hb hX hbl hbA hJ.2.2.1 (inI (by omega) (by omega)) dL_law_477 ?_
  rw [← eyv6]
  refine lv_aload_n hx hb dL_law_478 rfl (lv_at hl 0 rfl) ?_
  refine lv_iload_n hx hb dL_law_479 rfl (lv_at hl 3 rfl) ?_
  refine lv_iconst (v := 4) hx hb dL_law_480 (by decide) ?_
  refine lv_iadd hx hb dL_law_481 ?_
  rw [← exv7]
  refine va_sld (A := fun q => s.heap.size ≤ q) hx hb hX hbl hbA hJ.2.2.1 (inI (by omega) (by omega)) dL_law_482 ?_
  rw [← eyv8]
  refine r_V (As := [.int yv2, .int yv4, .int yv6, .int yv8]) (rest := []) (ci := 12) C hJ.mR (c_X12_cost l D (bR H s.heap S1) h R k1 n1 yv2 yv4 yv6 yv8 hRI) i_X12_cost m_L_48 rK0 rfl rfl rfl hl.1 rfl (Nat.le_of_ble_eq_true rfl) ⟨by decide, by decide⟩ ⟨by show _ ≤ 600000; simp only []; omega, by show _ ≤ 7302250; simp only []; omega⟩ dL_law_483 (fun rv10 S2 k2 n2 H locs hp hM => ?_)
  obtain ⟨rfl, rfl, R1, rfl, hf9, hp⟩ := hp
  have hJ := hJ.aR hM
  have hRI : RI R1 := hRI.fr hf9 (by decide)
  have htl : (rI R1 2).toInt = tl := by rw [hf9.gI 2 (by decide)]; exact htl
  refine W.eq (g2 := F0 m 486 ls [.int rv10]) rfl ?_
  refine lv_pop hx hb dL_law_486 rfl ?_
  have hm1 : mt ≤ m1 := hm1
  have hk1 : k1 ≤ k + 3 * (m1 - mt) := hk1
  have hn1 : n1 ≤ n + 3665 * (m1 - mt) := hn1
  have hLS : LSt D s.heap x h (j + 1) H locs := ⟨S1, R1, u, tl, r1, m1, k1, n1, hJ, hI, kx, hRI, htl, ⟨by omega, by omega, hm2⟩, by omega, by omega⟩
  refine r_tightJ hJ (k0 := 71 + 63 * (j + 1)) (n0 := 93918 + 1100 * (j + 1)) (by omega) (by omega) ?_
  refine lv_goto (tgt := 1149) hx hb dL_law_487 (by decide) ?_
  exact kk _ _ hLS
set_option maxHeartbeats 4000000 in
set_option maxRecDepth 100000 in
theorem lc_gap {p : Program} {l : Launch} {e : Env} {s : State} {m : MethodId} {below : List Frame} {meth : Method} {c : Code} {b L : Nat} {xs : Nat → Int32} {D : gD} {x h j : Nat} {H : Heap} {locs : List Loc} {ls : Array Slot} {iv : Int32} {Q : State → Prop} (C : Cx D p s m #[Value.ref b] c cL_law 4 RL) (hX : va_X b L xs s s.heap) (hbl : b < s.heap.size) (hL : L ≤ 3072) (hi : iv.toInt = 6 * j) (hj : 6 * j + 6 ≤ L) (hl : lv_has ls 4 [(0, .ref b), (1, .ref x), (2, .ref h), (3, .int iv)]) (hLS : LSt D s.heap x h j H locs)
    (kk : ∀ (H : Heap) (locs : List Loc), LSt D s.heap x h (j + 1) H locs → W p l e room_1 s m #[Value.ref b] below meth c H locs (71 + 63 * (j + 1)) (93918 + 1100 * (j + 1)) Q (F0 m 1149 ls [])) : W p l e room_1 s m #[Value.ref b] below meth c H locs (71 + 63 * j) (93918 + 1100 * j) Q (F0 m 490 ls []) := by
  obtain ⟨hx, hb, hml, hown, hts, -, -⟩ := id C
  have hbA : ¬ (fun q : Nat => s.heap.size ≤ q) b := Nat.not_le.mpr hbl
  obtain ⟨S, R, u, tl, r1, mt, k, n, hJ, hI, kx, hRI, htl, ⟨hu, hr1, hmt⟩, hk, hn⟩ := hLS
  have t_1 : (1 : Int32).toInt = 1 := by decide
  have t_2 : (2 : Int32).toInt = 2 := by decide
  have t_3 : (3 : Int32).toInt = 3 := by decide
  have t_4 : (4 : Int32).toInt = 4 := by decide
  have t_5 : (5 : Int32).toInt = 5 := by decide
  have t_0 : (0 : Int32).toInt = 0 := by decide
  refine lv_aload_n hx hb dL_law_490 rfl (lv_at hl 1 rfl) ?_
  refine lv_aload_n hx hb dL_law_491 rfl (lv_at hl 0 rfl) ?_
  refine lv_iload_n hx hb dL_law_492 rfl (lv_at hl 3 rfl) ?_
  refine lv_iconst (v := 1) hx hb dL_law_493 (by decide) ?_
  refine lv_iadd hx hb dL_law_494 ?_
  refine lv_topi (fun xv1 exv1 => ?_)
  have txv1 := addI (a := iv) (b := 1) (by omega) (by omega); rw [← exv1] at txv1
  refine va_sld (A := fun q => s.heap.size ≤ q) hx hb hX hbl hbA hJ.2.2.1 (inI (by omega) (by omega)) dL_law_495 ?_
  refine lv_topi (fun yv2 eyv2 => ?_)
  refine r_V (As := [.int yv2]) (rest := []) (ci := 11) C hJ.mC (c_X11_gap l D (bC H s.heap h) S k n x yv2 hI kx) i_X11_gap m_L_49 kx rfl rfl rfl hl.1 rfl (Nat.le_of_ble_eq_true rfl) ⟨by decide, by decide⟩ ⟨by show _ ≤ 600000; simp only []; omega, by show _ ≤ 7302250; simp only []; omega⟩ dL_law_496 (fun rv3 S1 k1 n1 H locs hp hM => ?_)
  have hJ := hJ.aC hM
  obtain ⟨rfl, rfl, hKs, hI, hcl⟩ := hp
  have kx : mK S1 x = 12 := by rw [hKs]; exact kx
  refine W.eq (g2 := F0 m 499 ls [.int rv3]) rfl ?_
  refine lv_aload_n hx hb dL_law_499 rfl (lv_at hl 2 rfl) ?_
  refine lv_aload_n hx hb dL_law_500 rfl (lv_at hl 0 rfl) ?_
  refine lv_iload_n hx hb dL_law_501 rfl (lv_at hl 3 rfl) ?_
  refine lv_iconst (v := 1) hx hb dL_law_502 (by decide) ?_
  refine lv_iadd hx hb dL_law_503 ?_
  rw [← exv1]
  refine va_sld (A := fun q => s.heap.size ≤ q) hx hb hX hbl hbA hJ.2.2.1 (inI (by omega) (by omega)) dL_law_504 ?_
  rw [← eyv2]
  refine r_V (As := [.int yv2]) (rest := [.int rv3]) (ci := 12) C hJ.mR (c_X12_gap l D (bR H s.heap S1) h R k n yv2 hRI) i_X12_gap m_L_53 rK0 rfl rfl rfl hl.1 rfl (Nat.le_of_ble_eq_true rfl) ⟨by decide, by decide⟩ ⟨by show _ ≤ 600000; simp only []; omega, by show _ ≤ 7302250; simp only []; omega⟩ dL_law_505 (fun rv4 S2 k2 n2 H locs hp hM => ?_)
  obtain ⟨rfl, rfl, R1, rfl, hf9, hp⟩ := hp
  have hJ := hJ.aR hM
  have hRI : RI R1 := hRI.fr hf9 (by decide)
  have htl : (rI R1 2).toInt = tl := by rw [hf9.gI 2 (by decide)]; exact htl
  refine W.eq (g2 := F0 m 508 ls [.int rv4, .int rv3]) rfl ?_
  have hLS : LSt D s.heap x h (j + 1) H locs := ⟨S1, R1, u, tl, r1, mt, k, n, hJ, hI, kx, hRI, htl, ⟨by omega, by omega, hmt⟩, by omega, by omega⟩
  have hcmp : rv3.toInt = rv4.toInt := by
    rcases hcl with ⟨q1, q2⟩ | ⟨q1, q2⟩ <;> rcases hp with ⟨q3, q4⟩ | ⟨q3, q4⟩ <;> first | (rw [q2, q4]; done) | (exfalso; omega)
  refine r_tightJ hJ (k0 := 71 + 63 * (j + 1)) (n0 := 93918 + 1100 * (j + 1)) (by omega) (by omega) ?_
  refine lv_icmp_eq (tgt := 1149) hx hb dL_law_508 (by decide) (fun c9 => ?_) (fun c9 => absurd (Int32.toInt_inj.mp (show rv3.toInt = rv4.toInt from hcmp)) c9)
  exact kk _ _ hLS
set_option maxHeartbeats 4000000 in
set_option maxRecDepth 100000 in
theorem lc_find {p : Program} {l : Launch} {e : Env} {s : State} {m : MethodId} {below : List Frame} {meth : Method} {c : Code} {b L : Nat} {xs : Nat → Int32} {D : gD} {x h j : Nat} {H : Heap} {locs : List Loc} {ls : Array Slot} {iv : Int32} {Q : State → Prop} (C : Cx D p s m #[Value.ref b] c cL_law 4 RL) (hX : va_X b L xs s s.heap) (hbl : b < s.heap.size) (hL : L ≤ 3072) (hi : iv.toInt = 6 * j) (hj : 6 * j + 6 ≤ L) (hl : lv_has ls 4 [(0, .ref b), (1, .ref x), (2, .ref h), (3, .int iv)]) (hLS : LSt D s.heap x h j H locs)
    (kk : ∀ (H : Heap) (locs : List Loc), LSt D s.heap x h (j + 1) H locs → W p l e room_1 s m #[Value.ref b] below meth c H locs (71 + 63 * (j + 1)) (93918 + 1100 * (j + 1)) Q (F0 m 1149 ls [])) : W p l e room_1 s m #[Value.ref b] below meth c H locs (71 + 63 * j) (93918 + 1100 * j) Q (F0 m 513 ls []) := by
  obtain ⟨hx, hb, hml, hown, hts, -, -⟩ := id C
  have hbA : ¬ (fun q : Nat => s.heap.size ≤ q) b := Nat.not_le.mpr hbl
  obtain ⟨S, R, u, tl, r1, mt, k, n, hJ, hI, kx, hRI, htl, ⟨hu, hr1, hmt⟩, hk, hn⟩ := hLS
  have t_1 : (1 : Int32).toInt = 1 := by decide
  have t_2 : (2 : Int32).toInt = 2 := by decide
  have t_3 : (3 : Int32).toInt = 3 := by decide
  have t_4 : (4 : Int32).toInt = 4 := by decide
  have t_5 : (5 : Int32).toInt = 5 := by decide
  have t_0 : (0 : Int32).toInt = 0 := by decide
  refine lv_aload_n hx hb dL_law_513 rfl (lv_at hl 1 rfl) ?_
  refine lv_aload_n hx hb dL_law_514 rfl (lv_at hl 0 rfl) ?_
  refine lv_iload_n hx hb dL_law_515 rfl (lv_at hl 3 rfl) ?_
  refine lv_iconst (v := 1) hx hb dL_law_516 (by decide) ?_
  refine lv_iadd hx hb dL_law_517 ?_
  refine lv_topi (fun xv1 exv1 => ?_)
  have txv1 := addI (a := iv) (b := 1) (by omega) (by omega); rw [← exv1] at txv1
  refine va_sld (A := fun q => s.heap.size ≤ q) hx hb hX hbl hbA hJ.2.2.1 (inI (by omega) (by omega)) dL_law_518 ?_
  refine lv_topi (fun yv2 eyv2 => ?_)
  refine lv_aload_n hx hb dL_law_519 rfl (lv_at hl 0 rfl) ?_
  refine lv_iload_n hx hb dL_law_520 rfl (lv_at hl 3 rfl) ?_
  refine lv_iconst (v := 2) hx hb dL_law_521 (by decide) ?_
  refine lv_iadd hx hb dL_law_522 ?_
  refine lv_topi (fun xv3 exv3 => ?_)
  have txv3 := addI (a := iv) (b := 2) (by omega) (by omega); rw [← exv3] at txv3
  refine va_sld (A := fun q => s.heap.size ≤ q) hx hb hX hbl hbA hJ.2.2.1 (inI (by omega) (by omega)) dL_law_523 ?_
  refine lv_topi (fun yv4 eyv4 => ?_)
  refine lv_aload_n hx hb dL_law_524 rfl (lv_at hl 0 rfl) ?_
  refine lv_iload_n hx hb dL_law_525 rfl (lv_at hl 3 rfl) ?_
  refine lv_iconst (v := 3) hx hb dL_law_526 (by decide) ?_
  refine lv_iadd hx hb dL_law_527 ?_
  refine lv_topi (fun xv5 exv5 => ?_)
  have txv5 := addI (a := iv) (b := 3) (by omega) (by omega); rw [← exv5] at txv5
  refine va_sld (A := fun q => s.heap.size ≤ q) hx hb hX hbl hbA hJ.2.2.1 (inI (by omega) (by omega)) dL_law_528 ?_
  refine lv_topi (fun yv6 eyv6 => ?_)
  refine r_V (As := [.int yv2, .int yv4, .int yv6]) (rest := []) (ci := 11) C hJ.mC (c_X11_find l D (bC H s.heap h) S k n x yv2 yv4 yv6 hI (by omega) hmt kx) i_X11_find m_L_54 kx rfl rfl rfl hl.1 rfl (Nat.le_of_ble_eq_true rfl) ⟨by decide, by decide⟩ ⟨by show _ ≤ 600000; simp only []; omega, by show _ ≤ 7302250; simp only []; omega⟩ dL_law_529 (fun rv7 S1 k1 n1 H locs hp hM => ?_)
  have hJ := hJ.aC hM
  obtain ⟨m1, hm1, hm2, hk1, hn1, hX9, hI, -⟩ := hp
  have kx : mK S1 x = 12 := hX9.k kx
  refine W.eq (g2 := F0 m 532 ls [.int rv7]) rfl ?_
  refine lv_pop hx hb dL_law_532 rfl ?_
  refine lv_aload_n hx hb dL_law_533 rfl (lv_at hl 2 rfl) ?_
  refine lv_aload_n hx hb dL_law_534 rfl (lv_at hl 0 rfl) ?_
  refine lv_iload_n hx hb dL_law_535 rfl (lv_at hl 3 rfl) ?_
  refine lv_iconst (v := 1) hx hb dL_law_536 (by decide) ?_
  refine lv_iadd hx hb dL_law_537 ?_
  rw [← exv1]
  refine va_sld (A := fun q => s.heap.size ≤ q) hx hb hX hbl hbA hJ.2.2.1 (inI (by omega) (by omega)) dL_law_538 ?_
  rw [← eyv2]
  refine lv_aload_n hx hb dL_law_539 rfl (lv_at hl 0 rfl) ?_
  refine lv_iload_n hx hb dL_law_540 rfl (lv_at hl 3 rfl) ?_
  refine lv_iconst (v := 2) hx hb dL_law_541 (by decide) ?_
  refine lv_iadd hx hb dL_law_542 ?_
  rw [← exv3]
  refine va_sld (A := fun q => s.heap.size ≤ q) hx hb hX hbl hbA hJ.2.2.1 (inI (by omega) (by omega)) dL_law_543 ?_
  rw [← eyv4]
  refine lv_aload_n hx hb dL_law_544 rfl (lv_at hl 0 rfl) ?_
  refine lv_iload_n hx hb dL_law_545 rfl (lv_at hl 3 rfl) ?_
  refine lv_iconst (v := 3) hx hb dL_law_546 (by decide) ?_
  refine lv_iadd hx hb dL_law_547 ?_
  rw [← exv5]
  refine va_sld (A := fun q => s.heap.size ≤ q) hx hb hX hbl hbA hJ.2.2.1 (inI (by omega) (by omega)) dL_law_548 ?_
  rw [← eyv6]
  refine r_V (As := [.int yv2, .int yv4, .int yv6]) (rest := []) (ci := 12) C hJ.mR (c_X12_find l D (bR H s.heap S1) h R k1 n1 yv2 yv4 yv6 hRI) i_X12_find m_L_57 rK0 rfl rfl rfl hl.1 rfl (Nat.le_of_ble_eq_true rfl) ⟨by decide, by decide⟩ ⟨by show _ ≤ 600000; simp only []; omega, by show _ ≤ 7302250; simp only []; omega⟩ dL_law_549 (fun rv8 S2 k2 n2 H locs hp hM => ?_)
  obtain ⟨rfl, rfl, R1, rfl, hf9, hp⟩ := hp
  have hJ := hJ.aR hM
  have hRI : RI R1 := hRI.fr hf9 (by decide)
  have htl : (rI R1 2).toInt = tl := by rw [hf9.gI 2 (by decide)]; exact htl
  refine W.eq (g2 := F0 m 552 ls [.int rv8]) rfl ?_
  refine lv_pop hx hb dL_law_552 rfl ?_
  have hm1 : mt ≤ m1 := hm1
  have hk1 : k1 ≤ k + 3 * (m1 - mt) := hk1
  have hn1 : n1 ≤ n + 3665 * (m1 - mt) := hn1
  have hLS : LSt D s.heap x h (j + 1) H locs := ⟨S1, R1, u, tl, r1, m1, k1, n1, hJ, hI, kx, hRI, htl, ⟨by omega, by omega, hm2⟩, by omega, by omega⟩
  refine r_tightJ hJ (k0 := 71 + 63 * (j + 1)) (n0 := 93918 + 1100 * (j + 1)) (by omega) (by omega) ?_
  refine lv_goto (tgt := 1149) hx hb dL_law_553 (by decide) ?_
  exact kk _ _ hLS
set_option maxHeartbeats 4000000 in
set_option maxRecDepth 100000 in
theorem lc_found {p : Program} {l : Launch} {e : Env} {s : State} {m : MethodId} {below : List Frame} {meth : Method} {c : Code} {b L : Nat} {xs : Nat → Int32} {D : gD} {x h j : Nat} {H : Heap} {locs : List Loc} {ls : Array Slot} {iv : Int32} {Q : State → Prop} (C : Cx D p s m #[Value.ref b] c cL_law 4 RL) (hX : va_X b L xs s s.heap) (hbl : b < s.heap.size) (hL : L ≤ 3072) (hi : iv.toInt = 6 * j) (hj : 6 * j + 6 ≤ L) (hl : lv_has ls 4 [(0, .ref b), (1, .ref x), (2, .ref h), (3, .int iv)]) (hLS : LSt D s.heap x h j H locs)
    (kk : ∀ (H : Heap) (locs : List Loc), LSt D s.heap x h (j + 1) H locs → W p l e room_1 s m #[Value.ref b] below meth c H locs (71 + 63 * (j + 1)) (93918 + 1100 * (j + 1)) Q (F0 m 1149 ls [])) : W p l e room_1 s m #[Value.ref b] below meth c H locs (71 + 63 * j) (93918 + 1100 * j) Q (F0 m 556 ls []) := by
  obtain ⟨hx, hb, hml, hown, hts, -, -⟩ := id C
  have hbA : ¬ (fun q : Nat => s.heap.size ≤ q) b := Nat.not_le.mpr hbl
  obtain ⟨S, R, u, tl, r1, mt, k, n, hJ, hI, kx, hRI, htl, ⟨hu, hr1, hmt⟩, hk, hn⟩ := hLS
  have t_1 : (1 : Int32).toInt = 1 := by decide
  have t_2 : (2 : Int32).toInt = 2 := by decide
  have t_3 : (3 : Int32).toInt = 3 := by decide
  have t_4 : (4 : Int32).toInt = 4 := by decide
  have t_5 : (5 : Int32).toInt = 5 := by decide
  have t_0 : (0 : Int32).toInt = 0 := by decide
  refine lv_aload_n hx hb dL_law_556 rfl (lv_at hl 1 rfl) ?_
  refine lv_aload_n hx hb dL_law_557 rfl (lv_at hl 0 rfl) ?_
  refine lv_iload_n hx hb dL_law_558 rfl (lv_at hl 3 rfl) ?_
  refine lv_iconst (v := 1) hx hb dL_law_559 (by decide) ?_
  refine lv_iadd hx hb dL_law_560 ?_
  refine lv_topi (fun xv1 exv1 => ?_)
  have txv1 := addI (a := iv) (b := 1) (by omega) (by omega); rw [← exv1] at txv1
  refine va_sld (A := fun q => s.heap.size ≤ q) hx hb hX hbl hbA hJ.2.2.1 (inI (by omega) (by omega)) dL_law_561 ?_
  refine lv_topi (fun yv2 eyv2 => ?_)
  refine r_V (As := [.int yv2]) (rest := []) (ci := 11) C hJ.mC (c_X11_found l D (bC H s.heap h) S k n x yv2 hI kx) i_X11_found m_L_58 kx rfl rfl rfl hl.1 rfl (Nat.le_of_ble_eq_true rfl) ⟨by decide, by decide⟩ ⟨by show _ ≤ 600000; simp only []; omega, by show _ ≤ 7302250; simp only []; omega⟩ dL_law_562 (fun rv3 S1 k1 n1 H locs hp hM => ?_)
  have hJ := hJ.aC hM
  obtain ⟨rfl, rfl, rfl, -⟩ := hp
  refine W.eq (g2 := F0 m 565 ls [.int rv3]) rfl ?_
  refine lv_pop hx hb dL_law_565 rfl ?_
  refine lv_aload_n hx hb dL_law_566 rfl (lv_at hl 2 rfl) ?_
  refine lv_aload_n hx hb dL_law_567 rfl (lv_at hl 0 rfl) ?_
  refine lv_iload_n hx hb dL_law_568 rfl (lv_at hl 3 rfl) ?_
  refine lv_iconst (v := 1) hx hb dL_law_569 (by decide) ?_
  refine lv_iadd hx hb dL_law_570 ?_
  rw [← exv1]
  refine va_sld (A := fun q => s.heap.size ≤ q) hx hb hX hbl hbA hJ.2.2.1 (inI (by omega) (by omega)) dL_law_571 ?_
  rw [← eyv2]
  refine r_V (As := [.int yv2]) (rest := []) (ci := 12) C hJ.mR (c_X12_found l D (bR H s.heap S) h R k n yv2 hRI) i_X12_found m_L_61 rK0 rfl rfl rfl hl.1 rfl (Nat.le_of_ble_eq_true rfl) ⟨by decide, by decide⟩ ⟨by show _ ≤ 600000; simp only []; omega, by show _ ≤ 7302250; simp only []; omega⟩ dL_law_572 (fun rv4 S2 k2 n2 H locs hp hM => ?_)
  obtain ⟨rfl, rfl, rfl, hp⟩ := hp
  have hJ := hJ.aR hM
  refine W.eq (g2 := F0 m 575 ls [.int rv4]) rfl ?_
  refine lv_pop hx hb dL_law_575 rfl ?_
  have hLS : LSt D s.heap x h (j + 1) H locs := ⟨S, R, u, tl, r1, mt, k, n, hJ, hI, kx, hRI, htl, ⟨by omega, by omega, hmt⟩, by omega, by omega⟩
  refine r_tightJ hJ (k0 := 71 + 63 * (j + 1)) (n0 := 93918 + 1100 * (j + 1)) (by omega) (by omega) ?_
  refine lv_goto (tgt := 1149) hx hb dL_law_576 (by decide) ?_
  exact kk _ _ hLS
set_option maxHeartbeats 4000000 in
set_option maxRecDepth 100000 in
theorem lc_fits {p : Program} {l : Launch} {e : Env} {s : State} {m : MethodId} {below : List Frame} {meth : Method} {c : Code} {b L : Nat} {xs : Nat → Int32} {D : gD} {x h j : Nat} {H : Heap} {locs : List Loc} {ls : Array Slot} {iv : Int32} {Q : State → Prop} (C : Cx D p s m #[Value.ref b] c cL_law 4 RL) (hX : va_X b L xs s s.heap) (hbl : b < s.heap.size) (hL : L ≤ 3072) (hi : iv.toInt = 6 * j) (hj : 6 * j + 6 ≤ L) (hl : lv_has ls 4 [(0, .ref b), (1, .ref x), (2, .ref h), (3, .int iv)]) (hLS : LSt D s.heap x h j H locs)
    (kk : ∀ (H : Heap) (locs : List Loc), LSt D s.heap x h (j + 1) H locs → W p l e room_1 s m #[Value.ref b] below meth c H locs (71 + 63 * (j + 1)) (93918 + 1100 * (j + 1)) Q (F0 m 1149 ls [])) : W p l e room_1 s m #[Value.ref b] below meth c H locs (71 + 63 * j) (93918 + 1100 * j) Q (F0 m 579 ls []) := by
  obtain ⟨hx, hb, hml, hown, hts, -, -⟩ := id C
  have hbA : ¬ (fun q : Nat => s.heap.size ≤ q) b := Nat.not_le.mpr hbl
  obtain ⟨S, R, u, tl, r1, mt, k, n, hJ, hI, kx, hRI, htl, ⟨hu, hr1, hmt⟩, hk, hn⟩ := hLS
  have t_1 : (1 : Int32).toInt = 1 := by decide
  have t_2 : (2 : Int32).toInt = 2 := by decide
  have t_3 : (3 : Int32).toInt = 3 := by decide
  have t_4 : (4 : Int32).toInt = 4 := by decide
  have t_5 : (5 : Int32).toInt = 5 := by decide
  have t_0 : (0 : Int32).toInt = 0 := by decide
  refine lv_aload_n hx hb dL_law_579 rfl (lv_at hl 1 rfl) ?_
  refine lv_aload_n hx hb dL_law_580 rfl (lv_at hl 0 rfl) ?_
  refine lv_iload_n hx hb dL_law_581 rfl (lv_at hl 3 rfl) ?_
  refine lv_iconst (v := 1) hx hb dL_law_582 (by decide) ?_
  refine lv_iadd hx hb dL_law_583 ?_
  refine lv_topi (fun xv1 exv1 => ?_)
  have txv1 := addI (a := iv) (b := 1) (by omega) (by omega); rw [← exv1] at txv1
  refine va_sld (A := fun q => s.heap.size ≤ q) hx hb hX hbl hbA hJ.2.2.1 (inI (by omega) (by omega)) dL_law_584 ?_
  refine lv_topi (fun yv2 eyv2 => ?_)
  refine lv_aload_n hx hb dL_law_585 rfl (lv_at hl 0 rfl) ?_
  refine lv_iload_n hx hb dL_law_586 rfl (lv_at hl 3 rfl) ?_
  refine lv_iconst (v := 2) hx hb dL_law_587 (by decide) ?_
  refine lv_iadd hx hb dL_law_588 ?_
  refine lv_topi (fun xv3 exv3 => ?_)
  have txv3 := addI (a := iv) (b := 2) (by omega) (by omega); rw [← exv3] at txv3
  refine va_sld (A := fun q => s.heap.size ≤ q) hx hb hX hbl hbA hJ.2.2.1 (inI (by omega) (by omega)) dL_law_589 ?_
  refine lv_topi (fun yv4 eyv4 => ?_)
  refine lv_aload_n hx hb dL_law_590 rfl (lv_at hl 0 rfl) ?_
  refine lv_iload_n hx hb dL_law_591 rfl (lv_at hl 3 rfl) ?_
  refine lv_iconst (v := 3) hx hb dL_law_592 (by decide) ?_
  refine lv_iadd hx hb dL_law_593 ?_
  refine lv_topi (fun xv5 exv5 => ?_)
  have txv5 := addI (a := iv) (b := 3) (by omega) (by omega); rw [← exv5] at txv5
  refine va_sld (A := fun q => s.heap.size ≤ q) hx hb hX hbl hbA hJ.2.2.1 (inI (by omega) (by omega)) dL_law_594 ?_
  refine lv_topi (fun yv6 eyv6 => ?_)
  refine lv_aload_n hx hb dL_law_595 rfl (lv_at hl 0 rfl) ?_
  refine lv_iload_n hx hb dL_law_596 rfl (lv_at hl 3 rfl) ?_
  refine lv_iconst (v := 4) hx hb dL_law_597 (by decide) ?_
  refine lv_iadd hx hb dL_law_598 ?_
  refine lv_topi (fun xv7 exv7 => ?_)
  have txv7 := addI (a := iv) (b := 4) (by omega) (by omega); rw [← exv7] at txv7
  refine va_sld (A := fun q => s.heap.size ≤ q) hx hb hX hbl hbA hJ.2.2.1 (inI (by omega) (by omega)) dL_law_599 ?_
  refine lv_topi (fun yv8 eyv8 => ?_)
  refine r_V (As := [.int yv2, .int yv4, .int yv6, .int yv8]) (rest := []) (ci := 11) C hJ.mC (c_X11_fits l D (bC H s.heap h) S k n x yv2 yv4 yv6 yv8 hI kx) i_X11_fits m_L_62 kx rfl rfl rfl hl.1 rfl (Nat.le_of_ble_eq_true rfl) ⟨by decide, by decide⟩ ⟨by show _ ≤ 600000; simp only []; omega, by show _ ≤ 7302250; simp only []; omega⟩ dL_law_600 (fun rv9 S1 k1 n1 H locs hp hM => ?_)
  have hJ := hJ.aC hM
  obtain ⟨rfl, rfl, rfl, -⟩ := hp
  refine W.eq (g2 := F0 m 603 ls [.int rv9]) rfl ?_
  refine lv_pop hx hb dL_law_603 rfl ?_
  refine lv_aload_n hx hb dL_law_604 rfl (lv_at hl 2 rfl) ?_
  refine lv_aload_n hx hb dL_law_605 rfl (lv_at hl 0 rfl) ?_
  refine lv_iload_n hx hb dL_law_606 rfl (lv_at hl 3 rfl) ?_
  refine lv_iconst (v := 1) hx hb dL_law_607 (by decide) ?_
  refine lv_iadd hx hb dL_law_608 ?_
  rw [← exv1]
  refine va_sld (A := fun q => s.heap.size ≤ q) hx hb hX hbl hbA hJ.2.2.1 (inI (by omega) (by omega)) dL_law_609 ?_
  rw [← eyv2]
  refine lv_aload_n hx hb dL_law_610 rfl (lv_at hl 0 rfl) ?_
  refine lv_iload_n hx hb dL_law_611 rfl (lv_at hl 3 rfl) ?_
  refine lv_iconst (v := 2) hx hb dL_law_612 (by decide) ?_
  refine lv_iadd hx hb dL_law_613 ?_
  rw [← exv3]
  refine va_sld (A := fun q => s.heap.size ≤ q) hx hb hX hbl hbA hJ.2.2.1 (inI (by omega) (by omega)) dL_law_614 ?_
  rw [← eyv4]
  refine lv_aload_n hx hb dL_law_615 rfl (lv_at hl 0 rfl) ?_
  refine lv_iload_n hx hb dL_law_616 rfl (lv_at hl 3 rfl) ?_
  refine lv_iconst (v := 3) hx hb dL_law_617 (by decide) ?_
  refine lv_iadd hx hb dL_law_618 ?_
  rw [← exv5]
  refine va_sld (A := fun q => s.heap.size ≤ q) hx hb hX hbl hbA hJ.2.2.1 (inI (by omega) (by omega)) dL_law_619 ?_
  rw [← eyv6]
  refine lv_aload_n hx hb dL_law_620 rfl (lv_at hl 0 rfl) ?_
  refine lv_iload_n hx hb dL_law_621 rfl (lv_at hl 3 rfl) ?_
  refine lv_iconst (v := 4) hx hb dL_law_622 (by decide) ?_
  refine lv_iadd hx hb dL_law_623 ?_
  rw [← exv7]
  refine va_sld (A := fun q => s.heap.size ≤ q) hx hb hX hbl hbA hJ.2.2.1 (inI (by omega) (by omega)) dL_law_624 ?_
  rw [← eyv8]
  refine r_V (As := [.int yv2, .int yv4, .int yv6, .int yv8]) (rest := []) (ci := 12) C hJ.mR (c_X12_fits l D (bR H s.heap S) h R k n yv2 yv4 yv6 yv8 hRI) i_X12_fits m_L_65 rK0 rfl rfl rfl hl.1 rfl (Nat.le_of_ble_eq_true rfl) ⟨by decide, by decide⟩ ⟨by show _ ≤ 600000; simp only []; omega, by show _ ≤ 7302250; simp only []; omega⟩ dL_law_625 (fun rv10 S2 k2 n2 H locs hp hM => ?_)
  obtain ⟨rfl, rfl, rfl, hp⟩ := hp
  have hJ := hJ.aR hM
  refine W.eq (g2 := F0 m 628 ls [.int rv10]) rfl ?_
  refine lv_pop hx hb dL_law_628 rfl ?_
  have hLS : LSt D s.heap x h (j + 1) H locs := ⟨S, R, u, tl, r1, mt, k, n, hJ, hI, kx, hRI, htl, ⟨by omega, by omega, hmt⟩, by omega, by omega⟩
  refine r_tightJ hJ (k0 := 71 + 63 * (j + 1)) (n0 := 93918 + 1100 * (j + 1)) (by omega) (by omega) ?_
  refine lv_goto (tgt := 1149) hx hb dL_law_629 (by decide) ?_
  exact kk _ _ hLS
set_option maxHeartbeats 4000000 in
set_option maxRecDepth 100000 in
theorem lc_fit {p : Program} {l : Launch} {e : Env} {s : State} {m : MethodId} {below : List Frame} {meth : Method} {c : Code} {b L : Nat} {xs : Nat → Int32} {D : gD} {x h j : Nat} {H : Heap} {locs : List Loc} {ls : Array Slot} {iv : Int32} {Q : State → Prop} (C : Cx D p s m #[Value.ref b] c cL_law 4 RL) (hX : va_X b L xs s s.heap) (hbl : b < s.heap.size) (hL : L ≤ 3072) (hi : iv.toInt = 6 * j) (hj : 6 * j + 6 ≤ L) (hl : lv_has ls 4 [(0, .ref b), (1, .ref x), (2, .ref h), (3, .int iv)]) (hLS : LSt D s.heap x h j H locs)
    (kk : ∀ (H : Heap) (locs : List Loc), LSt D s.heap x h (j + 1) H locs → W p l e room_1 s m #[Value.ref b] below meth c H locs (71 + 63 * (j + 1)) (93918 + 1100 * (j + 1)) Q (F0 m 1149 ls [])) : W p l e room_1 s m #[Value.ref b] below meth c H locs (71 + 63 * j) (93918 + 1100 * j) Q (F0 m 632 ls []) := by
  obtain ⟨hx, hb, hml, hown, hts, -, -⟩ := id C
  have hbA : ¬ (fun q : Nat => s.heap.size ≤ q) b := Nat.not_le.mpr hbl
  obtain ⟨S, R, u, tl, r1, mt, k, n, hJ, hI, kx, hRI, htl, ⟨hu, hr1, hmt⟩, hk, hn⟩ := hLS
  have t_1 : (1 : Int32).toInt = 1 := by decide
  have t_2 : (2 : Int32).toInt = 2 := by decide
  have t_3 : (3 : Int32).toInt = 3 := by decide
  have t_4 : (4 : Int32).toInt = 4 := by decide
  have t_5 : (5 : Int32).toInt = 5 := by decide
  have t_0 : (0 : Int32).toInt = 0 := by decide
  refine lv_aload_n hx hb dL_law_632 rfl (lv_at hl 1 rfl) ?_
  refine lv_aload_n hx hb dL_law_633 rfl (lv_at hl 0 rfl) ?_
  refine lv_iload_n hx hb dL_law_634 rfl (lv_at hl 3 rfl) ?_
  refine lv_iconst (v := 1) hx hb dL_law_635 (by decide) ?_
  refine lv_iadd hx hb dL_law_636 ?_
  refine lv_topi (fun xv1 exv1 => ?_)
  have txv1 := addI (a := iv) (b := 1) (by omega) (by omega); rw [← exv1] at txv1
  refine va_sld (A := fun q => s.heap.size ≤ q) hx hb hX hbl hbA hJ.2.2.1 (inI (by omega) (by omega)) dL_law_637 ?_
  refine lv_topi (fun yv2 eyv2 => ?_)
  refine lv_aload_n hx hb dL_law_638 rfl (lv_at hl 0 rfl) ?_
  refine lv_iload_n hx hb dL_law_639 rfl (lv_at hl 3 rfl) ?_
  refine lv_iconst (v := 2) hx hb dL_law_640 (by decide) ?_
  refine lv_iadd hx hb dL_law_641 ?_
  refine lv_topi (fun xv3 exv3 => ?_)
  have txv3 := addI (a := iv) (b := 2) (by omega) (by omega); rw [← exv3] at txv3
  refine va_sld (A := fun q => s.heap.size ≤ q) hx hb hX hbl hbA hJ.2.2.1 (inI (by omega) (by omega)) dL_law_642 ?_
  refine lv_topi (fun yv4 eyv4 => ?_)
  refine lv_aload_n hx hb dL_law_643 rfl (lv_at hl 0 rfl) ?_
  refine lv_iload_n hx hb dL_law_644 rfl (lv_at hl 3 rfl) ?_
  refine lv_iconst (v := 3) hx hb dL_law_645 (by decide) ?_
  refine lv_iadd hx hb dL_law_646 ?_
  refine lv_topi (fun xv5 exv5 => ?_)
  have txv5 := addI (a := iv) (b := 3) (by omega) (by omega); rw [← exv5] at txv5
  refine va_sld (A := fun q => s.heap.size ≤ q) hx hb hX hbl hbA hJ.2.2.1 (inI (by omega) (by omega)) dL_law_647 ?_
  refine lv_topi (fun yv6 eyv6 => ?_)
  refine lv_aload_n hx hb dL_law_648 rfl (lv_at hl 0 rfl) ?_
  refine lv_iload_n hx hb dL_law_649 rfl (lv_at hl 3 rfl) ?_
  refine lv_iconst (v := 4) hx hb dL_law_650 (by decide) ?_
  refine lv_iadd hx hb dL_law_651 ?_
  refine lv_topi (fun xv7 exv7 => ?_)
  have txv7 := addI (a := iv) (b := 4) (by omega) (by omega); rw [← exv7] at txv7
  refine va_sld (A := fun q => s.heap.size ≤ q) hx hb hX hbl hbA hJ.2.2.1 (inI (by omega) (by omega)) dL_law_652 ?_
  refine lv_topi (fun yv8 eyv8 => ?_)
  refine lv_aload_n hx hb dL_law_653 rfl (lv_at hl 0 rfl) ?_
  refine lv_iload_n hx hb dL_law_654 rfl (lv_at hl 3 rfl) ?_
  refine lv_iconst (v := 5) hx hb dL_law_655 (by decide) ?_
  refine lv_iadd hx hb dL_law_656 ?_
  refine lv_topi (fun xv9 exv9 => ?_)
  have txv9 := addI (a := iv) (b := 5) (by omega) (by omega); rw [← exv9] at txv9
  refine va_sld (A := fun q => s.heap.size ≤ q) hx hb hX hbl hbA hJ.2.2.1 (inI (by omega) (by omega)) dL_law_657 ?_
  refine lv_topi (fun yv10 eyv10 => ?_)
  refine r_V (As := [.int yv2, .int yv4, .int yv6, .int yv8, .int yv10]) (rest := []) (ci := 11) C hJ.mC (c_X11_fit l D (bC H s.heap h) S k n x yv2 yv4 yv6 yv8 yv10 hI kx) i_X11_fit m_L_66 kx rfl rfl rfl hl.1 rfl (Nat.le_of_ble_eq_true rfl) ⟨by decide, by decide⟩ ⟨by show _ ≤ 600000; simp only []; omega, by show _ ≤ 7302250; simp only []; omega⟩ dL_law_658 (fun rv11 S1 k1 n1 H locs hp hM => ?_)
  have hJ := hJ.aC hM
  obtain ⟨rfl, rfl, rfl, -⟩ := hp
  refine W.eq (g2 := F0 m 661 ls [.int rv11]) rfl ?_
  refine lv_pop hx hb dL_law_661 rfl ?_
  refine lv_aload_n hx hb dL_law_662 rfl (lv_at hl 2 rfl) ?_
  refine lv_aload_n hx hb dL_law_663 rfl (lv_at hl 0 rfl) ?_
  refine lv_iload_n hx hb dL_law_664 rfl (lv_at hl 3 rfl) ?_
  refine lv_iconst (v := 1) hx hb dL_law_665 (by decide) ?_
  refine lv_iadd hx hb dL_law_666 ?_
  rw [← exv1]
  refine va_sld (A := fun q => s.heap.size ≤ q) hx hb hX hbl hbA hJ.2.2.1 (inI (by omega) (by omega)) dL_law_667 ?_
  rw [← eyv2]
  refine lv_aload_n hx hb dL_law_668 rfl (lv_at hl 0 rfl) ?_
  refine lv_iload_n hx hb dL_law_669 rfl (lv_at hl 3 rfl) ?_
  refine lv_iconst (v := 2) hx hb dL_law_670 (by decide) ?_
  refine lv_iadd hx hb dL_law_671 ?_
  rw [← exv3]
  refine va_sld (A := fun q => s.heap.size ≤ q) hx hb hX hbl hbA hJ.2.2.1 (inI (by omega) (by omega)) dL_law_672 ?_
  rw [← eyv4]
  refine lv_aload_n hx hb dL_law_673 rfl (lv_at hl 0 rfl) ?_
  refine lv_iload_n hx hb dL_law_674 rfl (lv_at hl 3 rfl) ?_
  refine lv_iconst (v := 3) hx hb dL_law_675 (by decide) ?_
  refine lv_iadd hx hb dL_law_676 ?_
  rw [← exv5]
  refine va_sld (A := fun q => s.heap.size ≤ q) hx hb hX hbl hbA hJ.2.2.1 (inI (by omega) (by omega)) dL_law_677 ?_
  rw [← eyv6]
  refine lv_aload_n hx hb dL_law_678 rfl (lv_at hl 0 rfl) ?_
  refine lv_iload_n hx hb dL_law_679 rfl (lv_at hl 3 rfl) ?_
  refine lv_iconst (v := 4) hx hb dL_law_680 (by decide) ?_
  refine lv_iadd hx hb dL_law_681 ?_
  rw [← exv7]
  refine va_sld (A := fun q => s.heap.size ≤ q) hx hb hX hbl hbA hJ.2.2.1 (inI (by omega) (by omega)) dL_law_682 ?_
  rw [← eyv8]
  refine lv_aload_n hx hb dL_law_683 rfl (lv_at hl 0 rfl) ?_
  refine lv_iload_n hx hb dL_law_684 rfl (lv_at hl 3 rfl) ?_
  refine lv_iconst (v := 5) hx hb dL_law_685 (by decide) ?_
  refine lv_iadd hx hb dL_law_686 ?_
  rw [← exv9]
  refine va_sld (A := fun q => s.heap.size ≤ q) hx hb hX hbl hbA hJ.2.2.1 (inI (by omega) (by omega)) dL_law_687 ?_
  rw [← eyv10]
  refine r_V (As := [.int yv2, .int yv4, .int yv6, .int yv8, .int yv10]) (rest := []) (ci := 12) C hJ.mR (c_X12_fit l D (bR H s.heap S) h R k n yv2 yv4 yv6 yv8 yv10 hRI) i_X12_fit m_L_69 rK0 rfl rfl rfl hl.1 rfl (Nat.le_of_ble_eq_true rfl) ⟨by decide, by decide⟩ ⟨by show _ ≤ 600000; simp only []; omega, by show _ ≤ 7302250; simp only []; omega⟩ dL_law_688 (fun rv12 S2 k2 n2 H locs hp hM => ?_)
  obtain ⟨rfl, rfl, rfl, hp⟩ := hp
  have hJ := hJ.aR hM
  refine W.eq (g2 := F0 m 691 ls [.int rv12]) rfl ?_
  refine lv_pop hx hb dL_law_691 rfl ?_
  have hLS : LSt D s.heap x h (j + 1) H locs := ⟨S, R, u, tl, r1, mt, k, n, hJ, hI, kx, hRI, htl, ⟨by omega, by omega, hmt⟩, by omega, by omega⟩
  refine r_tightJ hJ (k0 := 71 + 63 * (j + 1)) (n0 := 93918 + 1100 * (j + 1)) (by omega) (by omega) ?_
  refine lv_goto (tgt := 1149) hx hb dL_law_692 (by decide) ?_
  exact kk _ _ hLS
