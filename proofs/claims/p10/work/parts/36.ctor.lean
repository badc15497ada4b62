/-! ===== the reference's constructor ===== -/
def rMn (j h : Nat) (R : RS) : Mem :=
  (fun a => if a = h then 13 else if h < a ∧ a < h + 1 + j then rkd (a - h - 1) else 0,
   fun f a => if a = h ∧ 1200 ≤ f then R.1 (f - 1200) else 0,
   fun f a => if a = h ∧ 1200 ≤ f then R.2.1 (f - 1200) else 0,
   fun f a => if a = h ∧ 1200 ≤ f then (rixo (f - 1200)).bind (fun i => if i < j then some (h + 1 + i) else none) else none,
   fun a => if h < a then rlen (a - h - 1) else 0,
   fun a i => if h < a then R.2.2.1 (rxi (a - h - 1)) i else 0,
   fun a i => if h < a then R.2.2.2 (rxi (a - h - 1)) i else 0,
   fun _ _ => none)
def RZ : RS := (fun _ => 0, fun _ => 0, fun _ _ => 0, fun _ _ => 0)
def Z0 : Mem := (fun _ => 0, fun _ _ => 0, fun _ _ => 0, fun _ _ => none, fun _ => 0, fun _ _ => 0, fun _ _ => 0, fun _ _ => none)
def zA (R : RS) : Prop := (∀ k i, R.2.2.1 k i = 0) ∧ ∀ k i, R.2.2.2 k i = 0
theorem mH.to {D : gD} {H0 : gB} {H : Heap} {S S1 : Mem} {k n : Nat} {locs : List Loc} (h : mH D H0 S k n H locs) (hs : ∀ b, mK S1 b ≠ 0 → mSame S S1 b) : mH D H0 S1 k n H locs :=
  ⟨fun a ha => by
    have e := hs a ha
    obtain ⟨g1, g2, g3⟩ := h.1 a (by rw [← e.1]; exact ha)
    exact ⟨g1, g2, g3.same e⟩, h.2⟩
theorem sval_of {S S1 : Mem} {b : Nat} (h1 : ∀ f, mI S1 f b = mI S f b) (h2 : ∀ f, mL S1 f b = mL S f b) (h3 : ∀ f, mR S1 f b = mR S f b) (ci k : Nat) : sval ci k S1 b = sval ci k S b := by
  unfold sval
  split <;> simp only [h1, h2, h3]
section RMN
variable {h : Nat} {R : RS} {k j i : Nat}
theorem rn0 : mK (rMn j h R) h = 13 := if_pos rfl
theorem rnpI {v : Int32} : pI (rMn j h R) (100 * 12 + k) h v = rMn j h (uI R k v) := by
  have e := up12 (h := h) (k := k) (v := v) (z := (0 : Int32)) (F := R.1)
  unfold rMn
  dsimp only [pI, uI]
  rw [e]
theorem rn_start : ∀ b, mK (rMn 0 h RZ) b ≠ 0 → mSame (nO Z0 h 12) (rMn 0 h RZ) b := by
  intro b hb
  have e : b = h := by
    by_cases e : b = h
    · exact e
    · exfalso
      apply hb
      show (if b = h then 13 else if h < b ∧ b < h + 1 + 0 then rkd (b - h - 1) else 0) = 0
      rw [if_neg e, if_neg (by omega)]
  subst e
  refine ⟨?_, sval_of (fun f => ?_) (fun f => ?_) (fun f => ?_), ?_, marr_q ?_ ?_ ?_⟩
  · rw [rn0]; simp [mK, va_up]
  · simp [mI, rMn, RZ, cl2]
  · simp [mL, rMn, RZ, cl2]
  · show (if b = b ∧ 1200 ≤ f then (rixo (f - 1200)).bind (fun i => if i < 0 then some (b + 1 + i) else none) else none) = cl2 _ b none f b
    rw [cl2_eq]
    split
    · cases rixo (f - 1200) <;> simp
    · rfl
  · simp [mN, rMn, Z0]
  · funext q; simp [aI, rMn, Z0]
  · funext q; simp [aL, rMn, Z0]
  · funext q; simp [aR, rMn, Z0]
theorem rixo_rxi {k j : Nat} (h : rixo k = some j) : rxi j = k := by
  unfold rixo at h
  obtain ⟨h1, h2, -⟩ := List.findIdx?_eq_some_iff_getElem.mp h
  unfold rxi
  rw [List.getD_eq_getElem?_getD, List.getElem?_eq_getElem h1]
  simpa using h2
theorem rn_step {t n : Nat} (hz : zA R) (hj : j < 30) (ht : rkd j = t + 21) (hn : rlen j = n) (hk : rixo k = some j) : ∀ b, mK (rMn (j + 1) h R) b ≠ 0 → mSame (pR (nA (rMn j h R) (h + 1 + j) t n) (100 * 12 + k) h (some (h + 1 + j))) (rMn (j + 1) h R) b := by
  intro b hb
  have hcase : b = h ∨ b = h + 1 + j ∨ (h < b ∧ b < h + 1 + j) := by
    by_cases e : b = h
    · exact Or.inl e
    · by_cases e2 : h < b ∧ b < h + 1 + (j + 1)
      · omega
      · exfalso
        apply hb
        show (if b = h then 13 else if h < b ∧ b < h + 1 + (j + 1) then rkd (b - h - 1) else 0) = 0
        rw [if_neg e, if_neg e2]
  rcases hcase with rfl | rfl | ⟨h1, h2⟩
  · refine ⟨?_, sval_of (fun f => rfl) (fun f => rfl) (fun f => ?_), ?_, marr_q ?_ ?_ ?_⟩
    · rw [rn0]
      show 13 = va_up _ _ _ _
      rw [va_up_ne _ _ (by omega)]
      exact rn0.symm
    · show (if b = b ∧ 1200 ≤ f then (rixo (f - 1200)).bind (fun i => if i < j + 1 then some (b + 1 + i) else none) else none) = up2 _ (100 * 12 + k) b (some (b + 1 + j)) f b
      by_cases e : f = 100 * 12 + k
      · subst e
        rw [up2_eq, if_pos ⟨rfl, by omega⟩, show 100 * 12 + k - 1200 = k by omega, hk]
        simp
      · rw [up2_ne (fun z => e z.1)]
        show _ = (if b = b ∧ 1200 ≤ f then (rixo (f - 1200)).bind (fun i => if i < j then some (b + 1 + i) else none) else none)
        by_cases e2 : 1200 ≤ f
        · rw [if_pos ⟨rfl, e2⟩, if_pos ⟨rfl, e2⟩]
          cases hi : rixo (f - 1200) with
          | none => rfl
          | some i =>
            have e3 : i ≠ j := fun z => by
              subst z
              have h3 := (rixo_rxi hi).symm.trans (rixo_rxi hk)
              omega
            show (if i < j + 1 then _ else _) = (if i < j then _ else _)
            by_cases e4 : i < j
            · rw [if_pos e4, if_pos (by omega)]
            · rw [if_neg e4, if_neg (by omega)]
        · rw [if_neg (fun z => e2 z.2), if_neg (fun z => e2 z.2)]
    · show (if b < b then _ else 0) = va_up _ _ _ _
      rw [va_up_ne _ _ (by omega)]
      rfl
    · funext q
      show _ = cl1 _ (b + 1 + j) 0 b q
      unfold cl1
      rw [if_neg (by omega)]
      rfl
    · funext q
      show _ = cl1 _ (b + 1 + j) 0 b q
      unfold cl1
      rw [if_neg (by omega)]
      rfl
    · funext q
      show _ = cl1 _ (b + 1 + j) none b q
      unfold cl1
      rw [if_neg (by omega)]
      rfl
  · refine ⟨?_, sval_of (fun f => rfl) (fun f => rfl) (fun f => ?_), ?_, marr_q ?_ ?_ ?_⟩
    · show (if h + 1 + j = h then 13 else if h < h + 1 + j ∧ h + 1 + j < h + 1 + (j + 1) then rkd (h + 1 + j - h - 1) else 0) = va_up _ _ _ _
      rw [va_up_self, if_neg (by omega), if_pos ⟨by omega, by omega⟩, show h + 1 + j - h - 1 = j by omega, ht]
    · show (if h + 1 + j = h ∧ 1200 ≤ f then _ else none) = up2 _ (100 * 12 + k) h _ f (h + 1 + j)
      rw [up2_ne (by omega), if_neg (by omega)]
      show _ = (if h + 1 + j = h ∧ 1200 ≤ f then _ else none)
      rw [if_neg (by omega)]
    · show (if h < h + 1 + j then rlen (h + 1 + j - h - 1) else 0) = va_up _ _ _ _
      rw [va_up_self, if_pos (by omega), show h + 1 + j - h - 1 = j by omega, hn]
    · funext q
      show (if h < h + 1 + j then R.2.2.1 (rxi (h + 1 + j - h - 1)) q else 0) = cl1 _ (h + 1 + j) 0 (h + 1 + j) q
      unfold cl1
      rw [if_pos rfl, if_pos (by omega), hz.1]
    · funext q
      show (if h < h + 1 + j then R.2.2.2 (rxi (h + 1 + j - h - 1)) q else 0) = cl1 _ (h + 1 + j) 0 (h + 1 + j) q
      unfold cl1
      rw [if_pos rfl, if_pos (by omega), hz.2]
    · funext q
      show none = cl1 _ (h + 1 + j) none (h + 1 + j) q
      unfold cl1
      rw [if_pos rfl]
  · refine ⟨?_, sval_of (fun f => rfl) (fun f => rfl) (fun f => ?_), ?_, marr_q ?_ ?_ ?_⟩
    · show (if b = h then 13 else if h < b ∧ b < h + 1 + (j + 1) then rkd (b - h - 1) else 0) = va_up _ _ _ _
      rw [va_up_ne _ _ (by omega), if_neg (by omega), if_pos ⟨by omega, by omega⟩]
      show _ = (if b = h then 13 else if h < b ∧ b < h + 1 + j then rkd (b - h - 1) else 0)
      rw [if_neg (by omega), if_pos ⟨h1, h2⟩]
    · show (if b = h ∧ 1200 ≤ f then _ else none) = up2 _ (100 * 12 + k) h _ f b
      rw [up2_ne (by omega), if_neg (by omega)]
      show _ = (if b = h ∧ 1200 ≤ f then _ else none)
      rw [if_neg (by omega)]
    · show _ = va_up _ _ _ _
      rw [va_up_ne _ _ (by omega)]
      rfl
    · funext q
      show _ = cl1 _ (h + 1 + j) 0 b q
      unfold cl1
      rw [if_neg (by omega)]
      rfl
    · funext q
      show _ = cl1 _ (h + 1 + j) 0 b q
      unfold cl1
      rw [if_neg (by omega)]
      rfl
    · funext q
      show _ = cl1 _ (h + 1 + j) none b q
      unfold cl1
      rw [if_neg (by omega)]
      rfl
theorem rixo_lt {k j : Nat} (h : rixo k = some j) : j < 30 := by
  unfold rixo at h
  obtain ⟨h1, -, -⟩ := List.findIdx?_eq_some_iff_getElem.mp h
  exact h1
theorem rn_end : ∀ b, mK (rM h R) b ≠ 0 → mSame (rMn 30 h R) (rM h R) b := by
  intro b _
  refine ⟨rfl, sval_of (fun f => rfl) (fun f => rfl) (fun f => ?_), rfl, marr_q rfl rfl rfl⟩
  show (if b = h ∧ 1200 ≤ f then (rixo (f - 1200)).map (fun j => h + 1 + j) else none) = (if b = h ∧ 1200 ≤ f then (rixo (f - 1200)).bind (fun i => if i < 30 then some (h + 1 + i) else none) else none)
  cases hi : rixo (f - 1200) with
  | none => rfl
  | some i =>
    show (if _ then some (h + 1 + i) else none) = (if _ then (if i < 30 then some (h + 1 + i) else none) else none)
    rw [if_pos (rixo_lt hi)]
end RMN
section RMK
variable {p : Program} {l : Launch} {e : Env} {Rm : Room} {s : State} {m : MethodId} {args : Array Value} {below : List Frame} {meth : Method} {c : Code} {H : Heap} {locs : List Loc} {cells slots : Nat} {Q : State → Prop}
variable {cc : ByteArray} {pc nL : Nat} {own : String} {ls : Array Slot} {rest : List Value} {D : gD} {H0 : gB} {S : Mem} {h : Nat} {R : RS} {kb kc ns k j index : Nat}
theorem r_newE {t : Nat} {n : Int32} {N' : Nat} {ty : FieldType} {atype : ArrayType} (C : Cx D p s m args c cc nL own) (hM : mH D H0 S kc ns H locs) (ht : t < 4) (hty : (gtys D.2.2)[t]? = some (D.2.2 t, ty)) (hat : newarray.typeOf atype = ty) (hw : Cond.arrayClass ty ∈ gT) (hd : ∀ cA : ClassId, vp_cell cA (N', marr t (nA S H.size t N') H.size) = arrV cA N' (fun _ => defaultValue ty)) (hra : ∀ U cA, va_RA U cA ty = (U.vm.findClass ("[" ++ ty.toString) = some cA))
    (hn : ¬ n < 0) (hN : n.toNatClampNeg = N') (hbytes : N' * componentBytes ty ≤ 536870912) (hcells : cells + 1 ≤ Rm.cells) (hslots : slots + N' ≤ Rm.slots) (hdg : decode cc pc = .ok (.newarray atype, 2))
    (kk : ∀ (H1 : Heap), mH D H0 (nA S H.size t N') (kc + 1) (ns + N') H1 locs → W p l e Rm s m args below meth c H1 locs (cells + 1) (slots + N') Q (F0 m (pc + 2) ls (.ref H.size :: rest))) : W p l e Rm s m args below meth c H locs cells slots Q (F0 m pc ls (.int n :: rest)) := by
  obtain ⟨hx, hb, -, hown, hts, hK, -⟩ := C
  subst hat
  refine va_newaK hx hb (hts _ hw) rfl hdg rfl hn hN hbytes hcells hslots rfl fun H1 cA e1 z1 o1 hAr hNm => ?_
  have hA : D.2.2 t = cA := by
    have h2 := (hK.1.2 t _ hty).2
    rw [hra] at h2
    exact Option.some.inj (h2.symm.trans hNm)
  refine kk H1 (hM.push e1 (arrV_size _ _ _) z1 o1 (fun b hb => mSame.nA hb) (mOK.at (t := t) (by simp [mK, va_up]) (by omega) ?_))
  rw [e1, ← hd, hA]
  show _ = some (vp_cell cA (va_up _ _ _ _, _))
  rw [va_up_self]
theorem rr_mkI {n : Int32} {N' : Nat} {i2 : Nat} (C : Cx D p s m args c cc nL own) (hM : mH D H0 (rMn j h R) (kb + j) ns H locs) (hh : H0.2.1 + kb = h + 1) (hz : zA R) (ht : rkd j = 0 + 21) (hln : rlen j = N') (hix : rixo k = some j) (hf : fl own i2 12 k) (hfin : ∀ r : vw_C, vwCl[12]? = some r → (r.2.1 k).2.2.2 = true ∧ (r.2.1 k).1 = own) (hin2 : meth.name = "<init>") (hn1 : ∀ q : Nat, narrow (tyOf 12 k) (.ref q) = .ref q) (hfit : ∀ q : Nat, fits (tyOf 12 k) (.ref q) = true) (hs : shp 12 k = 2) (hw : Cond.arrayClass .int ∈ gT) (hn : ¬ n < 0) (hN : n.toNatClampNeg = N') (hbytes : N' * componentBytes .int ≤ 536870912) (hcells : cells + 1 ≤ Rm.cells) (hslots : slots + N' ≤ Rm.slots) (hdg : decode cc pc = .ok (.newarray .int, 2)) (hdg2 : decode cc (pc + 2) = .ok (.putfield i2, 3))
    (kk : ∀ (H1 : Heap) (locs1 : List Loc), mH D H0 (rMn (j + 1) h R) (kb + (j + 1)) (ns + N') H1 locs1 → W p l e Rm s m args below meth c H1 locs1 (cells + 1) (slots + N') Q (F0 m (pc + 2 + 3) ls rest)) : W p l e Rm s m args below meth c H locs cells slots Q (F0 m pc ls (.int n :: .ref h :: rest)) := by
  have hsz : H.size = h + 1 + j := by rw [hM.2.2.1]; omega
  refine r_newE (t := 0) (ty := .int) C hM (by decide) rfl rfl hw (fun cA => by show vp_cell cA (N', .inl _) = _; rw [vp_cell_i]; congr 1; funext j; simp [aI, cl1, defaultValue]) (fun _ _ => rfl) hn hN hbytes hcells hslots hdg (fun H1 hM1 => ?_)
  rw [hsz] at hM1 ⊢
  refine r_putF (ci := 12) (k := k) (v := .ref (h + 1 + j)) C hM1 (show mK (nA (rMn j h R) (h + 1 + j) 0 N') h = 13 by show va_up _ _ _ _ = _; rw [va_up_ne _ _ (by omega)]; exact rn0) hf hfin hin2 (hn1 _) (hfit _) (mPut.Rf (ci := 12) (k := k) (x := some (h + 1 + j)) hs) hdg2 (fun H2 l2 hM2 => ?_)
  exact kk H2 l2 (hM2.to (rn_step hz (rixo_lt hix) ht hln hix))
theorem rr_mkJ {n : Int32} {N' : Nat} {i2 : Nat} (C : Cx D p s m args c cc nL own) (hM : mH D H0 (rMn j h R) (kb + j) ns H locs) (hh : H0.2.1 + kb = h + 1) (hz : zA R) (ht : rkd j = 1 + 21) (hln : rlen j = N') (hix : rixo k = some j) (hf : fl own i2 12 k) (hfin : ∀ r : vw_C, vwCl[12]? = some r → (r.2.1 k).2.2.2 = true ∧ (r.2.1 k).1 = own) (hin2 : meth.name = "<init>") (hn1 : ∀ q : Nat, narrow (tyOf 12 k) (.ref q) = .ref q) (hfit : ∀ q : Nat, fits (tyOf 12 k) (.ref q) = true) (hs : shp 12 k = 2) (hw : Cond.arrayClass .long ∈ gT) (hn : ¬ n < 0) (hN : n.toNatClampNeg = N') (hbytes : N' * componentBytes .long ≤ 536870912) (hcells : cells + 1 ≤ Rm.cells) (hslots : slots + N' ≤ Rm.slots) (hdg : decode cc pc = .ok (.newarray .long, 2)) (hdg2 : decode cc (pc + 2) = .ok (.putfield i2, 3))
    (kk : ∀ (H1 : Heap) (locs1 : List Loc), mH D H0 (rMn (j + 1) h R) (kb + (j + 1)) (ns + N') H1 locs1 → W p l e Rm s m args below meth c H1 locs1 (cells + 1) (slots + N') Q (F0 m (pc + 2 + 3) ls rest)) : W p l e Rm s m args below meth c H locs cells slots Q (F0 m pc ls (.int n :: .ref h :: rest)) := by
  have hsz : H.size = h + 1 + j := by rw [hM.2.2.1]; omega
  refine r_newE (t := 1) (ty := .long) C hM (by decide) rfl rfl hw (fun cA => by show vp_cell cA (N', .inr (.inl _)) = _; rw [vp_cell_l]; congr 1; funext j; simp [aL, cl1, defaultValue]) (fun _ _ => rfl) hn hN hbytes hcells hslots hdg (fun H1 hM1 => ?_)
  rw [hsz] at hM1 ⊢
  refine r_putF (ci := 12) (k := k) (v := .ref (h + 1 + j)) C hM1 (show mK (nA (rMn j h R) (h + 1 + j) 1 N') h = 13 by show va_up _ _ _ _ = _; rw [va_up_ne _ _ (by omega)]; exact rn0) hf hfin hin2 (hn1 _) (hfit _) (mPut.Rf (ci := 12) (k := k) (x := some (h + 1 + j)) hs) hdg2 (fun H2 l2 hM2 => ?_)
  exact kk H2 l2 (hM2.to (rn_step hz (rixo_lt hix) ht hln hix))
theorem rr_mkB {n : Int32} {N' : Nat} {i2 : Nat} (C : Cx D p s m args c cc nL own) (hM : mH D H0 (rMn j h R) (kb + j) ns H locs) (hh : H0.2.1 + kb = h + 1) (hz : zA R) (ht : rkd j = 2 + 21) (hln : rlen j = N') (hix : rixo k = some j) (hf : fl own i2 12 k) (hfin : ∀ r : vw_C, vwCl[12]? = some r → (r.2.1 k).2.2.2 = true ∧ (r.2.1 k).1 = own) (hin2 : meth.name = "<init>") (hn1 : ∀ q : Nat, narrow (tyOf 12 k) (.ref q) = .ref q) (hfit : ∀ q : Nat, fits (tyOf 12 k) (.ref q) = true) (hs : shp 12 k = 2) (hw : Cond.arrayClass .byte ∈ gT) (hn : ¬ n < 0) (hN : n.toNatClampNeg = N') (hbytes : N' * componentBytes .byte ≤ 536870912) (hcells : cells + 1 ≤ Rm.cells) (hslots : slots + N' ≤ Rm.slots) (hdg : decode cc pc = .ok (.newarray .byte, 2)) (hdg2 : decode cc (pc + 2) = .ok (.putfield i2, 3))
    (kk : ∀ (H1 : Heap) (locs1 : List Loc), mH D H0 (rMn (j + 1) h R) (kb + (j + 1)) (ns + N') H1 locs1 → W p l e Rm s m args below meth c H1 locs1 (cells + 1) (slots + N') Q (F0 m (pc + 2 + 3) ls rest)) : W p l e Rm s m args below meth c H locs cells slots Q (F0 m pc ls (.int n :: .ref h :: rest)) := by
  have hsz : H.size = h + 1 + j := by rw [hM.2.2.1]; omega
  refine r_newE (t := 2) (ty := .byte) C hM (by decide) rfl rfl hw (fun cA => by show vp_cell cA (N', .inl _) = _; rw [vp_cell_i]; congr 1; funext j; simp [aI, cl1, defaultValue]) (fun _ _ => rfl) hn hN hbytes hcells hslots hdg (fun H1 hM1 => ?_)
  rw [hsz] at hM1 ⊢
  refine r_putF (ci := 12) (k := k) (v := .ref (h + 1 + j)) C hM1 (show mK (nA (rMn j h R) (h + 1 + j) 2 N') h = 13 by show va_up _ _ _ _ = _; rw [va_up_ne _ _ (by omega)]; exact rn0) hf hfin hin2 (hn1 _) (hfit _) (mPut.Rf (ci := 12) (k := k) (x := some (h + 1 + j)) hs) hdg2 (fun H2 l2 hM2 => ?_)
  exact kk H2 l2 (hM2.to (rn_step hz (rixo_lt hix) ht hln hix))
theorem rr_mkZ {n : Int32} {N' : Nat} {i2 : Nat} (C : Cx D p s m args c cc nL own) (hM : mH D H0 (rMn j h R) (kb + j) ns H locs) (hh : H0.2.1 + kb = h + 1) (hz : zA R) (ht : rkd j = 3 + 21) (hln : rlen j = N') (hix : rixo k = some j) (hf : fl own i2 12 k) (hfin : ∀ r : vw_C, vwCl[12]? = some r → (r.2.1 k).2.2.2 = true ∧ (r.2.1 k).1 = own) (hin2 : meth.name = "<init>") (hn1 : ∀ q : Nat, narrow (tyOf 12 k) (.ref q) = .ref q) (hfit : ∀ q : Nat, fits (tyOf 12 k) (.ref q) = true) (hs : shp 12 k = 2) (hw : Cond.arrayClass .boolean ∈ gT) (hn : ¬ n < 0) (hN : n.toNatClampNeg = N') (hbytes : N' * componentBytes .boolean ≤ 536870912) (hcells : cells + 1 ≤ Rm.cells) (hslots : slots + N' ≤ Rm.slots) (hdg : decode cc pc = .ok (.newarray .boolean, 2)) (hdg2 : decode cc (pc + 2) = .ok (.putfield i2, 3))
    (kk : ∀ (H1 : Heap) (locs1 : List Loc), mH D H0 (rMn (j + 1) h R) (kb + (j + 1)) (ns + N') H1 locs1 → W p l e Rm s m args below meth c H1 locs1 (cells + 1) (slots + N') Q (F0 m (pc + 2 + 3) ls rest)) : W p l e Rm s m args below meth c H locs cells slots Q (F0 m pc ls (.int n :: .ref h :: rest)) := by
  have hsz : H.size = h + 1 + j := by rw [hM.2.2.1]; omega
  refine r_newE (t := 3) (ty := .boolean) C hM (by decide) rfl rfl hw (fun cA => by show vp_cell cA (N', .inl _) = _; rw [vp_cell_i]; congr 1; funext j; simp [aI, cl1, defaultValue]) (fun _ _ => rfl) hn hN hbytes hcells hslots hdg (fun H1 hM1 => ?_)
  rw [hsz] at hM1 ⊢
  refine r_putF (ci := 12) (k := k) (v := .ref (h + 1 + j)) C hM1 (show mK (nA (rMn j h R) (h + 1 + j) 3 N') h = 13 by show va_up _ _ _ _ = _; rw [va_up_ne _ _ (by omega)]; exact rn0) hf hfin hin2 (hn1 _) (hfit _) (mPut.Rf (ci := 12) (k := k) (x := some (h + 1 + j)) hs) hdg2 (fun H2 l2 hM2 => ?_)
  exact kk H2 l2 (hM2.to (rn_step hz (rixo_lt hix) ht hln hix))
end RMK
def R0 : RS := (uI (uI RZ 5 (-1 : Int32)) 25 (1 : Int32))
set_option maxHeartbeats 4000000 in
set_option maxRecDepth 100000 in
theorem c_X12_init (l : Launch) (D : gD) (H0 : gB) (kb ns : Nat) (h0 : Nat) (hh : H0.2.1 + kb = h0 + 1) : Met l yX12_init (wsU yX12_init cX12_init 1 none) ({ frames := 1, cells := 30, slots := 58839, locals := 20 } : Room) (mP D H0 (rMn 0 h0 RZ) (kb + 0) ns [.ref h0]) (mQ D H0 gV (fun r S1 k1 n1 => kb + 30 = k1 ∧ ns + 58839 = n1 ∧ rM h0 R0 = S1)) 30 58839 (mF H0) := by
  refine r_met (own := RX12) (by decide +kernel) rfl (Nat.le_of_ble_eq_true rfl) ?_
  intro p e s m args below meth c C hr hlk hnm H ls hl hM
  obtain ⟨hx, hb, hml, hown, hts, -, -⟩ := id C
  have hl : lv_has ls 1 [(0, .ref h0)] := hl
  refine lv_aload_n hx hb dX12_init_0 rfl (lv_at hl 0 rfl) ?_
  refine W.objInit hx hb hown (hts _ m_X12_1) (hts _ oi_inst) (hts _ oi_code) rfl (by rw [hml]; exact hl.1) rfl dX12_init_1 (Nat.le_of_ble_eq_true rfl) (Nat.le_of_ble_eq_true rfl) ?_
  refine W.eq (g2 := F0 m 4 ls []) rfl ?_
  refine lv_aload_n hx hb dX12_init_4 rfl (lv_at hl 0 rfl) ?_
  refine lv_sipush (v := 1620) hx hb dX12_init_5 (by decide) ?_
  refine rr_mkB (j := 0) (k := 0) (N' := 1620) C hM hh (by exact ⟨fun _ _ => rfl, fun _ _ => rfl⟩) rfl rfl rfl f_X12_7 (fun r h => by cases h; exact ⟨rfl, rfl⟩) hnm (fun _ => rfl) (fun _ => rfl) rfl ac_byte (by decide) (by decide) (by decide) (Nat.le_of_ble_eq_true rfl) (Nat.le_of_ble_eq_true rfl) dX12_init_8 dX12_init_10 (fun H locs hM => ?_)
  have hM : mH D H0 (rMn 1 h0 RZ) (kb + 1) _ H locs := hM
  refine lv_aload_n hx hb dX12_init_13 rfl (lv_at hl 0 rfl) ?_
  refine lv_sipush (v := 1600) hx hb dX12_init_14 (by decide) ?_
  refine rr_mkB (j := 1) (k := 1) (N' := 1600) C hM hh (by exact ⟨fun _ _ => rfl, fun _ _ => rfl⟩) rfl rfl rfl f_X12_13 (fun r h => by cases h; exact ⟨rfl, rfl⟩) hnm (fun _ => rfl) (fun _ => rfl) rfl ac_byte (by decide) (by decide) (by decide) (Nat.le_of_ble_eq_true rfl) (Nat.le_of_ble_eq_true rfl) dX12_init_17 dX12_init_19 (fun H locs hM => ?_)
  have hM : mH D H0 (rMn 2 h0 RZ) (kb + 2) _ H locs := hM
  refine lv_aload_n hx hb dX12_init_22 rfl (lv_at hl 0 rfl) ?_
  refine lv_iconst (v := -1) hx hb dX12_init_23 (by decide) ?_
  refine r_put (ci := 12) (k := 5) (S1 := rMn 2 h0 (uI RZ 5 (-1 : Int32))) C hM rn0 f_X12_16 (fun r h => by cases h; rfl) rfl rfl (by rw [← rnpI (j := 2) (h := h0) (R := RZ) (k := 5) (v := (-1 : Int32))]; exact mPut.I (ci := 12) (k := 5) rfl) dX12_init_24 (fun H locs hM => ?_)
  refine lv_aload_n hx hb dX12_init_27 rfl (lv_at hl 0 rfl) ?_
  refine lv_bipush (v := 31) hx hb dX12_init_28 (by decide) ?_
  refine rr_mkI (j := 2) (k := 10) (N' := 31) C hM hh (by exact ⟨fun _ _ => rfl, fun _ _ => rfl⟩) rfl rfl rfl f_X12_20 (fun r h => by cases h; exact ⟨rfl, rfl⟩) hnm (fun _ => rfl) (fun _ => rfl) rfl ac_int (by decide) (by decide) (by decide) (Nat.le_of_ble_eq_true rfl) (Nat.le_of_ble_eq_true rfl) dX12_init_30 dX12_init_32 (fun H locs hM => ?_)
  have hM : mH D H0 (rMn 3 h0 (uI RZ 5 (-1 : Int32))) (kb + 3) _ H locs := hM
  refine lv_aload_n hx hb dX12_init_35 rfl (lv_at hl 0 rfl) ?_
  refine lv_sipush (v := 1860) hx hb dX12_init_36 (by decide) ?_
  refine rr_mkI (j := 3) (k := 11) (N' := 1860) C hM hh (by exact ⟨fun _ _ => rfl, fun _ _ => rfl⟩) rfl rfl rfl f_X12_24 (fun r h => by cases h; exact ⟨rfl, rfl⟩) hnm (fun _ => rfl) (fun _ => rfl) rfl ac_int (by decide) (by decide) (by decide) (Nat.le_of_ble_eq_true rfl) (Nat.le_of_ble_eq_true rfl) dX12_init_39 dX12_init_41 (fun H locs hM => ?_)
  have hM : mH D H0 (rMn 4 h0 (uI RZ 5 (-1 : Int32))) (kb + 4) _ H locs := hM
  refine lv_aload_n hx hb dX12_init_44 rfl (lv_at hl 0 rfl) ?_
  refine lv_sipush (v := 1860) hx hb dX12_init_45 (by decide) ?_
  refine rr_mkI (j := 4) (k := 12) (N' := 1860) C hM hh (by exact ⟨fun _ _ => rfl, fun _ _ => rfl⟩) rfl rfl rfl f_X12_27 (fun r h => by cases h; exact ⟨rfl, rfl⟩) hnm (fun _ => rfl) (fun _ => rfl) rfl ac_int (by decide) (by decide) (by decide) (Nat.le_of_ble_eq_true rfl) (Nat.le_of_ble_eq_true rfl) dX12_init_48 dX12_init_50 (fun H locs hM => ?_)
  have hM : mH D H0 (rMn 5 h0 (uI RZ 5 (-1 : Int32))) (kb + 5) _ H locs := hM
  refine lv_aload_n hx hb dX12_init_53 rfl (lv_at hl 0 rfl) ?_
  refine lv_sipush (v := 1860) hx hb dX12_init_54 (by decide) ?_
  refine rr_mkI (j := 5) (k := 13) (N' := 1860) C hM hh (by exact ⟨fun _ _ => rfl, fun _ _ => rfl⟩) rfl rfl rfl f_X12_30 (fun r h => by cases h; exact ⟨rfl, rfl⟩) hnm (fun _ => rfl) (fun _ => rfl) rfl ac_int (by decide) (by decide) (by decide) (Nat.le_of_ble_eq_true rfl) (Nat.le_of_ble_eq_true rfl) dX12_init_57 dX12_init_59 (fun H locs hM => ?_)
  have hM : mH D H0 (rMn 6 h0 (uI RZ 5 (-1 : Int32))) (kb + 6) _ H locs := hM
  refine lv_aload_n hx hb dX12_init_62 rfl (lv_at hl 0 rfl) ?_
  refine lv_sipush (v := 1860) hx hb dX12_init_63 (by decide) ?_
  refine rr_mkI (j := 6) (k := 14) (N' := 1860) C hM hh (by exact ⟨fun _ _ => rfl, fun _ _ => rfl⟩) rfl rfl rfl f_X12_33 (fun r h => by cases h; exact ⟨rfl, rfl⟩) hnm (fun _ => rfl) (fun _ => rfl) rfl ac_int (by decide) (by decide) (by decide) (Nat.le_of_ble_eq_true rfl) (Nat.le_of_ble_eq_true rfl) dX12_init_66 dX12_init_68 (fun H locs hM => ?_)
  have hM : mH D H0 (rMn 7 h0 (uI RZ 5 (-1 : Int32))) (kb + 7) _ H locs := hM
  refine lv_aload_n hx hb dX12_init_71 rfl (lv_at hl 0 rfl) ?_
  refine lv_sipush (v := 1860) hx hb dX12_init_72 (by decide) ?_
  refine rr_mkI (j := 7) (k := 15) (N' := 1860) C hM hh (by exact ⟨fun _ _ => rfl, fun _ _ => rfl⟩) rfl rfl rfl f_X12_36 (fun r h => by cases h; exact ⟨rfl, rfl⟩) hnm (fun _ => rfl) (fun _ => rfl) rfl ac_int (by decide) (by decide) (by decide) (Nat.le_of_ble_eq_true rfl) (Nat.le_of_ble_eq_true rfl) dX12_init_75 dX12_init_77 (fun H locs hM => ?_)
  have hM : mH D H0 (rMn 8 h0 (uI RZ 5 (-1 : Int32))) (kb + 8) _ H locs := hM
  refine lv_aload_n hx hb dX12_init_80 rfl (lv_at hl 0 rfl) ?_
  refine lv_sipush (v := 1860) hx hb dX12_init_81 (by decide) ?_
  refine rr_mkI (j := 8) (k := 16) (N' := 1860) C hM hh (by exact ⟨fun _ _ => rfl, fun _ _ => rfl⟩) rfl rfl rfl f_X12_39 (fun r h => by cases h; exact ⟨rfl, rfl⟩) hnm (fun _ => rfl) (fun _ => rfl) rfl ac_int (by decide) (by decide) (by decide) (Nat.le_of_ble_eq_true rfl) (Nat.le_of_ble_eq_true rfl) dX12_init_84 dX12_init_86 (fun H locs hM => ?_)
  have hM : mH D H0 (rMn 9 h0 (uI RZ 5 (-1 : Int32))) (kb + 9) _ H locs := hM
  refine lv_aload_n hx hb dX12_init_89 rfl (lv_at hl 0 rfl) ?_
  refine lv_sipush (v := 1860) hx hb dX12_init_90 (by decide) ?_
  refine rr_mkJ (j := 9) (k := 17) (N' := 1860) C hM hh (by exact ⟨fun _ _ => rfl, fun _ _ => rfl⟩) rfl rfl rfl f_X12_42 (fun r h => by cases h; exact ⟨rfl, rfl⟩) hnm (fun _ => rfl) (fun _ => rfl) rfl ac_long (by decide) (by decide) (by decide) (Nat.le_of_ble_eq_true rfl) (Nat.le_of_ble_eq_true rfl) dX12_init_93 dX12_init_95 (fun H locs hM => ?_)
  have hM : mH D H0 (rMn 10 h0 (uI RZ 5 (-1 : Int32))) (kb + 10) _ H locs := hM
  refine lv_aload_n hx hb dX12_init_98 rfl (lv_at hl 0 rfl) ?_
  refine lv_sipush (v := 1860) hx hb dX12_init_99 (by decide) ?_
  refine rr_mkJ (j := 10) (k := 18) (N' := 1860) C hM hh (by exact ⟨fun _ _ => rfl, fun _ _ => rfl⟩) rfl rfl rfl f_X12_46 (fun r h => by cases h; exact ⟨rfl, rfl⟩) hnm (fun _ => rfl) (fun _ => rfl) rfl ac_long (by decide) (by decide) (by decide) (Nat.le_of_ble_eq_true rfl) (Nat.le_of_ble_eq_true rfl) dX12_init_102 dX12_init_104 (fun H locs hM => ?_)
  have hM : mH D H0 (rMn 11 h0 (uI RZ 5 (-1 : Int32))) (kb + 11) _ H locs := hM
  refine lv_aload_n hx hb dX12_init_107 rfl (lv_at hl 0 rfl) ?_
  refine lv_sipush (v := 1860) hx hb dX12_init_108 (by decide) ?_
  refine rr_mkZ (j := 11) (k := 19) (N' := 1860) C hM hh (by exact ⟨fun _ _ => rfl, fun _ _ => rfl⟩) rfl rfl rfl f_X12_49 (fun r h => by cases h; exact ⟨rfl, rfl⟩) hnm (fun _ => rfl) (fun _ => rfl) rfl ac_boolean (by decide) (by decide) (by decide) (Nat.le_of_ble_eq_true rfl) (Nat.le_of_ble_eq_true rfl) dX12_init_111 dX12_init_113 (fun H locs hM => ?_)
  have hM : mH D H0 (rMn 12 h0 (uI RZ 5 (-1 : Int32))) (kb + 12) _ H locs := hM
  refine lv_aload_n hx hb dX12_init_116 rfl (lv_at hl 0 rfl) ?_
  refine lv_sipush (v := 29760) hx hb dX12_init_117 (by decide) ?_
  refine rr_mkB (j := 12) (k := 20) (N' := 29760) C hM hh (by exact ⟨fun _ _ => rfl, fun _ _ => rfl⟩) rfl rfl rfl f_X12_53 (fun r h => by cases h; exact ⟨rfl, rfl⟩) hnm (fun _ => rfl) (fun _ => rfl) rfl ac_byte (by decide) (by decide) (by decide) (Nat.le_of_ble_eq_true rfl) (Nat.le_of_ble_eq_true rfl) dX12_init_120 dX12_init_122 (fun H locs hM => ?_)
  have hM : mH D H0 (rMn 13 h0 (uI RZ 5 (-1 : Int32))) (kb + 13) _ H locs := hM
  refine lv_aload_n hx hb dX12_init_125 rfl (lv_at hl 0 rfl) ?_
  refine lv_bipush (v := 13) hx hb dX12_init_126 (by decide) ?_
  refine rr_mkI (j := 13) (k := 21) (N' := 13) C hM hh (by exact ⟨fun _ _ => rfl, fun _ _ => rfl⟩) rfl rfl rfl f_X12_56 (fun r h => by cases h; exact ⟨rfl, rfl⟩) hnm (fun _ => rfl) (fun _ => rfl) rfl ac_int (by decide) (by decide) (by decide) (Nat.le_of_ble_eq_true rfl) (Nat.le_of_ble_eq_true rfl) dX12_init_128 dX12_init_130 (fun H locs hM => ?_)
  have hM : mH D H0 (rMn 14 h0 (uI RZ 5 (-1 : Int32))) (kb + 14) _ H locs := hM
  refine lv_aload_n hx hb dX12_init_133 rfl (lv_at hl 0 rfl) ?_
  refine lv_sipush (v := 3600) hx hb dX12_init_134 (by decide) ?_
  refine rr_mkI (j := 14) (k := 23) (N' := 3600) C hM hh (by exact ⟨fun _ _ => rfl, fun _ _ => rfl⟩) rfl rfl rfl f_X12_59 (fun r h => by cases h; exact ⟨rfl, rfl⟩) hnm (fun _ => rfl) (fun _ => rfl) rfl ac_int (by decide) (by decide) (by decide) (Nat.le_of_ble_eq_true rfl) (Nat.le_of_ble_eq_true rfl) dX12_init_137 dX12_init_139 (fun H locs hM => ?_)
  have hM : mH D H0 (rMn 15 h0 (uI RZ 5 (-1 : Int32))) (kb + 15) _ H locs := hM
  refine lv_aload_n hx hb dX12_init_142 rfl (lv_at hl 0 rfl) ?_
  refine lv_sipush (v := 3721) hx hb dX12_init_143 (by decide) ?_
  refine rr_mkI (j := 15) (k := 24) (N' := 3721) C hM hh (by exact ⟨fun _ _ => rfl, fun _ _ => rfl⟩) rfl rfl rfl f_X12_62 (fun r h => by cases h; exact ⟨rfl, rfl⟩) hnm (fun _ => rfl) (fun _ => rfl) rfl ac_int (by decide) (by decide) (by decide) (Nat.le_of_ble_eq_true rfl) (Nat.le_of_ble_eq_true rfl) dX12_init_146 dX12_init_148 (fun H locs hM => ?_)
  have hM : mH D H0 (rMn 16 h0 (uI RZ 5 (-1 : Int32))) (kb + 16) _ H locs := hM
  refine lv_aload_n hx hb dX12_init_151 rfl (lv_at hl 0 rfl) ?_
  refine lv_iconst (v := 1) hx hb dX12_init_152 (by decide) ?_
  refine r_put (ci := 12) (k := 25) (S1 := rMn 16 h0 (uI (uI RZ 5 (-1 : Int32)) 25 (1 : Int32))) C hM rn0 f_X12_65 (fun r h => by cases h; rfl) rfl rfl (by rw [← rnpI (j := 16) (h := h0) (R := (uI RZ 5 (-1 : Int32))) (k := 25) (v := (1 : Int32))]; exact mPut.I (ci := 12) (k := 25) rfl) dX12_init_153 (fun H locs hM => ?_)
  refine lv_aload_n hx hb dX12_init_156 rfl (lv_at hl 0 rfl) ?_
  refine lv_bipush (v := 6) hx hb dX12_init_157 (by decide) ?_
  refine rr_mkI (j := 16) (k := 35) (N' := 6) C hM hh (by exact ⟨fun _ _ => rfl, fun _ _ => rfl⟩) rfl rfl rfl f_X12_68 (fun r h => by cases h; exact ⟨rfl, rfl⟩) hnm (fun _ => rfl) (fun _ => rfl) rfl ac_int (by decide) (by decide) (by decide) (Nat.le_of_ble_eq_true rfl) (Nat.le_of_ble_eq_true rfl) dX12_init_159 dX12_init_161 (fun H locs hM => ?_)
  have hM : mH D H0 (rMn 17 h0 (uI (uI RZ 5 (-1 : Int32)) 25 (1 : Int32))) (kb + 17) _ H locs := hM
  refine lv_aload_n hx hb dX12_init_164 rfl (lv_at hl 0 rfl) ?_
  refine lv_sipush (v := 360) hx hb dX12_init_165 (by decide) ?_
  refine rr_mkI (j := 17) (k := 37) (N' := 360) C hM hh (by exact ⟨fun _ _ => rfl, fun _ _ => rfl⟩) rfl rfl rfl f_X12_71 (fun r h => by cases h; exact ⟨rfl, rfl⟩) hnm (fun _ => rfl) (fun _ => rfl) rfl ac_int (by decide) (by decide) (by decide) (Nat.le_of_ble_eq_true rfl) (Nat.le_of_ble_eq_true rfl) dX12_init_168 dX12_init_170 (fun H locs hM => ?_)
  have hM : mH D H0 (rMn 18 h0 (uI (uI RZ 5 (-1 : Int32)) 25 (1 : Int32))) (kb + 18) _ H locs := hM
  refine lv_aload_n hx hb dX12_init_173 rfl (lv_at hl 0 rfl) ?_
  refine lv_sipush (v := 252) hx hb dX12_init_174 (by decide) ?_
  refine rr_mkJ (j := 18) (k := 39) (N' := 252) C hM hh (by exact ⟨fun _ _ => rfl, fun _ _ => rfl⟩) rfl rfl rfl f_X12_74 (fun r h => by cases h; exact ⟨rfl, rfl⟩) hnm (fun _ => rfl) (fun _ => rfl) rfl ac_long (by decide) (by decide) (by decide) (Nat.le_of_ble_eq_true rfl) (Nat.le_of_ble_eq_true rfl) dX12_init_177 dX12_init_179 (fun H locs hM => ?_)
  have hM : mH D H0 (rMn 19 h0 (uI (uI RZ 5 (-1 : Int32)) 25 (1 : Int32))) (kb + 19) _ H locs := hM
  refine lv_aload_n hx hb dX12_init_182 rfl (lv_at hl 0 rfl) ?_
  refine lv_sipush (v := 252) hx hb dX12_init_183 (by decide) ?_
  refine rr_mkI (j := 19) (k := 40) (N' := 252) C hM hh (by exact ⟨fun _ _ => rfl, fun _ _ => rfl⟩) rfl rfl rfl f_X12_77 (fun r h => by cases h; exact ⟨rfl, rfl⟩) hnm (fun _ => rfl) (fun _ => rfl) rfl ac_int (by decide) (by decide) (by decide) (Nat.le_of_ble_eq_true rfl) (Nat.le_of_ble_eq_true rfl) dX12_init_186 dX12_init_188 (fun H locs hM => ?_)
  have hM : mH D H0 (rMn 20 h0 (uI (uI RZ 5 (-1 : Int32)) 25 (1 : Int32))) (kb + 20) _ H locs := hM
  refine lv_aload_n hx hb dX12_init_191 rfl (lv_at hl 0 rfl) ?_
  refine lv_bipush (v := 21) hx hb dX12_init_192 (by decide) ?_
  refine rr_mkI (j := 20) (k := 41) (N' := 21) C hM hh (by exact ⟨fun _ _ => rfl, fun _ _ => rfl⟩) rfl rfl rfl f_X12_80 (fun r h => by cases h; exact ⟨rfl, rfl⟩) hnm (fun _ => rfl) (fun _ => rfl) rfl ac_int (by decide) (by decide) (by decide) (Nat.le_of_ble_eq_true rfl) (Nat.le_of_ble_eq_true rfl) dX12_init_194 dX12_init_196 (fun H locs hM => ?_)
  have hM : mH D H0 (rMn 21 h0 (uI (uI RZ 5 (-1 : Int32)) 25 (1 : Int32))) (kb + 21) _ H locs := hM
  refine lv_aload_n hx hb dX12_init_199 rfl (lv_at hl 0 rfl) ?_
  refine lv_bipush (v := 21) hx hb dX12_init_200 (by decide) ?_
  refine rr_mkI (j := 21) (k := 42) (N' := 21) C hM hh (by exact ⟨fun _ _ => rfl, fun _ _ => rfl⟩) rfl rfl rfl f_X12_83 (fun r h => by cases h; exact ⟨rfl, rfl⟩) hnm (fun _ => rfl) (fun _ => rfl) rfl ac_int (by decide) (by decide) (by decide) (Nat.le_of_ble_eq_true rfl) (Nat.le_of_ble_eq_true rfl) dX12_init_202 dX12_init_204 (fun H locs hM => ?_)
  have hM : mH D H0 (rMn 22 h0 (uI (uI RZ 5 (-1 : Int32)) 25 (1 : Int32))) (kb + 22) _ H locs := hM
  refine lv_aload_n hx hb dX12_init_207 rfl (lv_at hl 0 rfl) ?_
  refine lv_bipush (v := 21) hx hb dX12_init_208 (by decide) ?_
  refine rr_mkI (j := 22) (k := 43) (N' := 21) C hM hh (by exact ⟨fun _ _ => rfl, fun _ _ => rfl⟩) rfl rfl rfl f_X12_86 (fun r h => by cases h; exact ⟨rfl, rfl⟩) hnm (fun _ => rfl) (fun _ => rfl) rfl ac_int (by decide) (by decide) (by decide) (Nat.le_of_ble_eq_true rfl) (Nat.le_of_ble_eq_true rfl) dX12_init_210 dX12_init_212 (fun H locs hM => ?_)
  have hM : mH D H0 (rMn 23 h0 (uI (uI RZ 5 (-1 : Int32)) 25 (1 : Int32))) (kb + 23) _ H locs := hM
  refine lv_aload_n hx hb dX12_init_215 rfl (lv_at hl 0 rfl) ?_
  refine lv_bipush (v := 21) hx hb dX12_init_216 (by decide) ?_
  refine rr_mkI (j := 23) (k := 44) (N' := 21) C hM hh (by exact ⟨fun _ _ => rfl, fun _ _ => rfl⟩) rfl rfl rfl f_X12_89 (fun r h => by cases h; exact ⟨rfl, rfl⟩) hnm (fun _ => rfl) (fun _ => rfl) rfl ac_int (by decide) (by decide) (by decide) (Nat.le_of_ble_eq_true rfl) (Nat.le_of_ble_eq_true rfl) dX12_init_218 dX12_init_220 (fun H locs hM => ?_)
  have hM : mH D H0 (rMn 24 h0 (uI (uI RZ 5 (-1 : Int32)) 25 (1 : Int32))) (kb + 24) _ H locs := hM
  refine lv_aload_n hx hb dX12_init_223 rfl (lv_at hl 0 rfl) ?_
  refine lv_bipush (v := 20) hx hb dX12_init_224 (by decide) ?_
  refine rr_mkZ (j := 24) (k := 45) (N' := 20) C hM hh (by exact ⟨fun _ _ => rfl, fun _ _ => rfl⟩) rfl rfl rfl f_X12_92 (fun r h => by cases h; exact ⟨rfl, rfl⟩) hnm (fun _ => rfl) (fun _ => rfl) rfl ac_boolean (by decide) (by decide) (by decide) (Nat.le_of_ble_eq_true rfl) (Nat.le_of_ble_eq_true rfl) dX12_init_226 dX12_init_228 (fun H locs hM => ?_)
  have hM : mH D H0 (rMn 25 h0 (uI (uI RZ 5 (-1 : Int32)) 25 (1 : Int32))) (kb + 25) _ H locs := hM
  refine lv_aload_n hx hb dX12_init_231 rfl (lv_at hl 0 rfl) ?_
  refine lv_bipush (v := 20) hx hb dX12_init_232 (by decide) ?_
  refine rr_mkZ (j := 25) (k := 46) (N' := 20) C hM hh (by exact ⟨fun _ _ => rfl, fun _ _ => rfl⟩) rfl rfl rfl f_X12_95 (fun r h => by cases h; exact ⟨rfl, rfl⟩) hnm (fun _ => rfl) (fun _ => rfl) rfl ac_boolean (by decide) (by decide) (by decide) (Nat.le_of_ble_eq_true rfl) (Nat.le_of_ble_eq_true rfl) dX12_init_234 dX12_init_236 (fun H locs hM => ?_)
  have hM : mH D H0 (rMn 26 h0 (uI (uI RZ 5 (-1 : Int32)) 25 (1 : Int32))) (kb + 26) _ H locs := hM
  refine lv_aload_n hx hb dX12_init_239 rfl (lv_at hl 0 rfl) ?_
  refine lv_bipush (v := 60) hx hb dX12_init_240 (by decide) ?_
  refine rr_mkZ (j := 26) (k := 47) (N' := 60) C hM hh (by exact ⟨fun _ _ => rfl, fun _ _ => rfl⟩) rfl rfl rfl f_X12_98 (fun r h => by cases h; exact ⟨rfl, rfl⟩) hnm (fun _ => rfl) (fun _ => rfl) rfl ac_boolean (by decide) (by decide) (by decide) (Nat.le_of_ble_eq_true rfl) (Nat.le_of_ble_eq_true rfl) dX12_init_242 dX12_init_244 (fun H locs hM => ?_)
  have hM : mH D H0 (rMn 27 h0 (uI (uI RZ 5 (-1 : Int32)) 25 (1 : Int32))) (kb + 27) _ H locs := hM
  refine lv_aload_n hx hb dX12_init_247 rfl (lv_at hl 0 rfl) ?_
  refine lv_bipush (v := 20) hx hb dX12_init_248 (by decide) ?_
  refine rr_mkI (j := 27) (k := 48) (N' := 20) C hM hh (by exact ⟨fun _ _ => rfl, fun _ _ => rfl⟩) rfl rfl rfl f_X12_101 (fun r h => by cases h; exact ⟨rfl, rfl⟩) hnm (fun _ => rfl) (fun _ => rfl) rfl ac_int (by decide) (by decide) (by decide) (Nat.le_of_ble_eq_true rfl) (Nat.le_of_ble_eq_true rfl) dX12_init_250 dX12_init_252 (fun H locs hM => ?_)
  have hM : mH D H0 (rMn 28 h0 (uI (uI RZ 5 (-1 : Int32)) 25 (1 : Int32))) (kb + 28) _ H locs := hM
  refine lv_aload_n hx hb dX12_init_255 rfl (lv_at hl 0 rfl) ?_
  refine lv_bipush (v := 40) hx hb dX12_init_256 (by decide) ?_
  refine rr_mkI (j := 28) (k := 49) (N' := 40) C hM hh (by exact ⟨fun _ _ => rfl, fun _ _ => rfl⟩) rfl rfl rfl f_X12_104 (fun r h => by cases h; exact ⟨rfl, rfl⟩) hnm (fun _ => rfl) (fun _ => rfl) rfl ac_int (by decide) (by decide) (by decide) (Nat.le_of_ble_eq_true rfl) (Nat.le_of_ble_eq_true rfl) dX12_init_258 dX12_init_260 (fun H locs hM => ?_)
  have hM : mH D H0 (rMn 29 h0 (uI (uI RZ 5 (-1 : Int32)) 25 (1 : Int32))) (kb + 29) _ H locs := hM
  refine lv_aload_n hx hb dX12_init_263 rfl (lv_at hl 0 rfl) ?_
  refine lv_sipush (v := 640) hx hb dX12_init_264 (by decide) ?_
  refine rr_mkB (j := 29) (k := 50) (N' := 640) C hM hh (by exact ⟨fun _ _ => rfl, fun _ _ => rfl⟩) rfl rfl rfl f_X12_107 (fun r h => by cases h; exact ⟨rfl, rfl⟩) hnm (fun _ => rfl) (fun _ => rfl) rfl ac_byte (by decide) (by decide) (by decide) (Nat.le_of_ble_eq_true rfl) (Nat.le_of_ble_eq_true rfl) dX12_init_267 dX12_init_269 (fun H locs hM => ?_)
  have hM : mH D H0 (rMn 30 h0 (uI (uI RZ 5 (-1 : Int32)) 25 (1 : Int32))) (kb + 30) _ H locs := hM
  exact r_retV C hr hlk (hM.to rn_end) (⟨by omega, by omega, rfl⟩) dX12_init_272
theorem RI0 : RI R0 := by
  refine ⟨fun g => ⟨(by decide : 0 ≤ (0 : Int32).toInt), (by decide : (0 : Int32).toInt ≤ 60)⟩, fun g _ p hp => ?_, fun i => (by decide : (0 : Int32).toInt ≤ 16), ⟨by decide, by decide⟩, fun k hk => ?_, ⟨by decide, by decide⟩, fun k hk _ => ?_, fun i => (by decide : (0 : Int32).toInt ≤ 12), fun i => (by decide : (0 : Int32).toInt ≤ 16), ⟨by decide, by decide⟩, ⟨by decide, by decide⟩⟩
  · have e : (rA R0 10 g).toInt = 0 := rfl
    omega
  · have e : (rI R0 36).toInt = 0 := rfl
    omega
  · have e : (rI R0 51).toInt = 0 := rfl
    omega
theorem taped0 : (rI R0 2).toInt = 0 := rfl
