section Rows2
variable {p : Program} {l : Launch} {e : Env} {R : Room} {s : State} {m : MethodId} {args : Array Value} {below : List Frame} {meth : Method} {c : Code} {H : Heap} {locs : List Loc} {cells slots : Nat} {Q : State → Prop}
variable {cc : ByteArray} {pc nL : Nat} {own : String} {ls : Array Slot} {rest : List Value} {D : gD} {H0 : gB} {S S1 : Mem} {kc ns a : Nat}
theorem mSame.qI {i : Nat} {x : Int32} {b : Nat} (h : b ≠ a) : mSame S (qI S a i x) b := ⟨rfl, fun _ _ => rfl, rfl, marr_q (by funext j; simp [aI, up2, h]) rfl rfl⟩
theorem mSame.qL {i : Nat} {x : Int64} {b : Nat} (h : b ≠ a) : mSame S (qL S a i x) b := ⟨rfl, fun _ _ => rfl, rfl, marr_q rfl (by funext j; simp [aL, up2, h]) rfl⟩
theorem mSame.qR {i : Nat} {x : Option Nat} {b : Nat} (h : b ≠ a) : mSame S (qR S a i x) b := ⟨rfl, fun _ _ => rfl, rfl, marr_q rfl rfl (by funext j; simp [aR, up2, h])⟩
theorem r_iast {i x : Int32} (C : Cx D p s m args c cc nL own) (hM : mH D H0 S kc ns H locs) (hk : mK S a = 21) (hin : vp_in i (mN S a)) (hdg : decode cc pc = .ok (.iastore, 1))
    (kk : ∀ (H1 : Heap) (locs1 : List Loc), mH D H0 (qI S a i.toNatClampNeg x) kc ns H1 locs1 → W p l e R s m args below meth c H1 locs1 cells slots Q (F0 m (pc + 1) ls rest)) : W p l e R s m args below meth c H locs cells slots Q (F0 m pc ls (.int x :: .int i :: .ref a :: rest)) := by
  have hc := hM.arr (t := 0) hk (by decide)
  refine W.iast C.1 C.2.1 hc ((C.2.2.2.2.2.1.1.2 0 _ rfl).1 (mN S a) (fun j => .int (aI S a j))) (fun q => by cases q) (by show ¬ (i < 0 ∨ (arrV _ _ _).slots.size ≤ _); rw [arrV_size]; exact hin) rfl rfl hdg fun H1 e1 z oq => ?_
  refine kk H1 _ (hM.write (by rw [hk]; decide) (fun _ => rfl) hc e1 (by simp [Cell.setSlot]) z oq (fun b hb => mSame.qI hb) (mOK.at (t := 0) hk (by decide) ?_))
  rw [e1]
  show some ((vp_cell _ (mN S a, .inl (aI S a))).setSlot _ _) = some (vp_cell _ (mN S a, .inl _))
  rw [vp_cell_i, vp_cell_i, arrV_store]
  congr 2
  funext q
  by_cases hq : q = i.toNatClampNeg <;> simp [updV, aI, up2, hq]
theorem r_bast {i x : Int32} (C : Cx D p s m args c cc nL own) (hM : mH D H0 S kc ns H locs) (hk : mK S a = 23) (hin : vp_in i (mN S a)) (hdg : decode cc pc = .ok (.bastore, 1))
    (kk : ∀ (H1 : Heap) (locs1 : List Loc), mH D H0 (qI S a i.toNatClampNeg (vp_nar .byte x)) kc ns H1 locs1 → W p l e R s m args below meth c H1 locs1 cells slots Q (F0 m (pc + 1) ls rest)) : W p l e R s m args below meth c H locs cells slots Q (F0 m pc ls (.int x :: .int i :: .ref a :: rest)) := by
  have hc := hM.arr (t := 2) hk (by decide)
  refine W.bast C.1 C.2.1 hc ((C.2.2.2.2.2.1.1.2 2 _ rfl).1 (mN S a) (fun j => .int (aI S a j))) (fun q => by cases q) (by show ¬ (i < 0 ∨ (arrV _ _ _).slots.size ≤ _); rw [arrV_size]; exact hin) rfl rfl hdg fun H1 e1 z oq => ?_
  refine kk H1 _ (hM.write (by rw [hk]; decide) (fun _ => rfl) hc e1 (by simp [Cell.setSlot]) z oq (fun b hb => mSame.qI hb) (mOK.at (t := 2) hk (by decide) ?_))
  rw [e1]
  show some ((vp_cell _ (mN S a, .inl (aI S a))).setSlot _ _) = some (vp_cell _ (mN S a, .inl _))
  rw [vp_cell_i, vp_cell_i, arrV_store]
  congr 2
  funext q
  by_cases hq : q = i.toNatClampNeg
  · subst hq
    simp [updV, aI, up2, vp_nar]
    try rfl
  · simp [updV, aI, up2, hq]
theorem r_zast {i x : Int32} (C : Cx D p s m args c cc nL own) (hM : mH D H0 S kc ns H locs) (hk : mK S a = 24) (hin : vp_in i (mN S a)) (hdg : decode cc pc = .ok (.bastore, 1))
    (kk : ∀ (H1 : Heap) (locs1 : List Loc), mH D H0 (qI S a i.toNatClampNeg (vp_nar .boolean x)) kc ns H1 locs1 → W p l e R s m args below meth c H1 locs1 cells slots Q (F0 m (pc + 1) ls rest)) : W p l e R s m args below meth c H locs cells slots Q (F0 m pc ls (.int x :: .int i :: .ref a :: rest)) := by
  have hc := hM.arr (t := 3) hk (by decide)
  refine W.zast C.1 C.2.1 hc ((C.2.2.2.2.2.1.1.2 3 _ rfl).1 (mN S a) (fun j => .int (aI S a j))) (fun q => by cases q) (by show ¬ (i < 0 ∨ (arrV _ _ _).slots.size ≤ _); rw [arrV_size]; exact hin) rfl rfl hdg fun H1 e1 z oq => ?_
  refine kk H1 _ (hM.write (by rw [hk]; decide) (fun _ => rfl) hc e1 (by simp [Cell.setSlot]) z oq (fun b hb => mSame.qI hb) (mOK.at (t := 3) hk (by decide) ?_))
  rw [e1]
  show some ((vp_cell _ (mN S a, .inl (aI S a))).setSlot _ _) = some (vp_cell _ (mN S a, .inl _))
  rw [vp_cell_i, vp_cell_i, arrV_store]
  congr 2
  funext q
  by_cases hq : q = i.toNatClampNeg
  · subst hq
    simp [updV, aI, up2, vp_nar]
    try rfl
  · simp [updV, aI, up2, hq]
theorem r_last {i : Int32} {x : Int64} (C : Cx D p s m args c cc nL own) (hM : mH D H0 S kc ns H locs) (hk : mK S a = 22) (hin : vp_in i (mN S a)) (hdg : decode cc pc = .ok (.lastore, 1))
    (kk : ∀ (H1 : Heap) (locs1 : List Loc), mH D H0 (qL S a i.toNatClampNeg x) kc ns H1 locs1 → W p l e R s m args below meth c H1 locs1 cells slots Q (F0 m (pc + 1) ls rest)) : W p l e R s m args below meth c H locs cells slots Q (F0 m pc ls (.long x :: .int i :: .ref a :: rest)) := by
  have hc := hM.arr (t := 1) hk (by decide)
  refine W.last C.1 C.2.1 hc ((C.2.2.2.2.2.1.1.2 1 _ rfl).1 (mN S a) (fun j => .long (aL S a j))) (fun q => by cases q) (by show ¬ (i < 0 ∨ (arrV _ _ _).slots.size ≤ _); rw [arrV_size]; exact hin) rfl rfl hdg fun H1 e1 z oq => ?_
  refine kk H1 _ (hM.write (by rw [hk]; decide) (fun _ => rfl) hc e1 (by simp [Cell.setSlot]) z oq (fun b hb => mSame.qL hb) (mOK.at (t := 1) hk (by decide) ?_))
  rw [e1]
  show some ((vp_cell _ (mN S a, .inr (.inl (aL S a)))).setSlot _ _) = some (vp_cell _ (mN S a, .inr (.inl _)))
  rw [vp_cell_l, vp_cell_l, arrV_store]
  congr 2
  funext q
  by_cases hq : q = i.toNatClampNeg <;> simp [updV, aL, up2, hq]
/-- an array of references takes null, or an object of its class -/
theorem r_aast {t ci : Nat} {i : Int32} {r : vw_C} {o : Option Nat} (C : Cx D p s m args c cc nL own) (hM : mH D H0 S kc ns H locs) (hk : mK S a = t + 25) (ht : t < 4) (hty : (gtys D.2.2)[t + 4]? = some (D.2.2 (t + 4), .object r.1)) (hc : vwCl[ci]? = some r) (ho : ∀ q, o = some q → mK S q = ci + 1) (hin : vp_in i (mN S a)) (hdg : decode cc pc = .ok (.aastore, 1))
    (kk : ∀ (H1 : Heap) (locs1 : List Loc), mH D H0 (qR S a i.toNatClampNeg o) kc ns H1 locs1 → W p l e R s m args below meth c H1 locs1 cells slots Q (F0 m (pc + 1) ls rest)) : W p l e R s m args below meth c H locs cells slots Q (F0 m pc ls (va_rf o :: .int i :: .ref a :: rest)) := by
  have hcell := hM.arr (t := t + 4) (by omega) (by omega)
  have hmarr : marr (t + 4) S a = .inr (.inr (.inr (.inr (aR S a)))) := rfl
  have hlt : i.toNatClampNeg < mN S a := Nat.not_le.mp fun q => hin (Or.inr q)
  have h0 : ¬ i < 0 := fun q => hin (Or.inl q)
  have key : ∀ H1 : Heap, H1[a]? = some ((vp_cell (D.2.2 (t + 4)) (mN S a, marr (t + 4) S a)).setSlot i.toNatClampNeg (va_rf o)) → H1.size = H.size → (∀ q, q ≠ a → H1[q]? = H[q]?) → mH D H0 (qR S a i.toNatClampNeg o) kc ns H1 (locs ++ [⟨a, i.toNatClampNeg⟩]) := by
    intro H1 e1 z oq
    refine hM.write (by rw [hk]; omega) (fun _ => rfl) hcell e1 (by simp [Cell.setSlot]) z oq (fun b hb => mSame.qR hb) (mOK.at (t := t + 4) (by show mK S a = _; omega) (by omega) ?_)
    rw [e1, hmarr]
    show some ((vp_cell _ (mN S a, .inr (.inr (.inr (.inr (aR S a)))))).setSlot _ _) = some (vp_cell _ (mN S a, .inr (.inr (.inr (.inr _)))))
    rw [vp_cell_q, vp_cell_q, arrV_store]
    congr 2
    funext q
    by_cases hq : q = i.toNatClampNeg <;> simp [updV, aR, up2, hq]
  rw [hmarr] at hcell key
  cases o with
  | none => exact va_WaastN (C := r.1) C.1 C.2.1 hcell ((C.2.2.2.2.2.1.1.2 (t + 4) _ hty).1 (mN S a) (fun j => va_rf (aR S a j))) (fun h => by cases h) (by show ¬ (i < 0 ∨ (arrV _ _ _).slots.size ≤ _); rw [arrV_size]; exact hin) rfl rfl hdg fun H1 e1 z oq => kk H1 _ (key H1 e1 z oq)
  | some v =>
    obtain ⟨cellV, g1, g2, g3, -⟩ := (hM.1 v (by rw [ho v rfl]; omega)).2.2.1 ci r (ho v rfl) hc
    have hcls := (C.2.2.2.2.2.1.1.1 ci r hc).2
    obtain ⟨kA, comp, k1, k2, k3, -⟩ := (C.2.2.2.2.2.1.1.2 (t + 4) _ hty).2
    have hcomp : comp = D.1 ci := Option.some.inj (k3.symm.trans hcls.1)
    subst hcomp
    obtain ⟨kC, hkC, -⟩ := hcls.2
    exact W.aast C.1 C.2.1 hcell (fun q h => by cases h) (fun h => by cases h) k1 k2 rfl hkC ⟨h0, by show _ < (arrV _ _ _).slots.size; rw [arrV_size]; exact hlt⟩ g1 (fun q h => by rw [g3] at h; cases h) (by rw [g2]; exact hkC) (by rw [g2]; exact va_assign hcls) rfl rfl hdg fun H1 e1 z oq => kk H1 _ (key H1 e1 z oq)
theorem mSame.nO {ci b : Nat} (h : b ≠ a) : mSame S (nO S a ci) b := by
  refine ⟨by simp [mK, va_up, h], fun ci' k' => ?_, rfl, fun _ => rfl⟩
  unfold sval
  split <;> simp [mI, mL, mR, cl2, h]
theorem mSame.nA {t n b : Nat} (h : b ≠ a) : mSame S (nA S a t n) b :=
  ⟨by simp [mK, va_up, h], fun _ _ => rfl, by simp [mN, va_up, h], marr_q (by funext j; simp [aI, cl1, h]) (by funext j; simp [aL, cl1, h]) (by funext j; simp [aR, cl1, h])⟩
theorem ty_nf (ci k : Nat) : tyOf ci k ≠ .float ∧ tyOf ci k ≠ .double := by
  unfold tyOf
  split <;> (first | unfold tyX0 | unfold tyX1 | unfold tyX2 | unfold tyX3 | unfold tyX4 | unfold tyX5 | unfold tyX6 | unfold tyX7 | unfold tyX8 | unfold tyX9 | unfold tyX10 | unfold tyX11 | unfold tyX12) <;> split <;> exact ⟨by simp, by simp⟩
theorem sval_nO {ci k : Nat} : sval ci k (nO S a ci) a = defaultValue (tyOf ci k) := by
  unfold sval shp
  have hf := ty_nf ci k
  cases h : tyOf ci k <;> first | exact absurd h hf.1 | exact absurd h hf.2 | simp [mI, mL, mR, cl2, defaultValue, va_rf]
theorem r_new {ci index : Nat} {r : vw_C} (C : Cx D p s m args c cc nL own) (hM : mH D H0 S kc ns H locs) (hr : vwCl[ci]? = some r) (hl : Cond.classLink own index r.1 ∈ gT) (hi : Cond.instantiable r.1 r.2.2 ∈ gT) (hini : Cond.initialized r.1 ∈ gT) (hcells : cells + 1 ≤ R.cells) (hslots : slots + r.2.2 ≤ R.slots) (hdg : decode cc pc = .ok (.new index, 3))
    (kk : ∀ (q : Nat) (H1 : Heap), mK S q = 0 → mH D H0 (nO S q ci) (kc + 1) (ns + r.2.2) H1 locs → W p l e R s m args below meth c H1 locs (cells + 1) (slots + r.2.2) Q (F0 m (pc + 3) ls (.ref q :: rest))) : W p l e R s m args below meth c H locs cells slots Q (F0 m pc ls rest) := by
  obtain ⟨hx, hb, -, hown, hts, hK, -⟩ := C
  obtain ⟨hci, hin, hty, hnm, h100⟩ := cls_ok ci r hr
  have hKn := hK.1.1 ci _ hr
  obtain ⟨cC9, kC9, hfc9, hkC9, hkd9, -, -, hsz9⟩ := Cond.instantiable_spec (hts _ hi)
  refine W.newcK hx hb hown (hts _ hl) (hts _ hi) (hts _ hini) rfl hdg hcells hslots hKn.2.1 rfl fun H1 kC hkC e1 z1 o1 => ?_
  refine kk H.size H1 (hM.fresh (Nat.le_refl _)) (hM.push (cell := blank (D.1 ci) kC) e1 ?_ z1 o1 (fun b hb => mSame.nO hb) ⟨fun ci' r' h1 h2 => ?_, fun t h1 h2 => ?_⟩)
  · have h9 : D.1 ci = cC9 := Option.some.inj (hKn.2.1.symm.trans hfc9)
    subst h9
    cases hkC.symm.trans hkC9
    simp [blank, hsz9]
  · have hc : ci' = ci := by simp [mK, va_up] at h1; omega
    subst hc
    have hr2 : r' = r := Option.some.inj (h2.symm.trans hr)
    subst hr2
    exact (u_born (tyOf ci') hts hin hKn hkC e1 hty).to (fun j hj => sval_nO.symm)
  · have : ci + 1 = t + 21 := by simpa [mK, va_up] using h1
    omega
theorem r_newa {t : Nat} {n : Int32} {N' : Nat} {ty : FieldType} {atype : ArrayType} (C : Cx D p s m args c cc nL own) (hM : mH D H0 S kc ns H locs) (ht : t < 4) (hty : (gtys D.2.2)[t]? = some (D.2.2 t, ty)) (hat : newarray.typeOf atype = ty) (hw : Cond.arrayClass ty ∈ gT) (hd : ∀ cA : ClassId, vp_cell cA (N', marr t (nA S H.size t N') H.size) = arrV cA N' (fun _ => defaultValue ty)) (hra : ∀ U cA, va_RA U cA ty = (U.vm.findClass ("[" ++ ty.toString) = some cA))
    (hn : ¬ n < 0) (hN : n.toNatClampNeg = N') (hbytes : N' * componentBytes ty ≤ 536870912) (hcells : cells + 1 ≤ R.cells) (hslots : slots + N' ≤ R.slots) (hdg : decode cc pc = .ok (.newarray atype, 2))
    (kk : ∀ (q : Nat) (H1 : Heap), mK S q = 0 → mH D H0 (nA S q t N') (kc + 1) (ns + N') H1 locs → W p l e R s m args below meth c H1 locs (cells + 1) (slots + N') Q (F0 m (pc + 2) ls (.ref q :: rest))) : W p l e R s m args below meth c H locs cells slots Q (F0 m pc ls (.int n :: rest)) := by
  obtain ⟨hx, hb, -, hown, hts, hK, -⟩ := C
  subst hat
  refine va_newaK hx hb (hts _ hw) rfl hdg rfl hn hN hbytes hcells hslots rfl fun H1 cA e1 z1 o1 hAr hNm => ?_
  have hA : D.2.2 t = cA := by
    have h2 := (hK.1.2 t _ hty).2
    rw [hra] at h2
    exact Option.some.inj (h2.symm.trans hNm)
  refine kk H.size H1 (hM.fresh (Nat.le_refl _)) (hM.push e1 (arrV_size _ _ _) z1 o1 (fun b hb => mSame.nA hb) (mOK.at (t := t) (by simp [mK, va_up]) (by omega) ?_))
  rw [e1, ← hd, hA]
  show _ = some (vp_cell cA (va_up _ _ _ _, _))
  rw [va_up_self]
theorem r_newI {n : Int32} {N' : Nat} (C : Cx D p s m args c cc nL own) (hM : mH D H0 S kc ns H locs) (hw : Cond.arrayClass .int ∈ gT) (hn : ¬ n < 0) (hN : n.toNatClampNeg = N') (hbytes : N' * componentBytes .int ≤ 536870912) (hcells : cells + 1 ≤ R.cells) (hslots : slots + N' ≤ R.slots) (hdg : decode cc pc = .ok (.newarray .int, 2))
    (kk : ∀ (q : Nat) (H1 : Heap), mK S q = 0 → mH D H0 (nA S q 0 N') (kc + 1) (ns + N') H1 locs → W p l e R s m args below meth c H1 locs (cells + 1) (slots + N') Q (F0 m (pc + 2) ls (.ref q :: rest))) : W p l e R s m args below meth c H locs cells slots Q (F0 m pc ls (.int n :: rest)) :=
  r_newa (t := 0) (ty := .int) C hM (by decide) rfl rfl hw (fun cA => by show vp_cell cA (N', .inl _) = _; rw [vp_cell_i]; congr 1; funext j; simp [aI, cl1, defaultValue]) (fun _ _ => rfl) hn hN hbytes hcells hslots hdg kk
theorem r_newJ {n : Int32} {N' : Nat} (C : Cx D p s m args c cc nL own) (hM : mH D H0 S kc ns H locs) (hw : Cond.arrayClass .long ∈ gT) (hn : ¬ n < 0) (hN : n.toNatClampNeg = N') (hbytes : N' * componentBytes .long ≤ 536870912) (hcells : cells + 1 ≤ R.cells) (hslots : slots + N' ≤ R.slots) (hdg : decode cc pc = .ok (.newarray .long, 2))
    (kk : ∀ (q : Nat) (H1 : Heap), mK S q = 0 → mH D H0 (nA S q 1 N') (kc + 1) (ns + N') H1 locs → W p l e R s m args below meth c H1 locs (cells + 1) (slots + N') Q (F0 m (pc + 2) ls (.ref q :: rest))) : W p l e R s m args below meth c H locs cells slots Q (F0 m pc ls (.int n :: rest)) :=
  r_newa (t := 1) (ty := .long) C hM (by decide) rfl rfl hw (fun cA => by show vp_cell cA (N', .inr (.inl _)) = _; rw [vp_cell_l]; congr 1; funext j; simp [aL, cl1, defaultValue]) (fun _ _ => rfl) hn hN hbytes hcells hslots hdg kk
theorem r_newB {n : Int32} {N' : Nat} (C : Cx D p s m args c cc nL own) (hM : mH D H0 S kc ns H locs) (hw : Cond.arrayClass .byte ∈ gT) (hn : ¬ n < 0) (hN : n.toNatClampNeg = N') (hbytes : N' * componentBytes .byte ≤ 536870912) (hcells : cells + 1 ≤ R.cells) (hslots : slots + N' ≤ R.slots) (hdg : decode cc pc = .ok (.newarray .byte, 2))
    (kk : ∀ (q : Nat) (H1 : Heap), mK S q = 0 → mH D H0 (nA S q 2 N') (kc + 1) (ns + N') H1 locs → W p l e R s m args below meth c H1 locs (cells + 1) (slots + N') Q (F0 m (pc + 2) ls (.ref q :: rest))) : W p l e R s m args below meth c H locs cells slots Q (F0 m pc ls (.int n :: rest)) :=
  r_newa (t := 2) (ty := .byte) C hM (by decide) rfl rfl hw (fun cA => by show vp_cell cA (N', .inl _) = _; rw [vp_cell_i]; congr 1; funext j; simp [aI, cl1, defaultValue]) (fun _ _ => rfl) hn hN hbytes hcells hslots hdg kk
theorem r_newZ {n : Int32} {N' : Nat} (C : Cx D p s m args c cc nL own) (hM : mH D H0 S kc ns H locs) (hw : Cond.arrayClass .boolean ∈ gT) (hn : ¬ n < 0) (hN : n.toNatClampNeg = N') (hbytes : N' * componentBytes .boolean ≤ 536870912) (hcells : cells + 1 ≤ R.cells) (hslots : slots + N' ≤ R.slots) (hdg : decode cc pc = .ok (.newarray .boolean, 2))
    (kk : ∀ (q : Nat) (H1 : Heap), mK S q = 0 → mH D H0 (nA S q 3 N') (kc + 1) (ns + N') H1 locs → W p l e R s m args below meth c H1 locs (cells + 1) (slots + N') Q (F0 m (pc + 2) ls (.ref q :: rest))) : W p l e R s m args below meth c H locs cells slots Q (F0 m pc ls (.int n :: rest)) :=
  r_newa (t := 3) (ty := .boolean) C hM (by decide) rfl rfl hw (fun cA => by show vp_cell cA (N', .inl _) = _; rw [vp_cell_i]; congr 1; funext j; simp [aI, cl1, defaultValue]) (fun _ _ => rfl) hn hN hbytes hcells hslots hdg kk
theorem r_newq {t index : Nat} {n : Int32} {N' : Nat} {nm : String} (C : Cx D p s m args c cc nL own) (hM : mH D H0 S kc ns H locs) (ht : t < 4) (hty : (gtys D.2.2)[t + 4]? = some (D.2.2 (t + 4), .object nm)) (hl : Cond.classLink own index nm ∈ gT) (hao : va_AO nm s) (hn : ¬ n < 0) (hN : n.toNatClampNeg = N') (hbytes : N' * 4 ≤ 536870912) (hcells : cells + 1 ≤ R.cells) (hslots : slots + N' ≤ R.slots) (hdg : decode cc pc = .ok (.anewarray index, 3))
    (kk : ∀ (q : Nat) (H1 : Heap), mK S q = 0 → mH D H0 (nA S q (t + 4) N') (kc + 1) (ns + N') H1 locs → W p l e R s m args below meth c H1 locs (cells + 1) (slots + N') Q (F0 m (pc + 3) ls (.ref q :: rest))) : W p l e R s m args below meth c H locs cells slots Q (F0 m pc ls (.int n :: rest)) := by
  obtain ⟨hx, hb, -, hown, hts, hK, -⟩ := C
  subst hN
  refine W.anew hx hb hown (hts _ hl) (va_AO.use hao) rfl hdg rfl hn hbytes hcells hslots fun cA kA comp f1 f2 f3 f4 => ?_
  have hA : D.2.2 (t + 4) = cA := by
    obtain ⟨_, _, _, _, _, h4⟩ := (hK.1.2 (t + 4) _ hty).2
    exact Option.some.inj (h4.symm.trans f1)
  generalize hH1 : H.push ({ cls := cA, slots := Array.replicate n.toNatClampNeg .null, vm := .none } : Cell) = H1
  have z1 : H1.size = H.size + 1 := by rw [← hH1, Array.size_push]
  have e1 : H1[H.size]? = some (arrV cA n.toNatClampNeg (fun _ => .null)) := by rw [← hH1, Array.getElem?_push_size, ← arrV_new]
  have o1 : ∀ q : Nat, q < H.size → H1[q]? = H[q]? := fun q hq => by rw [← hH1, Array.getElem?_push, if_neg (Nat.ne_of_lt hq)]
  refine kk H.size H1 (hM.fresh (Nat.le_refl _)) (hM.push e1 (arrV_size _ _ _) z1 o1 (fun b hb => mSame.nA hb) (mOK.at (t := t + 4) (by simp [mK, va_up]) (by omega) ?_))
  rw [e1, hA]
  show _ = some (vp_cell cA (va_up _ _ _ _, .inr (.inr (.inr (.inr _)))))
  rw [va_up_self, vp_cell_q]
  congr 2
  funext j
  simp [aR, cl1, va_rf]
end Rows2
