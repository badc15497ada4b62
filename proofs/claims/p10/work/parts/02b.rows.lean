/-- what a method's body has at hand -/
def Cx (D : gD) (p : Program) (s : State) (m : MethodId) (args : Array Value) (c : Code) (cc : ByteArray) (nL : Nat) (own : String) : Prop :=
  p.tables.exec = Jvm.exec ∧ c.code = cc ∧ c.maxLocals = nL ∧ s.vm.findClass own = some m.cls ∧ (∀ w ∈ gT, w.before args s = true) ∧ gK D s ∧ gNW s
/-- the field k of the class ci under the number index of the class own -/
def fl (own : String) (index ci k : Nat) : Prop := ∃ r : vw_C, vwCl[ci]? = some r ∧ k < r.2.2 ∧ Cond.fieldLink own index (r.2.1 k).1 (r.2.1 k).2.1 (r.2.1 k).2.2.1 ∈ gT
def fn (own : String) (index ci k : Nat) : Prop := ∃ (r : vw_C) (host : String), vwCl[ci]? = some r ∧ k < r.2.2 ∧ Cond.fieldLinkNest own index (r.2.1 k).1 (r.2.1 k).2.1 (r.2.1 k).2.2.1 host ∈ tables_1
section Rows
variable {p : Program} {l : Launch} {e : Env} {R : Room} {s : State} {m : MethodId} {args : Array Value} {below : List Frame} {meth : Method} {c : Code} {H : Heap} {locs : List Loc} {cells slots : Nat} {Q : State → Prop}
variable {cc : ByteArray} {pc nL : Nat} {own : String} {ls : Array Slot} {rest : List Value} {D : gD} {H0 : gB} {S S1 : Mem} {kc ns a : Nat}
theorem r_get {ci k index : Nat} {v : Value} (C : Cx D p s m args c cc nL own) (hM : mH D H0 S kc ns H locs) (hk : mK S a = ci + 1) (hf : fl own index ci k) (hv : sval ci k S a = v) (hdg : decode cc pc = .ok (.getfield index, 3))
    (kk : W p l e R s m args below meth c H locs cells slots Q (F0 m (pc + 3) ls (v :: rest))) : W p l e R s m args below meth c H locs cells slots Q (F0 m pc ls (.ref a :: rest)) := by
  obtain ⟨hx, hb, -, hown, hts, hK, -⟩ := C
  obtain ⟨r, hr, hkN, hw⟩ := hf
  obtain ⟨cell, q1, q2, q3, q4⟩ := (hM.1 a (by rw [hk]; omega)).2.2.1 ci r hk hr
  obtain ⟨hS, hfc, kC, hkC, hkind⟩ := hK.1.1 ci _ hr
  obtain ⟨cf, kf, fi, f, hi, hsl⟩ := hS k hkN
  refine W.getf hx hb hown (hts _ hw) hi (u_facts hfc hkC (u_lays hts (cls_ok ci r hr).2.1 hkN) hi).1 q1 (by rw [q3]; exact fun h => by cases h) (v := v) ?_ rfl rfl hdg kk
  rw [hsl, q4 k hkN, ← hv]
theorem r_getN {ci k index : Nat} {v : Value} (C : Cx D p s m args c cc nL own) (hM : mH D H0 S kc ns H locs) (hk : mK S a = ci + 1) (hf : fn own index ci k) (hv : sval ci k S a = v) (hdg : decode cc pc = .ok (.getfield index, 3))
    (kk : W p l e R s m args below meth c H locs cells slots Q (F0 m (pc + 3) ls (v :: rest))) : W p l e R s m args below meth c H locs cells slots Q (F0 m pc ls (.ref a :: rest)) := by
  obtain ⟨hx, hb, -, hown, hts, hK, hN⟩ := C
  obtain ⟨r, host, hr, hkN, hw⟩ := hf
  obtain ⟨cell, q1, q2, q3, q4⟩ := (hM.1 a (by rw [hk]; omega)).2.2.1 ci r hk hr
  obtain ⟨hS, hfc, kC, hkC, hkind⟩ := hK.1.1 ci _ hr
  obtain ⟨cf, kf, fi, f, hi, hsl⟩ := hS k hkN
  refine va_Wgetf hx hb hown (va_Nw.use rfl (hN _ hw rfl)) hi (u_facts hfc hkC (u_lays hts (cls_ok ci r hr).2.1 hkN) hi).1 q1 (by rw [q3]; exact fun h => by cases h) (v := v) ?_ rfl rfl hdg kk
  rw [hsl, q4 k hkN, ← hv]
theorem sval_cg {S S1 : Mem} {ci j a : Nat} (h1 : mI S1 (100 * ci + j) a = mI S (100 * ci + j) a) (h2 : mL S1 (100 * ci + j) a = mL S (100 * ci + j) a) (h3 : mR S1 (100 * ci + j) a = mR S (100 * ci + j) a) : sval ci j S1 a = sval ci j S a := by
  unfold sval
  rw [h1, h2, h3]
/-- the memory with one field of one object written -/
def mPut (S S1 : Mem) (ci k a : Nat) (v : Value) : Prop := (∀ b, mK S1 b = mK S b) ∧ (∀ b, b ≠ a → mSame S S1 b) ∧ ∀ j, j < 100 → sval ci j S1 a = updV (fun j => sval ci j S a) k v j
theorem mPut.I {S : Mem} {ci k a : Nat} {x : Int32} (h : shp ci k = 0) : mPut S (pI S (100 * ci + k) a x) ci k a (.int x) := by
  refine ⟨fun _ => rfl, fun b hb => ⟨rfl, fun ci' k' => sval_pI hb ci' k', rfl, fun _ => rfl⟩, fun j hj => ?_⟩
  unfold updV
  by_cases e : j = k
  · subst e
    unfold sval
    rw [h]
    simp [mI, up2]
  · rw [if_neg e]
    exact sval_cg (by simp [mI, up2, e]) (by simp [mL, up2, e]) (by simp [mR, up2, e])
theorem mPut.L {S : Mem} {ci k a : Nat} {x : Int64} (h : shp ci k = 1) : mPut S (pL S (100 * ci + k) a x) ci k a (.long x) := by
  refine ⟨fun _ => rfl, fun b hb => ⟨rfl, fun ci' k' => sval_pL hb ci' k', rfl, fun _ => rfl⟩, fun j hj => ?_⟩
  unfold updV
  by_cases e : j = k
  · subst e
    unfold sval
    rw [h]
    simp [mL, up2]
  · rw [if_neg e]
    exact sval_cg (by simp [mI, up2, e]) (by simp [mL, up2, e]) (by simp [mR, up2, e])
theorem mPut.Rf {S : Mem} {ci k a : Nat} {x : Option Nat} (h : shp ci k = 2) : mPut S (pR S (100 * ci + k) a x) ci k a (va_rf x) := by
  refine ⟨fun _ => rfl, fun b hb => ⟨rfl, fun ci' k' => sval_pR hb ci' k', rfl, fun _ => rfl⟩, fun j hj => ?_⟩
  unfold updV
  by_cases e : j = k
  · subst e
    unfold sval
    rw [h]
    simp [mR, up2]
  · rw [if_neg e]
    exact sval_cg (by simp [mI, up2, e]) (by simp [mL, up2, e]) (by simp [mR, up2, e])
theorem mPut.done {ci k i : Nat} {r : vw_C} {v : Value} {cell : Cell} {H1 : Heap} {Ts : List Cond} (hts : ∀ w ∈ Ts, w.before args s = true) (hin : ∀ w ∈ u_ws r.1 r.2.1 r.2.2, w ∈ Ts) (hK : gK D s) (hM : mH D H0 S kc ns H locs) (hk : mK S a = ci + 1) (hr : vwCl[ci]? = some r) (hkN : k < r.2.2) (hp : mPut S S1 ci k a v) (q1 : H[a]? = some cell) (q2 : cell.cls = D.1 ci) (q3 : cell.vm = .none) (q4 : ∀ j, j < r.2.2 → cell.slots[D.2.1 ci j]? = some (sval ci j S a))
    (e1 : H1[a]? = some (cell.setSlot (D.2.1 ci k) v)) (e2 : H1.size = H.size) (e3 : ∀ q, q ≠ a → H1[q]? = H[q]?) : mH D H0 S1 kc ns H1 (locs ++ [⟨a, i⟩]) := by
  obtain ⟨hci, -, hty, hnm, h100⟩ := cls_ok ci r hr
  obtain ⟨h1, h2, h3⟩ := hp
  have hap := va_apart (own := "") (C := r.1) (T := r.2.1) (N := r.2.2) (ci := ci) hts hin (tyOf ci) hty hnm hK.1 hr
  refine hM.write (by rw [hk]; omega) h1 q1 e1 (by simp [Cell.setSlot]) e2 e3 h2 ⟨fun ci' r' hk' hr' => ?_, fun t ht htl => ?_⟩
  · rw [h1, hk] at hk'
    have hc : ci' = ci := by omega
    subst hc
    have hr2 : r' = r := Option.some.inj (hr'.symm.trans hr)
    subst hr2
    exact t_OB.to (V := updV (fun j => sval ci' j S a) k v) ⟨_, e1, q2, q3, t_set q4 hap hkN v⟩ (fun j hj => (h3 j (by omega)).symm)
  · rw [h1, hk] at ht
    omega
theorem r_put {ci k index : Nat} {v : Value} (C : Cx D p s m args c cc nL own) (hM : mH D H0 S kc ns H locs) (hk : mK S a = ci + 1) (hf : fl own index ci k) (hfin : ∀ r : vw_C, vwCl[ci]? = some r → (r.2.1 k).2.2.2 = false) (hn : narrow (tyOf ci k) v = v) (hfit : fits (tyOf ci k) v = true) (hp : mPut S S1 ci k a v) (hdg : decode cc pc = .ok (.putfield index, 3))
    (kk : ∀ (H1 : Heap) (locs1 : List Loc), mH D H0 S1 kc ns H1 locs1 → W p l e R s m args below meth c H1 locs1 cells slots Q (F0 m (pc + 3) ls rest)) : W p l e R s m args below meth c H locs cells slots Q (F0 m pc ls (v :: .ref a :: rest)) := by
  obtain ⟨hx, hb, -, hown, hts, hK, -⟩ := C
  obtain ⟨r, hr, hkN, hw⟩ := hf
  obtain ⟨cell, q1, q2, q3, q4⟩ := (hM.1 a (by rw [hk]; omega)).2.2.1 ci r hk hr
  obtain ⟨hci, hin, hty, hnm, h100⟩ := cls_ok ci r hr
  obtain ⟨hS, hfc, kC, hkC, hkind⟩ := hK.1.1 ci _ hr
  obtain ⟨cf, kf, fi, f, hi, hsl⟩ := hS k hkN
  have hlay := hts _ (hin _ (u_in_lay hkN))
  unfold u_lay at hlay
  rw [if_neg (by rw [hfin r hr]; decide)] at hlay
  have hst := (u_facts hfc hkC (u_lays hts hin hkN) hi).1
  have h6 := u_store hfc hkC hkind hlay hi (hty k hkN) hn hfit
  refine W.putK hx hb (f := f) ⟨hown, hts _ hw, ⟨_, _, _, hi⟩, hst⟩ (by rw [q2]; exact h6) q1 q3 (by rw [hsl]; exact k2_hasslot (q4 k hkN)) rfl rfl hdg fun H' e1 e2 e3 => ?_
  rw [hsl] at e1 ⊢
  exact kk H' _ (hp.done hts hin hK hM hk hr hkN q1 q2 q3 q4 e1 e2 e3)
theorem r_putN {ci k index : Nat} {v : Value} (C : Cx D p s m args c cc nL own) (hM : mH D H0 S kc ns H locs) (hk : mK S a = ci + 1) (hf : fn own index ci k) (hfin : ∀ r : vw_C, vwCl[ci]? = some r → (r.2.1 k).2.2.2 = false) (hn : narrow (tyOf ci k) v = v) (hfit : fits (tyOf ci k) v = true) (hp : mPut S S1 ci k a v) (hdg : decode cc pc = .ok (.putfield index, 3))
    (kk : ∀ (H1 : Heap) (locs1 : List Loc), mH D H0 S1 kc ns H1 locs1 → W p l e R s m args below meth c H1 locs1 cells slots Q (F0 m (pc + 3) ls rest)) : W p l e R s m args below meth c H locs cells slots Q (F0 m pc ls (v :: .ref a :: rest)) := by
  obtain ⟨hx, hb, -, hown, hts, hK, hN⟩ := C
  obtain ⟨r, host, hr, hkN, hw⟩ := hf
  obtain ⟨cell, q1, q2, q3, q4⟩ := (hM.1 a (by rw [hk]; omega)).2.2.1 ci r hk hr
  obtain ⟨hci, hin, hty, hnm, h100⟩ := cls_ok ci r hr
  obtain ⟨hS, hfc, kC, hkC, hkind⟩ := hK.1.1 ci _ hr
  obtain ⟨cf, kf, fi, f, hi, hsl⟩ := hS k hkN
  have hlay := hts _ (hin _ (u_in_lay hkN))
  unfold u_lay at hlay
  rw [if_neg (by rw [hfin r hr]; decide)] at hlay
  have hst := (u_facts hfc hkC (u_lays hts hin hkN) hi).1
  have h6 := u_store hfc hkC hkind hlay hi (hty k hkN) hn hfit
  refine va_WputK hx hb (f := f) hown (va_Nw.use rfl (hN _ hw rfl)) hi hst (by rw [q2]; exact h6) q1 q3 (by rw [hsl]; exact k2_hasslot (q4 k hkN)) rfl rfl hdg fun H' e1 e2 e3 => ?_
  rw [hsl] at e1 ⊢
  exact kk H' _ (hp.done hts hin hK hM hk hr hkN q1 q2 q3 q4 e1 e2 e3)
theorem r_putF {ci k index : Nat} {v : Value} (C : Cx D p s m args c cc nL own) (hM : mH D H0 S kc ns H locs) (hk : mK S a = ci + 1) (hf : fl own index ci k) (hfin : ∀ r : vw_C, vwCl[ci]? = some r → (r.2.1 k).2.2.2 = true ∧ (r.2.1 k).1 = own) (hin2 : meth.name = "<init>") (hn : narrow (tyOf ci k) v = v) (hfit : fits (tyOf ci k) v = true) (hp : mPut S S1 ci k a v) (hdg : decode cc pc = .ok (.putfield index, 3))
    (kk : ∀ (H1 : Heap) (locs1 : List Loc), mH D H0 S1 kc ns H1 locs1 → W p l e R s m args below meth c H1 locs1 cells slots Q (F0 m (pc + 3) ls rest)) : W p l e R s m args below meth c H locs cells slots Q (F0 m pc ls (v :: .ref a :: rest)) := by
  obtain ⟨hx, hb, -, hown, hts, hK, -⟩ := C
  obtain ⟨r, hr, hkN, hw⟩ := hf
  obtain ⟨cell, q1, q2, q3, q4⟩ := (hM.1 a (by rw [hk]; omega)).2.2.1 ci r hk hr
  obtain ⟨hci, hin, hty, hnm, h100⟩ := cls_ok ci r hr
  obtain ⟨hS, hfc, kC, hkC, hkind⟩ := hK.1.1 ci _ hr
  obtain ⟨cf, kf, fi, f, hi, hsl⟩ := hS k hkN
  have hlay := hts _ (hin _ (u_in_lay hkN))
  unfold u_lay at hlay
  rw [if_pos (hfin r hr).1] at hlay
  have hst := (u_facts hfc hkC (u_lays hts hin hkN) hi).1
  have hcf : m.cls = cf := by
    obtain ⟨_, _, c', _, _, _, -, -, hf', -, -, -, hown2, -⟩ := Cond.laysFinal_spec hlay
    have e1 : c' = cf := by have := hi.symm.trans hf'; simp at this; exact this.1.symm
    rw [(hfin r hr).2] at hown2
    rw [← e1]; exact Option.some.inj (hown.symm.trans hown2)
  have h6 := u_fits hfc hkC hkind (Or.inr hlay) hi (hty k hkN) hn hfit
  refine W.putFinK hx hb hown (hts _ hw) hi hst hcf hin2 (by rw [q2]; exact h6) q1 q3 (by rw [hsl]; exact k2_hasslot (q4 k hkN)) rfl rfl hdg fun H' e1 e2 e3 => ?_
  rw [hsl] at e1 ⊢
  exact kk H' _ (hp.done hts hin hK hM hk hr hkN q1 q2 q3 q4 e1 e2 e3)
/-- arrays: t the type's number -/
theorem mH.arr {t : Nat} (hM : mH D H0 S kc ns H locs) (hk : mK S a = t + 21) (ht : t < 8) : H[a]? = some (vp_cell (D.2.2 t) (mN S a, marr t S a)) := (hM.1 a (by rw [hk]; omega)).2.2.2 t hk ht
theorem r_alen {t : Nat} {v : Int32} (C : Cx D p s m args c cc nL own) (hM : mH D H0 S kc ns H locs) (hk : mK S a = t + 21) (ht : t < 8) (hv : Int32.ofNat (mN S a) = v) (hdg : decode cc pc = .ok (.arraylength, 1))
    (kk : W p l e R s m args below meth c H locs cells slots Q (F0 m (pc + 1) ls (.int v :: rest))) : W p l e R s m args below meth c H locs cells slots Q (F0 m pc ls (.ref a :: rest)) := by
  obtain ⟨hx, hb, -, hown, hts, hK, -⟩ := C
  obtain ⟨ty, hty⟩ : ∃ ty, (gtys D.2.2)[t]? = some (D.2.2 t, ty) := by
    match t, ht with
    | 0, _ => exact ⟨_, rfl⟩
    | 1, _ => exact ⟨_, rfl⟩
    | 2, _ => exact ⟨_, rfl⟩
    | 3, _ => exact ⟨_, rfl⟩
    | 4, _ => exact ⟨_, rfl⟩
    | 5, _ => exact ⟨_, rfl⟩
    | 6, _ => exact ⟨_, rfl⟩
    | 7, _ => exact ⟨_, rfl⟩
    | n + 8, h => omega
  exact va_alen (D := (D.1, D.2.1)) (cl := vwCl) (ws := [(a, .inl (D.2.2 t, mN S a, marr t S a))]) hx hb hK.1 (fun k q h => by
    match k, h with
    | 0, h => cases h; exact hM.arr hk ht
    | n + 1, h => simp at h) 0 t rfl hty hv hdg kk
theorem va_P1 {D0 : va_G} {cl : List vw_C} {a : Nat} {x : ClassId × vp_A} {H : Heap} (h : H[a]? = some (vp_cell x.1 x.2)) : va_P D0 cl [(a, .inl x)] H := fun k q hq => by
  match k, hq with
  | 0, hq => cases hq; exact h
  | n + 1, hq => simp at hq
theorem r_iald {i : Int32} (C : Cx D p s m args c cc nL own) (hM : mH D H0 S kc ns H locs) (hk : mK S a = 21) (hin : vp_in i (mN S a)) (hdg : decode cc pc = .ok (.iaload, 1))
    (kk : W p l e R s m args below meth c H locs cells slots Q (F0 m (pc + 1) ls (.int (aI S a i.toNatClampNeg) :: rest))) : W p l e R s m args below meth c H locs cells slots Q (F0 m pc ls (.int i :: .ref a :: rest)) :=
  va_iald (D := (D.1, D.2.1)) (cl := vwCl) (n := mN S a) (f := aI S a) C.1 C.2.1 C.2.2.2.2.2.1.1 (va_P1 (hM.arr (t := 0) hk (by decide))) 0 0 rfl rfl hin hdg kk
theorem r_bald {i : Int32} (C : Cx D p s m args c cc nL own) (hM : mH D H0 S kc ns H locs) (hk : mK S a = 23) (hin : vp_in i (mN S a)) (hdg : decode cc pc = .ok (.baload, 1))
    (kk : W p l e R s m args below meth c H locs cells slots Q (F0 m (pc + 1) ls (.int (aI S a i.toNatClampNeg) :: rest))) : W p l e R s m args below meth c H locs cells slots Q (F0 m pc ls (.int i :: .ref a :: rest)) :=
  va_bald (D := (D.1, D.2.1)) (cl := vwCl) (n := mN S a) (f := aI S a) C.1 C.2.1 C.2.2.2.2.2.1.1 (va_P1 (hM.arr (t := 2) hk (by decide))) 0 2 rfl rfl hin hdg kk
theorem r_zald {i : Int32} (C : Cx D p s m args c cc nL own) (hM : mH D H0 S kc ns H locs) (hk : mK S a = 24) (hin : vp_in i (mN S a)) (hdg : decode cc pc = .ok (.baload, 1))
    (kk : W p l e R s m args below meth c H locs cells slots Q (F0 m (pc + 1) ls (.int (aI S a i.toNatClampNeg) :: rest))) : W p l e R s m args below meth c H locs cells slots Q (F0 m pc ls (.int i :: .ref a :: rest)) :=
  va_zald (D := (D.1, D.2.1)) (cl := vwCl) (n := mN S a) (f := aI S a) C.1 C.2.1 C.2.2.2.2.2.1.1 (va_P1 (hM.arr (t := 3) hk (by decide))) 0 3 rfl rfl hin hdg kk
theorem r_lald {i : Int32} (C : Cx D p s m args c cc nL own) (hM : mH D H0 S kc ns H locs) (hk : mK S a = 22) (hin : vp_in i (mN S a)) (hdg : decode cc pc = .ok (.laload, 1))
    (kk : W p l e R s m args below meth c H locs cells slots Q (F0 m (pc + 1) ls (.long (aL S a i.toNatClampNeg) :: rest))) : W p l e R s m args below meth c H locs cells slots Q (F0 m pc ls (.int i :: .ref a :: rest)) :=
  va_lald (D := (D.1, D.2.1)) (cl := vwCl) (n := mN S a) (f := aL S a) C.1 C.2.1 C.2.2.2.2.2.1.1 (va_P1 (hM.arr (t := 1) hk (by decide))) 0 1 rfl rfl hin hdg kk
theorem r_aald {t : Nat} {i : Int32} {nm : String} (C : Cx D p s m args c cc nL own) (hM : mH D H0 S kc ns H locs) (hk : mK S a = t + 25) (hty : (gtys D.2.2)[t + 4]? = some (D.2.2 (t + 4), .object nm)) (ht : t < 4) (hin : vp_in i (mN S a)) (hdg : decode cc pc = .ok (.aaload, 1))
    (kk : W p l e R s m args below meth c H locs cells slots Q (F0 m (pc + 1) ls (va_rf (aR S a i.toNatClampNeg) :: rest))) : W p l e R s m args below meth c H locs cells slots Q (F0 m pc ls (.int i :: .ref a :: rest)) :=
  va_aldq (D := (D.1, D.2.1)) (cl := vwCl) (n := mN S a) (f := aR S a) C.1 C.2.1 C.2.2.2.2.2.1.1 (va_P1 (hM.arr (t := t + 4) (by omega) (by omega))) 0 (t + 4) rfl hty hin hdg kk
theorem mOK.at {t : Nat} {H1 : Heap} (hk : mK S1 a = t + 21) (ht : t < 8) (h : H1[a]? = some (vp_cell (D.2.2 t) (mN S1 a, marr t S1 a))) : mOK D S1 a H1 := by
  refine ⟨fun ci r h1 h2 => ?_, fun t' h1 h2 => ?_⟩
  · have := (cls_ok ci r h2).1
    omega
  · have hc : t' = t := by omega
    subst hc
    exact h
end Rows
