/-! ===== the reference's object and its arrays, as one value ===== -/
abbrev RS : Type := (Nat → Int32) × (Nat → Int64) × (Nat → Nat → Int32) × (Nat → Nat → Int64)
abbrev rI (R : RS) : Nat → Int32 := R.1
abbrev rL (R : RS) : Nat → Int64 := R.2.1
abbrev rA (R : RS) : Nat → Nat → Int32 := R.2.2.1
abbrev rB (R : RS) : Nat → Nat → Int64 := R.2.2.2
def up1 {α : Type} (F : Nat → α) (f : Nat) (v : α) : Nat → α := fun g => if g = f then v else F g
abbrev uI (R : RS) (f : Nat) (v : Int32) : RS := (up1 R.1 f v, R.2)
abbrev uL (R : RS) (f : Nat) (v : Int64) : RS := (R.1, up1 R.2.1 f v, R.2.2)
abbrev uA (R : RS) (k i : Nat) (v : Int32) : RS := (R.1, R.2.1, up2 R.2.2.1 k i v, R.2.2.2)
abbrev uB (R : RS) (k i : Nat) (v : Int64) : RS := (R.1, R.2.1, R.2.2.1, up2 R.2.2.2 k i v)
def rArr : List Nat := [0, 1, 10, 11, 12, 13, 14, 15, 16, 17, 18, 19, 20, 21, 23, 24, 35, 37, 39, 40, 41, 42, 43, 44, 45, 46, 47, 48, 49, 50]
def rxi (j : Nat) : Nat := rArr.getD j 99
def rixo (k : Nat) : Option Nat := rArr.findIdx? (fun q => q == k)
def rkd (j : Nat) : Nat := ([23, 23, 21, 21, 21, 21, 21, 21, 21, 22, 22, 24, 23, 21, 21, 21, 21, 21, 22, 21, 21, 21, 21, 21, 24, 24, 24, 21, 21, 23] : List Nat).getD j 0
def rlen (j : Nat) : Nat := ([1620, 1600, 31, 1860, 1860, 1860, 1860, 1860, 1860, 1860, 1860, 1860, 29760, 13, 3600, 3721, 6, 360, 252, 252, 21, 21, 21, 21, 20, 20, 60, 20, 40, 640] : List Nat).getD j 0
def rM (h : Nat) (R : RS) : Mem :=
  (fun a => if a = h then 13 else if h < a ∧ a < h + 31 then rkd (a - h - 1) else 0,
   fun f a => if a = h ∧ 1200 ≤ f then R.1 (f - 1200) else 0,
   fun f a => if a = h ∧ 1200 ≤ f then R.2.1 (f - 1200) else 0,
   fun f a => if a = h ∧ 1200 ≤ f then (rixo (f - 1200)).map (fun j => h + 1 + j) else none,
   fun a => if h < a then rlen (a - h - 1) else 0,
   fun a i => if h < a then R.2.2.1 (rxi (a - h - 1)) i else 0,
   fun a i => if h < a then R.2.2.2 (rxi (a - h - 1)) i else 0,
   fun _ _ => none)
theorem rxi_inj {j j' : Nat} (hj : j < 30) (h : rxi j' = rxi j) : j' = j := by
  rcases Nat.lt_or_ge j' 30 with h1 | h1
  · exact (by decide +kernel : ∀ a, a < 30 → ∀ b, b < 30 → rxi a = rxi b → a = b) j' h1 j hj h
  · have h2 : rxi j' = 99 := by
      unfold rxi
      rw [List.getD_eq_getElem?_getD, List.getElem?_eq_none (by simpa [rArr] using h1)]
      rfl
    exact absurd (h2.symm.trans h) ((by decide +kernel : ∀ a, a < 30 → ¬ (99 = rxi a)) j hj)
section RM
variable {h : Nat} {R : RS} {k j i : Nat}
theorem rK0 : mK (rM h R) h = 13 := if_pos rfl
theorem rKj (hj : j < 30) : mK (rM h R) (h + 1 + j) = rkd j := by
  show (if h + 1 + j = h then 13 else if h < h + 1 + j ∧ h + 1 + j < h + 31 then rkd (h + 1 + j - h - 1) else 0) = _
  rw [if_neg (by omega), if_pos ⟨by omega, by omega⟩, show h + 1 + j - h - 1 = j by omega]
theorem rNj : mN (rM h R) (h + 1 + j) = rlen j := by
  show (if h < h + 1 + j then rlen (h + 1 + j - h - 1) else 0) = _
  rw [if_pos (by omega), show h + 1 + j - h - 1 = j by omega]
theorem rAj : aI (rM h R) (h + 1 + j) i = rA R (rxi j) i := by
  show (if h < h + 1 + j then R.2.2.1 (rxi (h + 1 + j - h - 1)) i else 0) = _
  rw [if_pos (by omega), show h + 1 + j - h - 1 = j by omega]
theorem rBj : aL (rM h R) (h + 1 + j) i = rB R (rxi j) i := by
  show (if h < h + 1 + j then R.2.2.2 (rxi (h + 1 + j - h - 1)) i else 0) = _
  rw [if_pos (by omega), show h + 1 + j - h - 1 = j by omega]
theorem rIk : mI (rM h R) (100 * 12 + k) h = rI R k := by
  show (if h = h ∧ 1200 ≤ 100 * 12 + k then R.1 (100 * 12 + k - 1200) else 0) = _
  rw [if_pos ⟨rfl, by omega⟩, show 100 * 12 + k - 1200 = k by omega]
theorem rLk : mL (rM h R) (100 * 12 + k) h = rL R k := by
  show (if h = h ∧ 1200 ≤ 100 * 12 + k then R.2.1 (100 * 12 + k - 1200) else 0) = _
  rw [if_pos ⟨rfl, by omega⟩, show 100 * 12 + k - 1200 = k by omega]
theorem rRk (hk : rixo k = some j) : mR (rM h R) (100 * 12 + k) h = some (h + 1 + j) := by
  show (if h = h ∧ 1200 ≤ 100 * 12 + k then (rixo (100 * 12 + k - 1200)).map (fun j => h + 1 + j) else none) = _
  rw [if_pos ⟨rfl, by omega⟩, show 100 * 12 + k - 1200 = k by omega, hk]
  rfl
theorem up12 {α : Type} {F : Nat → α} {v z : α} : up2 (fun f a => if a = h ∧ 1200 ≤ f then F (f - 1200) else z) (100 * 12 + k) h v = (fun f a => if a = h ∧ 1200 ≤ f then up1 F k v (f - 1200) else z) := by
  funext g b
  show (if g = 100 * 12 + k ∧ b = h then v else if b = h ∧ 1200 ≤ g then F (g - 1200) else z) = (if b = h ∧ 1200 ≤ g then (if g - 1200 = k then v else F (g - 1200)) else z)
  by_cases hb : b = h
  · by_cases hg : g = 100 * 12 + k
    · rw [if_pos ⟨hg, hb⟩, if_pos ⟨hb, by omega⟩, if_pos (by omega)]
    · rw [if_neg (fun z => hg z.1)]
      by_cases h12 : 1200 ≤ g
      · rw [if_pos ⟨hb, h12⟩, if_pos ⟨hb, h12⟩, if_neg (by omega)]
      · rw [if_neg (fun z => h12 z.2), if_neg (fun z => h12 z.2)]
  · rw [if_neg (fun z => hb z.2), if_neg (fun z => hb z.1), if_neg (fun z => hb z.1)]
theorem up13 {α : Type} {F : Nat → Nat → α} {v z : α} (hj : j < 30) : up2 (fun a i => if h < a then F (rxi (a - h - 1)) i else z) (h + 1 + j) i v = (fun a i' => if h < a then up2 F (rxi j) i v (rxi (a - h - 1)) i' else z) := by
  funext a q
  show (if a = h + 1 + j ∧ q = i then v else if h < a then F (rxi (a - h - 1)) q else z) = (if h < a then (if rxi (a - h - 1) = rxi j ∧ q = i then v else F (rxi (a - h - 1)) q) else z)
  by_cases ha : h < a
  · rw [if_pos ha, if_pos ha]
    by_cases hc : a = h + 1 + j ∧ q = i
    · rw [if_pos hc, if_pos ⟨by rw [hc.1, show h + 1 + j - h - 1 = j by omega], hc.2⟩]
    · rw [if_neg hc, if_neg (fun z => hc ⟨by have := rxi_inj hj z.1; omega, z.2⟩)]
  · rw [if_neg ha, if_neg ha, if_neg (fun z => ha (by omega))]
theorem rpI {v : Int32} : pI (rM h R) (100 * 12 + k) h v = rM h (uI R k v) := by
  have e := up12 (h := h) (k := k) (v := v) (z := (0 : Int32)) (F := R.1)
  unfold rM
  dsimp only [pI, uI]
  rw [e]
theorem rpL {v : Int64} : pL (rM h R) (100 * 12 + k) h v = rM h (uL R k v) := by
  have e := up12 (h := h) (k := k) (v := v) (z := (0 : Int64)) (F := R.2.1)
  unfold rM
  dsimp only [pL, uL]
  rw [e]
theorem rqI {v : Int32} (hj : j < 30) : qI (rM h R) (h + 1 + j) i v = rM h (uA R (rxi j) i v) := congrArg (fun F => ((rM h R).1, (rM h R).2.1, (rM h R).2.2.1, (rM h R).2.2.2.1, (rM h R).2.2.2.2.1, F, (rM h R).2.2.2.2.2.2)) (up13 (F := R.2.2.1) hj)
theorem rqL {v : Int64} (hj : j < 30) : qL (rM h R) (h + 1 + j) i v = rM h (uB R (rxi j) i v) := congrArg (fun F => ((rM h R).1, (rM h R).2.1, (rM h R).2.2.1, (rM h R).2.2.2.1, (rM h R).2.2.2.2.1, (rM h R).2.2.2.2.2.1, F, (rM h R).2.2.2.2.2.2.2)) (up13 (F := R.2.2.2) hj)
end RM
section RR
variable {p : Program} {l : Launch} {e : Env} {Rm : Room} {s : State} {m : MethodId} {args : Array Value} {below : List Frame} {meth : Method} {c : Code} {H : Heap} {locs : List Loc} {cells slots : Nat} {Q : State → Prop}
variable {cc : ByteArray} {pc nL : Nat} {own : String} {ls : Array Slot} {rest : List Value} {D : gD} {H0 : gB} {h : Nat} {R : RS} {kc ns k j n index : Nat}
theorem rr_getI {v : Int32} (C : Cx D p s m args c cc nL own) (hM : mH D H0 (rM h R) kc ns H locs) (hf : fl own index 12 k) (hs : shp 12 k = 0) (hv : rI R k = v) (hdg : decode cc pc = .ok (.getfield index, 3))
    (kk : W p l e Rm s m args below meth c H locs cells slots Q (F0 m (pc + 3) ls (.int v :: rest))) : W p l e Rm s m args below meth c H locs cells slots Q (F0 m pc ls (.ref h :: rest)) :=
  r_get (ci := 12) (k := k) C hM rK0 hf (by unfold sval; rw [hs]; show Value.int _ = _; rw [rIk, hv]) hdg kk
theorem rr_getL {v : Int64} (C : Cx D p s m args c cc nL own) (hM : mH D H0 (rM h R) kc ns H locs) (hf : fl own index 12 k) (hs : shp 12 k = 1) (hv : rL R k = v) (hdg : decode cc pc = .ok (.getfield index, 3))
    (kk : W p l e Rm s m args below meth c H locs cells slots Q (F0 m (pc + 3) ls (.long v :: rest))) : W p l e Rm s m args below meth c H locs cells slots Q (F0 m pc ls (.ref h :: rest)) :=
  r_get (ci := 12) (k := k) C hM rK0 hf (by unfold sval; rw [hs]; show Value.long _ = _; rw [rLk, hv]) hdg kk
theorem rr_getA (C : Cx D p s m args c cc nL own) (hM : mH D H0 (rM h R) kc ns H locs) (hf : fl own index 12 k) (hs : shp 12 k = 2) (hj : rixo k = some j) (hdg : decode cc pc = .ok (.getfield index, 3))
    (kk : W p l e Rm s m args below meth c H locs cells slots Q (F0 m (pc + 3) ls (.ref (h + 1 + j) :: rest))) : W p l e Rm s m args below meth c H locs cells slots Q (F0 m pc ls (.ref h :: rest)) :=
  r_get (ci := 12) (k := k) (v := .ref (h + 1 + j)) C hM rK0 hf (by unfold sval; rw [hs]; show va_rf _ = _; rw [rRk hj]; rfl) hdg kk
theorem rr_putI {v : Int32} (C : Cx D p s m args c cc nL own) (hM : mH D H0 (rM h R) kc ns H locs) (hf : fl own index 12 k) (hty : tyOf 12 k = .int) (hfin : ∀ r : vw_C, vwCl[12]? = some r → (r.2.1 k).2.2.2 = false) (hs : shp 12 k = 0) (hdg : decode cc pc = .ok (.putfield index, 3))
    (kk : ∀ (H1 : Heap) (locs1 : List Loc), mH D H0 (rM h (uI R k v)) kc ns H1 locs1 → W p l e Rm s m args below meth c H1 locs1 cells slots Q (F0 m (pc + 3) ls rest)) : W p l e Rm s m args below meth c H locs cells slots Q (F0 m pc ls (.int v :: .ref h :: rest)) :=
  r_put (ci := 12) (k := k) C hM rK0 hf hfin (by rw [hty]; rfl) (by rw [hty]; rfl) (mPut.I hs) hdg (fun H1 l1 h1 => kk H1 l1 (rpI ▸ h1))
theorem rr_putZ {v : Int32} (C : Cx D p s m args c cc nL own) (hM : mH D H0 (rM h R) kc ns H locs) (hf : fl own index 12 k) (hty : tyOf 12 k = .boolean) (hfin : ∀ r : vw_C, vwCl[12]? = some r → (r.2.1 k).2.2.2 = false) (hz : v = 0 ∨ v = 1) (hs : shp 12 k = 0) (hdg : decode cc pc = .ok (.putfield index, 3))
    (kk : ∀ (H1 : Heap) (locs1 : List Loc), mH D H0 (rM h (uI R k v)) kc ns H1 locs1 → W p l e Rm s m args below meth c H1 locs1 cells slots Q (F0 m (pc + 3) ls rest)) : W p l e Rm s m args below meth c H locs cells slots Q (F0 m pc ls (.int v :: .ref h :: rest)) :=
  r_put (ci := 12) (k := k) C hM rK0 hf hfin (by rw [hty]; exact nzb hz) (by rw [hty]; exact fzb hz) (mPut.I hs) hdg (fun H1 l1 h1 => kk H1 l1 (rpI ▸ h1))
theorem rr_putL {v : Int64} (C : Cx D p s m args c cc nL own) (hM : mH D H0 (rM h R) kc ns H locs) (hf : fl own index 12 k) (hty : tyOf 12 k = .long) (hfin : ∀ r : vw_C, vwCl[12]? = some r → (r.2.1 k).2.2.2 = false) (hs : shp 12 k = 1) (hdg : decode cc pc = .ok (.putfield index, 3))
    (kk : ∀ (H1 : Heap) (locs1 : List Loc), mH D H0 (rM h (uL R k v)) kc ns H1 locs1 → W p l e Rm s m args below meth c H1 locs1 cells slots Q (F0 m (pc + 3) ls rest)) : W p l e Rm s m args below meth c H locs cells slots Q (F0 m pc ls (.long v :: .ref h :: rest)) :=
  r_put (ci := 12) (k := k) C hM rK0 hf hfin (by rw [hty]; rfl) (by rw [hty]; rfl) (mPut.L hs) hdg (fun H1 l1 h1 => kk H1 l1 (rpL ▸ h1))
theorem rr_ldI {x : Int32} {v : Int32} (C : Cx D p s m args c cc nL own) (hM : mH D H0 (rM h R) kc ns H locs) (hk : rkd j = 21) (hx : rxi j = k) (hn : rlen j = n) (hin : vp_in x n) (hv : rA R k x.toNatClampNeg = v) (hdg : decode cc pc = .ok (.iaload, 1))
    (kk : W p l e Rm s m args below meth c H locs cells slots Q (F0 m (pc + 1) ls (.int v :: rest))) (hj : j < 30 := by decide) : W p l e Rm s m args below meth c H locs cells slots Q (F0 m pc ls (.int x :: .ref (h + 1 + j) :: rest)) :=
  r_iald C hM ((rKj hj).trans hk) (by rw [rNj, hn]; exact hin) hdg (by rw [rAj, hx, hv]; exact kk)
theorem rr_ldB {x : Int32} {v : Int32} (C : Cx D p s m args c cc nL own) (hM : mH D H0 (rM h R) kc ns H locs) (hk : rkd j = 23) (hx : rxi j = k) (hn : rlen j = n) (hin : vp_in x n) (hv : rA R k x.toNatClampNeg = v) (hdg : decode cc pc = .ok (.baload, 1))
    (kk : W p l e Rm s m args below meth c H locs cells slots Q (F0 m (pc + 1) ls (.int v :: rest))) (hj : j < 30 := by decide) : W p l e Rm s m args below meth c H locs cells slots Q (F0 m pc ls (.int x :: .ref (h + 1 + j) :: rest)) :=
  r_bald C hM ((rKj hj).trans hk) (by rw [rNj, hn]; exact hin) hdg (by rw [rAj, hx, hv]; exact kk)
theorem rr_ldZ {x : Int32} {v : Int32} (C : Cx D p s m args c cc nL own) (hM : mH D H0 (rM h R) kc ns H locs) (hk : rkd j = 24) (hx : rxi j = k) (hn : rlen j = n) (hin : vp_in x n) (hv : rA R k x.toNatClampNeg = v) (hdg : decode cc pc = .ok (.baload, 1))
    (kk : W p l e Rm s m args below meth c H locs cells slots Q (F0 m (pc + 1) ls (.int v :: rest))) (hj : j < 30 := by decide) : W p l e Rm s m args below meth c H locs cells slots Q (F0 m pc ls (.int x :: .ref (h + 1 + j) :: rest)) :=
  r_zald C hM ((rKj hj).trans hk) (by rw [rNj, hn]; exact hin) hdg (by rw [rAj, hx, hv]; exact kk)
theorem rr_ldJ {x : Int32} {v : Int64} (C : Cx D p s m args c cc nL own) (hM : mH D H0 (rM h R) kc ns H locs) (hk : rkd j = 22) (hx : rxi j = k) (hn : rlen j = n) (hin : vp_in x n) (hv : rB R k x.toNatClampNeg = v) (hdg : decode cc pc = .ok (.laload, 1))
    (kk : W p l e Rm s m args below meth c H locs cells slots Q (F0 m (pc + 1) ls (.long v :: rest))) (hj : j < 30 := by decide) : W p l e Rm s m args below meth c H locs cells slots Q (F0 m pc ls (.int x :: .ref (h + 1 + j) :: rest)) :=
  r_lald C hM ((rKj hj).trans hk) (by rw [rNj, hn]; exact hin) hdg (by rw [rBj, hx, hv]; exact kk)
theorem rr_stI {i : Int32} {x : Int32} (C : Cx D p s m args c cc nL own) (hM : mH D H0 (rM h R) kc ns H locs) (hk : rkd j = 21) (hx : rxi j = k) (hn : rlen j = n) (hin : vp_in i n) (hdg : decode cc pc = .ok (.iastore, 1))
    (kk : ∀ (H1 : Heap) (locs1 : List Loc), mH D H0 (rM h (uA R k i.toNatClampNeg x)) kc ns H1 locs1 → W p l e Rm s m args below meth c H1 locs1 cells slots Q (F0 m (pc + 1) ls rest)) (hj : j < 30 := by decide) : W p l e Rm s m args below meth c H locs cells slots Q (F0 m pc ls (.int x :: .int i :: .ref (h + 1 + j) :: rest)) :=
  r_iast C hM ((rKj hj).trans hk) (by rw [rNj, hn]; exact hin) hdg (fun H1 l1 h1 => kk H1 l1 (by rw [← hx]; exact (rqI hj) ▸ h1))
theorem rr_stB {i : Int32} {x : Int32} (C : Cx D p s m args c cc nL own) (hM : mH D H0 (rM h R) kc ns H locs) (hk : rkd j = 23) (hx : rxi j = k) (hn : rlen j = n) (hin : vp_in i n) (hdg : decode cc pc = .ok (.bastore, 1))
    (kk : ∀ (H1 : Heap) (locs1 : List Loc), mH D H0 (rM h (uA R k i.toNatClampNeg (vp_nar .byte x))) kc ns H1 locs1 → W p l e Rm s m args below meth c H1 locs1 cells slots Q (F0 m (pc + 1) ls rest)) (hj : j < 30 := by decide) : W p l e Rm s m args below meth c H locs cells slots Q (F0 m pc ls (.int x :: .int i :: .ref (h + 1 + j) :: rest)) :=
  r_bast C hM ((rKj hj).trans hk) (by rw [rNj, hn]; exact hin) hdg (fun H1 l1 h1 => kk H1 l1 (by rw [← hx]; exact (rqI hj) ▸ h1))
theorem rr_stZ {i : Int32} {x : Int32} (C : Cx D p s m args c cc nL own) (hM : mH D H0 (rM h R) kc ns H locs) (hk : rkd j = 24) (hx : rxi j = k) (hn : rlen j = n) (hin : vp_in i n) (hdg : decode cc pc = .ok (.bastore, 1))
    (kk : ∀ (H1 : Heap) (locs1 : List Loc), mH D H0 (rM h (uA R k i.toNatClampNeg (vp_nar .boolean x))) kc ns H1 locs1 → W p l e Rm s m args below meth c H1 locs1 cells slots Q (F0 m (pc + 1) ls rest)) (hj : j < 30 := by decide) : W p l e Rm s m args below meth c H locs cells slots Q (F0 m pc ls (.int x :: .int i :: .ref (h + 1 + j) :: rest)) :=
  r_zast C hM ((rKj hj).trans hk) (by rw [rNj, hn]; exact hin) hdg (fun H1 l1 h1 => kk H1 l1 (by rw [← hx]; exact (rqI hj) ▸ h1))
theorem rr_stJ {i : Int32} {x : Int64} (C : Cx D p s m args c cc nL own) (hM : mH D H0 (rM h R) kc ns H locs) (hk : rkd j = 22) (hx : rxi j = k) (hn : rlen j = n) (hin : vp_in i n) (hdg : decode cc pc = .ok (.lastore, 1))
    (kk : ∀ (H1 : Heap) (locs1 : List Loc), mH D H0 (rM h (uB R k i.toNatClampNeg x)) kc ns H1 locs1 → W p l e Rm s m args below meth c H1 locs1 cells slots Q (F0 m (pc + 1) ls rest)) (hj : j < 30 := by decide) : W p l e Rm s m args below meth c H locs cells slots Q (F0 m pc ls (.long x :: .int i :: .ref (h + 1 + j) :: rest)) :=
  r_last C hM ((rKj hj).trans hk) (by rw [rNj, hn]; exact hin) hdg (fun H1 l1 h1 => kk H1 l1 (by rw [← hx]; exact (rqL hj) ▸ h1))
end RR
/-- what is not named stays -/
def fr (L : List Nat) (R R1 : RS) : Prop := ∀ f, f ∉ L → rI R1 f = rI R f ∧ rL R1 f = rL R f ∧ rA R1 f = rA R f ∧ rB R1 f = rB R f
section FR
variable {L L' : List Nat} {R R1 R2 : RS} {f i : Nat}
theorem fr.rf : fr L R R := fun _ _ => ⟨rfl, rfl, rfl, rfl⟩
theorem fr.trans (h : fr L R R1) (g : fr L' R1 R2) (hs : ∀ f ∈ L', f ∈ L) : fr L R R2 := fun f hf => by
  obtain ⟨a1, a2, a3, a4⟩ := h f hf
  obtain ⟨b1, b2, b3, b4⟩ := g f (fun z => hf (hs f z))
  exact ⟨b1.trans a1, b2.trans a2, b3.trans a3, b4.trans a4⟩
theorem fr.mono (h : fr L' R R1) (hs : ∀ f ∈ L', f ∈ L) : fr L R R1 := fr.trans fr.rf h hs
theorem fr.gI (h : fr L R R1) (f : Nat) (hf : f ∉ L) : rI R1 f = rI R f := (h f hf).1
theorem fr.gL (h : fr L R R1) (f : Nat) (hf : f ∉ L) : rL R1 f = rL R f := (h f hf).2.1
theorem fr.gA (h : fr L R R1) (f : Nat) (hf : f ∉ L) : rA R1 f = rA R f := (h f hf).2.2.1
theorem fr.gB (h : fr L R R1) (f : Nat) (hf : f ∉ L) : rB R1 f = rB R f := (h f hf).2.2.2
theorem up1_ne {α : Type} {F : Nat → α} {f g : Nat} {v : α} (h : g ≠ f) : up1 F f v g = F g := if_neg h
theorem up1_eq {α : Type} {F : Nat → α} {f : Nat} {v : α} : up1 F f v f = v := if_pos rfl
theorem fr.I {v : Int32} (h : fr L R R1) (hf : f ∈ L) : fr L R (uI R1 f v) := fun g hg => by
  obtain ⟨a1, a2, a3, a4⟩ := h g hg
  exact ⟨(up1_ne (F := R1.1) (f := f) (g := g) (v := v) (fun z => hg (z ▸ hf))).trans a1, a2, a3, a4⟩
theorem fr.J {v : Int64} (h : fr L R R1) (hf : f ∈ L) : fr L R (uL R1 f v) := fun g hg => by
  obtain ⟨a1, a2, a3, a4⟩ := h g hg
  exact ⟨a1, (up1_ne (F := R1.2.1) (f := f) (g := g) (v := v) (fun z => hg (z ▸ hf))).trans a2, a3, a4⟩
theorem fr.A {v : Int32} (h : fr L R R1) (hf : f ∈ L) : fr L R (uA R1 f i v) := fun g hg => by
  obtain ⟨a1, a2, a3, a4⟩ := h g hg
  exact ⟨a1, a2, (up2g (F := R1.2.2.1) (f := f) (a := i) (g := g) (v := v) (fun z => hg (z ▸ hf))).trans a3, a4⟩
theorem fr.B {v : Int64} (h : fr L R R1) (hf : f ∈ L) : fr L R (uB R1 f i v) := fun g hg => by
  obtain ⟨a1, a2, a3, a4⟩ := h g hg
  exact ⟨a1, a2, a3, (up2g (F := R1.2.2.2) (f := f) (a := i) (g := g) (v := v) (fun z => hg (z ▸ hf))).trans a4⟩
end FR
/-- a page of the reference: every part's parent is an earlier part, what it holds lies within the page, its depth is its parent's and one -/
def PT (R : RS) (g p : Nat) : Prop := (-1 ≤ (rA R 11 (60 * g + p)).toInt ∧ (rA R 11 (60 * g + p)).toInt < p) ∧ (0 ≤ (rA R 14 (60 * g + p)).toInt ∧ (rA R 14 (60 * g + p)).toInt ≤ 11) ∧ (0 < (rA R 14 (60 * g + p)).toInt → 0 ≤ (rA R 11 (60 * g + p)).toInt ∧ (rA R 14 (60 * g + (rA R 11 (60 * g + p)).toInt.toNat)).toInt = (rA R 14 (60 * g + p)).toInt - 1)
def PQ (R : RS) (g p : Nat) : Prop := 1 ≤ (rA R 12 (60 * g + p)).toInt ∧ p + (rA R 12 (60 * g + p)).toInt ≤ (rA R 10 g).toInt
def PG (R : RS) (g : Nat) : Prop := ∀ p : Nat, (p : Int) < (rA R 10 g).toInt → PT R g p ∧ PQ R g p
def RI (R : RS) : Prop :=
  (∀ g, 0 ≤ (rA R 10 g).toInt ∧ (rA R 10 g).toInt ≤ 60) ∧ (∀ g, g < 30 → PG R g) ∧ (∀ i, (rA R 15 i).toInt ≤ 16) ∧
  (0 ≤ (rI R 36).toInt ∧ (rI R 36).toInt ≤ 6) ∧ (∀ k : Nat, (k : Int) < (rI R 36).toInt → 0 ≤ (rA R 35 k).toInt ∧ (rA R 35 k).toInt < (rA R 10 (4 + k)).toInt) ∧
  (0 ≤ (rI R 51).toInt ∧ (rI R 51).toInt ≤ 20) ∧ (∀ k : Nat, (k : Int) < (rI R 51).toInt → rA R 46 k = 0 → 0 ≤ (rA R 48 k).toInt ∧ (rA R 48 k).toInt < (rA R 10 (10 + k)).toInt) ∧
  (∀ i, (rA R 41 i).toInt ≤ 12) ∧ (∀ i, (rA R 49 i).toInt ≤ 16) ∧ (0 ≤ (rI R 2).toInt ∧ (rI R 2).toInt ≤ 1600) ∧ (0 ≤ (rI R 3).toInt ∧ (rI R 3).toInt ≤ 1600)
def nRI : List Nat := [2, 3, 10, 11, 12, 14, 15, 35, 36, 41, 46, 48, 49, 51]
section RIs
variable {R R1 : RS} {L : List Nat}
theorem RI.many (h : RI R) (g : Nat) : 0 ≤ (rA R 10 g).toInt ∧ (rA R 10 g).toInt ≤ 60 := h.1 g
theorem RI.pg (h : RI R) {g : Nat} (hg : g < 30) : PG R g := h.2.1 g hg
theorem RI.words (h : RI R) (i : Nat) : (rA R 15 i).toInt ≤ 16 := h.2.2.1 i
theorem RI.samples (h : RI R) : 0 ≤ (rI R 36).toInt ∧ (rI R 36).toInt ≤ 6 := h.2.2.2.1
theorem RI.samplePart (h : RI R) (k : Nat) (hk : (k : Int) < (rI R 36).toInt) : 0 ≤ (rA R 35 k).toInt ∧ (rA R 35 k).toInt < (rA R 10 (4 + k)).toInt := h.2.2.2.2.1 k hk
theorem RI.acts (h : RI R) : 0 ≤ (rI R 51).toInt ∧ (rI R 51).toInt ≤ 20 := h.2.2.2.2.2.1
theorem RI.actPart (h : RI R) (k : Nat) (hk : (k : Int) < (rI R 51).toInt) (hz : rA R 46 k = 0) : 0 ≤ (rA R 48 k).toInt ∧ (rA R 48 k).toInt < (rA R 10 (10 + k)).toInt := h.2.2.2.2.2.2.1 k hk hz
theorem RI.pathSize (h : RI R) (i : Nat) : (rA R 41 i).toInt ≤ 12 := h.2.2.2.2.2.2.2.1 i
theorem RI.readSize (h : RI R) (i : Nat) : (rA R 49 i).toInt ≤ 16 := h.2.2.2.2.2.2.2.2.1 i
theorem RI.taped (h : RI R) : 0 ≤ (rI R 2).toInt ∧ (rI R 2).toInt ≤ 1600 := h.2.2.2.2.2.2.2.2.2.1
theorem RI.size (h : RI R) : 0 ≤ (rI R 3).toInt ∧ (rI R 3).toInt ≤ 1600 := h.2.2.2.2.2.2.2.2.2.2
theorem PT.eq {g p : Nat} (e1 : rA R1 11 = rA R 11) (e2 : rA R1 14 = rA R 14) : PT R1 g p = PT R g p := by unfold PT; rw [e1, e2]
theorem PQ.eq {g p : Nat} (e1 : rA R1 12 = rA R 12) (e2 : rA R1 10 = rA R 10) : PQ R1 g p = PQ R g p := by unfold PQ; rw [e1, e2]
theorem PG.fr {g : Nat} (h : PG R g) (f : fr L R R1) (hL : ∀ f ∈ [10, 11, 12, 14], f ∉ L) : PG R1 g := by
  have d : ∀ k, k ∈ [10, 11, 12, 14] → rA R1 k = rA R k := fun k hk => f.gA k (hL k hk)
  intro p hp
  rw [d 10 (by decide)] at hp
  rw [PT.eq (d 11 (by decide)) (d 14 (by decide)), PQ.eq (d 12 (by decide)) (d 10 (by decide))]
  exact h p hp
theorem RI.fr (h : RI R) (f : fr L R R1) (hL : ∀ f ∈ nRI, f ∉ L) : RI R1 := by
  have d : ∀ k, k ∈ nRI → rA R1 k = rA R k := fun k hk => f.gA k (hL k hk)
  have q : ∀ k, k ∈ nRI → rI R1 k = rI R k := fun k hk => f.gI k (hL k hk)
  obtain ⟨h1, h2, h3, h4, h5, h6, h7, h8, h9, h10, h11⟩ := h
  unfold RI
  rw [d 10 (by decide), d 15 (by decide), d 35 (by decide), d 41 (by decide), d 46 (by decide), d 48 (by decide), d 49 (by decide), q 2 (by decide), q 3 (by decide), q 36 (by decide), q 51 (by decide)]
  exact ⟨h1, fun g hg => (h2 g hg).fr f (fun k hk => hL k (by revert hk; revert k; decide)), h3, h4, h5, h6, h7, h8, h9, h10, h11⟩
theorem sp9 {g p x : Int32} (hg0 : 0 ≤ g.toInt) (hp : 0 ≤ p.toInt) (hx : x.toInt = 60 * g.toInt + p.toInt) : x.toNatClampNeg = 60 * g.toNatClampNeg + p.toNatClampNeg := by
  have h1 := clI (x := g) hg0
  have h2 := clI (x := p) hp
  have h3 := clI (x := x) (by omega)
  omega
theorem PG.at {g p x : Int32} (h : RI R) (hg0 : 0 ≤ g.toInt) (hg : g.toInt < 30) (hp : 0 ≤ p.toInt) (hx : x.toInt = 60 * g.toInt + p.toInt) (hm : p.toInt < (rA R 10 g.toNatClampNeg).toInt) : x.toNatClampNeg = 60 * g.toNatClampNeg + p.toNatClampNeg ∧ (p.toNatClampNeg : Int) = p.toInt ∧ PT R g.toNatClampNeg p.toNatClampNeg ∧ PQ R g.toNatClampNeg p.toNatClampNeg := by
  have h1 := clI (x := g) hg0
  have h2 := clI (x := p) hp
  exact ⟨sp9 hg0 hp hx, h2, h.pg (g := g.toNatClampNeg) (by omega) p.toNatClampNeg (by omega)⟩
theorem PG.at11 {g p x : Int32} (h : RI R) (hg0 : 0 ≤ g.toInt) (hg : g.toInt < 30) (hp : 0 ≤ p.toInt) (hx : x.toInt = 60 * g.toInt + p.toInt) (hm : p.toInt < (rA R 10 g.toNatClampNeg).toInt) : -1 ≤ (rA R 11 x.toNatClampNeg).toInt ∧ (rA R 11 x.toNatClampNeg).toInt < p.toInt := by
  obtain ⟨e, e2, h1, h2⟩ := PG.at h hg0 hg hp hx hm
  rw [e, ← e2]
  exact h1.1
theorem PG.at12 {g p x : Int32} (h : RI R) (hg0 : 0 ≤ g.toInt) (hg : g.toInt < 30) (hp : 0 ≤ p.toInt) (hx : x.toInt = 60 * g.toInt + p.toInt) (hm : p.toInt < (rA R 10 g.toNatClampNeg).toInt) : 1 ≤ (rA R 12 x.toNatClampNeg).toInt ∧ p.toInt + (rA R 12 x.toNatClampNeg).toInt ≤ (rA R 10 g.toNatClampNeg).toInt := by
  obtain ⟨e, e2, h1, h2⟩ := PG.at h hg0 hg hp hx hm
  rw [e, ← e2]
  exact h2
theorem PG.at14 {g p x : Int32} (h : RI R) (hg0 : 0 ≤ g.toInt) (hg : g.toInt < 30) (hp : 0 ≤ p.toInt) (hx : x.toInt = 60 * g.toInt + p.toInt) (hm : p.toInt < (rA R 10 g.toNatClampNeg).toInt) : 0 ≤ (rA R 14 x.toNatClampNeg).toInt ∧ (rA R 14 x.toNatClampNeg).toInt ≤ 11 := by
  obtain ⟨e, e2, h1, h2⟩ := PG.at h hg0 hg hp hx hm
  rw [e]
  exact h1.2.1
end RIs
