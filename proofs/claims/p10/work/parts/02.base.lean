/-! ===== the words that may be carried into every method ===== -/
def gT : List Cond := lw_tbl.filter goodWord
theorem gT_good : GoodIn gT gT := fun w h => ⟨h, good_of_word (List.mem_filter.mp h).2⟩
theorem gT_of {w : Cond} (h : w ∈ tables_1) (hg : goodWord w = true) : w ∈ gT := List.mem_filter.mpr ⟨List.mem_append_right _ h, hg⟩
theorem gT_p {q : MethodName × Nat} (h : q ∈ lw_privs) : Cond.selects q.1.cls q.1 q.1 ∈ gT := List.mem_filter.mpr ⟨List.mem_append_left _ (List.mem_map.mpr ⟨q, h, rfl⟩), rfl⟩
theorem tm1 {w : Cond} (i : Nat) (h : tables_1_1[i]? = some w) : w ∈ tables_1 := List.mem_append_left _ (List.mem_of_getElem? h)
theorem tm2 {w : Cond} (i : Nat) (h : tables_1_2[i]? = some w) : w ∈ tables_1 := List.mem_append_right _ (List.mem_append_left _ (List.mem_of_getElem? h))
theorem tm3 {w : Cond} (i : Nat) (h : tables_1_3[i]? = some w) : w ∈ tables_1 := List.mem_append_right _ (List.mem_append_right _ (List.mem_append_left _ (List.mem_of_getElem? h)))
theorem tm4 {w : Cond} (i : Nat) (h : tables_1_4[i]? = some w) : w ∈ tables_1 := List.mem_append_right _ (List.mem_append_right _ (List.mem_append_right _ (List.mem_append_left _ (List.mem_of_getElem? h))))
theorem tm5 {w : Cond} (i : Nat) (h : tables_1_5[i]? = some w) : w ∈ tables_1 := List.mem_append_right _ (List.mem_append_right _ (List.mem_append_right _ (List.mem_append_right _ (List.mem_append_left _ (List.mem_of_getElem? h)))))
theorem tm6 {w : Cond} (i : Nat) (h : tables_1_6[i]? = some w) : w ∈ tables_1 := List.mem_append_right _ (List.mem_append_right _ (List.mem_append_right _ (List.mem_append_right _ (List.mem_append_right _ (List.mem_of_getElem? h)))))
/-- links to a nest mate's private members -/
def gisN : Cond → Bool
  | .fieldLinkNest .. => true
  | .methodLinkNest .. => true
  | _ => false
def gNW (U : State) : Prop := ∀ w ∈ tables_1, gisN w = true → va_Nw w U
theorem gNW.warm {s U : State} (hW : s.WarmedH U.vm) (h : gNW s) : gNW U := by
  intro w hw hn
  have h1 := h w hw hn
  cases w <;> first | (simp [gisN] at hn; done) | exact va_Nw.warmF hW h1 | exact va_Nw.warmM hW h1
theorem gNW.same {u U : State} (hv : u.vm = U.vm) (h : gNW u) : gNW U := by
  intro w hw hn
  have h1 := h w hw hn
  cases w <;> first | (simp [gisN] at hn; done) | exact va_Nw.same rfl hv h1
/-! ===== the memory: fields and array elements as functions of addresses ===== -/
abbrev Mem : Type := (Nat → Nat) × (Nat → Nat → Int32) × (Nat → Nat → Int64) × (Nat → Nat → Option Nat) × (Nat → Nat) × (Nat → Nat → Int32) × (Nat → Nat → Int64) × (Nat → Nat → Option Nat)
abbrev mK (S : Mem) : Nat → Nat := S.1
abbrev mI (S : Mem) : Nat → Nat → Int32 := S.2.1
abbrev mL (S : Mem) : Nat → Nat → Int64 := S.2.2.1
abbrev mR (S : Mem) : Nat → Nat → Option Nat := S.2.2.2.1
abbrev mN (S : Mem) : Nat → Nat := S.2.2.2.2.1
abbrev aI (S : Mem) : Nat → Nat → Int32 := S.2.2.2.2.2.1
abbrev aL (S : Mem) : Nat → Nat → Int64 := S.2.2.2.2.2.2.1
abbrev aR (S : Mem) : Nat → Nat → Option Nat := S.2.2.2.2.2.2.2
def up2 {α : Type} (F : Nat → Nat → α) (f a : Nat) (v : α) : Nat → Nat → α := fun g b => if g = f ∧ b = a then v else F g b
def cl2 {α : Type} (F : Nat → Nat → α) (a : Nat) (v : α) : Nat → Nat → α := fun g b => if b = a then v else F g b
def cl1 {α : Type} (F : Nat → Nat → α) (a : Nat) (v : α) : Nat → Nat → α := fun b j => if b = a then v else F b j
abbrev pI (S : Mem) (f a : Nat) (v : Int32) : Mem := (S.1, up2 S.2.1 f a v, S.2.2)
abbrev pL (S : Mem) (f a : Nat) (v : Int64) : Mem := (S.1, S.2.1, up2 S.2.2.1 f a v, S.2.2.2)
abbrev pR (S : Mem) (f a : Nat) (v : Option Nat) : Mem := (S.1, S.2.1, S.2.2.1, up2 S.2.2.2.1 f a v, S.2.2.2.2)
abbrev qI (S : Mem) (a i : Nat) (v : Int32) : Mem := (S.1, S.2.1, S.2.2.1, S.2.2.2.1, S.2.2.2.2.1, up2 S.2.2.2.2.2.1 a i v, S.2.2.2.2.2.2)
abbrev qL (S : Mem) (a i : Nat) (v : Int64) : Mem := (S.1, S.2.1, S.2.2.1, S.2.2.2.1, S.2.2.2.2.1, S.2.2.2.2.2.1, up2 S.2.2.2.2.2.2.1 a i v, S.2.2.2.2.2.2.2)
abbrev qR (S : Mem) (a i : Nat) (v : Option Nat) : Mem := (S.1, S.2.1, S.2.2.1, S.2.2.2.1, S.2.2.2.2.1, S.2.2.2.2.2.1, S.2.2.2.2.2.2.1, up2 S.2.2.2.2.2.2.2 a i v)
abbrev nO (S : Mem) (a ci : Nat) : Mem := (va_up S.1 a (ci + 1), cl2 S.2.1 a 0, cl2 S.2.2.1 a 0, cl2 S.2.2.2.1 a none, S.2.2.2.2)
abbrev nA (S : Mem) (a t n : Nat) : Mem := (va_up S.1 a (t + 21), S.2.1, S.2.2.1, S.2.2.2.1, va_up S.2.2.2.2.1 a n, cl1 S.2.2.2.2.2.1 a 0, cl1 S.2.2.2.2.2.2.1 a 0, cl1 S.2.2.2.2.2.2.2 a none)
def tyOf (ci k : Nat) : FieldType := match ci with
  | 0 => tyX0 k
  | 1 => tyX1 k
  | 2 => tyX2 k
  | 3 => tyX3 k
  | 4 => tyX4 k
  | 5 => tyX5 k
  | 6 => tyX6 k
  | 7 => tyX7 k
  | 8 => tyX8 k
  | 9 => tyX9 k
  | 10 => tyX10 k
  | 11 => tyX11 k
  | _ => tyX12 k
/-- a field's shape: 0 a number of 32 bits, 1 of 64, 2 a reference -/
def shp (ci k : Nat) : Nat := match tyOf ci k with
  | .long => 1
  | .object _ => 2
  | .array _ => 2
  | _ => 0
def sval (ci k : Nat) (S : Mem) (a : Nat) : Value := match shp ci k with
  | 0 => .int (mI S (100 * ci + k) a)
  | 1 => .long (mL S (100 * ci + k) a)
  | _ => va_rf (mR S (100 * ci + k) a)
def marr (t : Nat) (S : Mem) (a : Nat) : (Nat → Int32) ⊕ (Nat → Int64) ⊕ (Nat → UInt32) ⊕ (Nat → UInt64) ⊕ (Nat → Option Nat) := match t with
  | 0 => .inl (aI S a)
  | 1 => .inr (.inl (aL S a))
  | 2 => .inl (aI S a)
  | 3 => .inl (aI S a)
  | _ => .inr (.inr (.inr (.inr (aR S a))))
abbrev gD : Type := (Nat → ClassId) × (Nat → Nat → Nat) × (Nat → ClassId)
def gtys (dA : Nat → ClassId) : List (ClassId × FieldType) := [(dA 0, .int), (dA 1, .long), (dA 2, .byte), (dA 3, .boolean), (dA 4, .object RX5), (dA 5, .object RX4), (dA 6, .object RX2), (dA 7, .object RX0)]
def gAO (U : State) : Prop := va_AO RX5 U ∧ va_AO RX4 U ∧ va_AO RX2 U ∧ va_AO RX0 U
def gK (D : gD) (U : State) : Prop := va_K (D.1, D.2.1) vwCl (gtys D.2.2) U ∧ gAO U
theorem gK.moved {D : gD} {u U : State} (hv : u.vm.Alike U.vm) (h : gK D u) : gK D U := ⟨va_K.moved hv h.1, h.2.1.moved hv, h.2.2.1.moved hv, h.2.2.2.1.moved hv, h.2.2.2.2.moved hv⟩
/-- the cell at a is what the memory says -/
def mOK (D : gD) (S : Mem) (a : Nat) (H : Heap) : Prop :=
  (∀ (ci : Nat) (r : vw_C), mK S a = ci + 1 → vwCl[ci]? = some r → t_OB a (D.1 ci) r.2.2 (D.2.1 ci) H (fun k => sval ci k S a)) ∧
  (∀ t : Nat, mK S a = t + 21 → t < 8 → H[a]? = some (vp_cell (D.2.2 t) (mN S a, marr t S a)))
/-- a heap, the number of cells from which on is counted, and the cells that must stay as they are in that heap -/
abbrev gB : Type := Heap × Nat × (Nat → Prop)
def nSl (n0 : Nat) (H : Heap) : Nat := ((H.toList.drop n0).map (fun c => c.slots.size)).sum
/-- the heap holds the memory; the cells that must stay are as they were; k cells of n slots are new since the base; what was written lies behind the base -/
def mH (D : gD) (H0 : gB) (S : Mem) (k n : Nat) (H : Heap) (locs : List Loc) : Prop :=
  (∀ a, mK S a ≠ 0 → (H0.2.1 ≤ a ∧ ¬ H0.2.2 a) ∧ a < H.size ∧ mOK D S a H) ∧ (∀ q, H0.2.2 q → q < H.size ∧ H[q]? = H0.1[q]?) ∧ H.size = H0.2.1 + k ∧ nSl H0.2.1 H = n ∧ ∀ l ∈ locs, H0.2.1 ≤ l.base
theorem mH.fresh {D : gD} {H0 : gB} {H : Heap} {S : Mem} {k n : Nat} {locs : List Loc} (h : mH D H0 S k n H locs) {a : Nat} (ha : H.size ≤ a) : mK S a = 0 := by
  cases hz : mK S a with
  | zero => rfl
  | succ j => exact absurd (h.1 a (by rw [hz]; exact Nat.succ_ne_zero j)).2.1 (Nat.not_lt.mpr ha)
theorem mH.locs {D : gD} {H0 : gB} {H : Heap} {S : Mem} {k n : Nat} {locs l2 : List Loc} (h : mH D H0 S k n H locs) (h2 : ∀ l ∈ l2, H0.2.1 ≤ l.base) : mH D H0 S k n H l2 := ⟨h.1, h.2.1, h.2.2.1, h.2.2.2.1, h2⟩
theorem mOK.kept {D : gD} {S : Mem} {a : Nat} {H H1 : Heap} (h : mOK D S a H) (hq : H1[a]? = H[a]?) : mOK D S a H1 :=
  ⟨fun ci r h1 h2 => (h.1 ci r h1 h2).kept hq, fun t h1 h2 => hq.trans (h.2 t h1 h2)⟩
/-- the memories say the same of the cell at b -/
def mSame (S S1 : Mem) (b : Nat) : Prop := mK S1 b = mK S b ∧ (∀ ci k, sval ci k S1 b = sval ci k S b) ∧ mN S1 b = mN S b ∧ ∀ t, marr t S1 b = marr t S b
theorem mOK.same {D : gD} {S S1 : Mem} {b : Nat} {H : Heap} (h : mOK D S b H) (hs : mSame S S1 b) : mOK D S1 b H := by
  obtain ⟨e1, e2, e3, e4⟩ := hs
  refine ⟨fun ci r h1 h2 => (h.1 ci r (e1 ▸ h1) h2).to (fun k _ => (e2 ci k).symm), fun t h1 h2 => ?_⟩
  rw [e3, e4]
  exact h.2 t (e1 ▸ h1) h2
/-- one cell of the heap was written, its slots as many as before -/
theorem mH.write {D : gD} {H0 : gB} {H H1 : Heap} {S S1 : Mem} {k n a i : Nat} {locs : List Loc} {cell cell1 : Cell} (h : mH D H0 S k n H locs) (ha : mK S a ≠ 0) (hk : ∀ b, mK S1 b = mK S b) (hc : H[a]? = some cell) (hc1 : H1[a]? = some cell1) (hsz : cell1.slots.size = cell.slots.size)
    (z : H1.size = H.size) (oq : ∀ q, q ≠ a → H1[q]? = H[q]?) (hs : ∀ b, b ≠ a → mSame S S1 b) (hok : mOK D S1 a H1) : mH D H0 S1 k n H1 (locs ++ [⟨a, i⟩]) := by
  have hba : H0.2.1 ≤ a := (h.1 a ha).1.1
  refine ⟨fun b hb => ?_, fun q hq => ?_, z.trans h.2.2.1, ?_, fun l hl => ?_⟩
  · rw [hk] at hb
    obtain ⟨g1, g2, g3⟩ := h.1 b hb
    refine ⟨g1, by rw [z]; exact g2, ?_⟩
    by_cases e : b = a
    · rw [e]; exact hok
    · exact (g3.kept (oq b e)).same (hs b e)
  · exact ⟨by rw [z]; exact (h.2.1 q hq).1, by rw [oq q (fun e => (h.1 a ha).1.2 (e ▸ hq))]; exact (h.2.1 q hq).2⟩
  · rw [← h.2.2.2.1]
    have hm : H1.toList.map (fun c => c.slots.size) = H.toList.map (fun c => c.slots.size) := by
      apply List.ext_getElem?
      intro q
      rw [List.getElem?_map, List.getElem?_map, Array.getElem?_toList, Array.getElem?_toList]
      by_cases e : q = a
      · subst e; rw [hc, hc1]; simp [hsz]
      · rw [oq q e]
    show ((H1.toList.drop H0.2.1).map (fun c => c.slots.size)).sum = ((H.toList.drop H0.2.1).map (fun c => c.slots.size)).sum
    rw [List.map_drop, List.map_drop, hm]
  · rcases List.mem_append.mp hl with h1 | h1
    · exact h.2.2.2.2 l h1
    · rw [List.mem_singleton.mp h1]; exact hba
/-- a cell came -/
theorem mH.push {D : gD} {H0 : gB} {H H1 : Heap} {S S1 : Mem} {k n w : Nat} {locs : List Loc} {cell : Cell} (h : mH D H0 S k n H locs) (hc : H1[H.size]? = some cell) (hw : cell.slots.size = w) (z : H1.size = H.size + 1) (oq : ∀ q, q < H.size → H1[q]? = H[q]?)
    (hs : ∀ b, b ≠ H.size → mSame S S1 b) (hok : mOK D S1 H.size H1) : mH D H0 S1 (k + 1) (n + w) H1 locs := by
  have hle : H0.2.1 ≤ H.size := by rw [h.2.2.1]; omega
  refine ⟨fun b hb => ?_, fun q hq => ?_, by rw [z, h.2.2.1]; omega, ?_, h.2.2.2.2⟩
  · by_cases e : b = H.size
    · rw [e]; exact ⟨⟨hle, fun hp => Nat.lt_irrefl _ (h.2.1 _ hp).1⟩, by omega, hok⟩
    · have hb' : mK S b ≠ 0 := by rw [← (hs b e).1]; exact hb
      obtain ⟨g1, g2, g3⟩ := h.1 b hb'
      exact ⟨g1, by omega, (g3.kept (oq b g2)).same (hs b e)⟩
  · exact ⟨by have := (h.2.1 q hq).1; omega, by rw [oq q (h.2.1 q hq).1]; exact (h.2.1 q hq).2⟩
  · have hl : H1.toList = H.toList ++ [cell] := by
      apply List.ext_getElem?
      intro q
      rw [Array.getElem?_toList]
      rcases Nat.lt_trichotomy q H.size with e | e | e
      · rw [oq q e, List.getElem?_append_left (by simpa using e), Array.getElem?_toList]
      · subst e; rw [hc, List.getElem?_append_right (by simp)]; simp
      · rw [List.getElem?_append_right (by simp; omega)]
        have h1 : H1[q]? = none := by rw [Array.getElem?_eq_none_iff, z]; omega
        rw [h1]
        symm
        rw [List.getElem?_eq_none_iff]
        simp; omega
    show ((H1.toList.drop H0.2.1).map (fun c => c.slots.size)).sum = n + w
    rw [hl, List.drop_append_of_le_length (by simpa using hle), List.map_append, List.sum_append, ← h.2.2.2.1, ← hw]
    simp [nSl]
theorem mSame.rf {S : Mem} {b : Nat} : mSame S S b := ⟨rfl, fun _ _ => rfl, rfl, fun _ => rfl⟩
theorem up2_ne {α : Type} {F : Nat → Nat → α} {f a g b : Nat} {v : α} (h : ¬ (g = f ∧ b = a)) : up2 F f a v g b = F g b := by simp [up2, h]
theorem up2_eq {α : Type} {F : Nat → Nat → α} {f a : Nat} {v : α} : up2 F f a v f a = v := by simp [up2]
theorem sval_pI {S : Mem} {f a b : Nat} {v : Int32} (h : b ≠ a) (ci k : Nat) : sval ci k (pI S f a v) b = sval ci k S b := by
  unfold sval
  split <;> simp [mI, mL, mR, up2, h]
theorem sval_pL {S : Mem} {f a b : Nat} {v : Int64} (h : b ≠ a) (ci k : Nat) : sval ci k (pL S f a v) b = sval ci k S b := by
  unfold sval
  split <;> simp [mI, mL, mR, up2, h]
theorem sval_pR {S : Mem} {f a b : Nat} {v : Option Nat} (h : b ≠ a) (ci k : Nat) : sval ci k (pR S f a v) b = sval ci k S b := by
  unfold sval
  split <;> simp [mI, mL, mR, up2, h]
theorem marr_q {S S1 : Mem} {b : Nat} (h1 : aI S1 b = aI S b) (h2 : aL S1 b = aL S b) (h3 : aR S1 b = aR S b) (t : Nat) : marr t S1 b = marr t S b := by
  unfold marr
  split <;> simp [h1, h2, h3]
theorem inT0 : ∀ w ∈ wsX00, w ∈ gT := by decide +kernel
theorem inT1 : ∀ w ∈ wsX10, w ∈ gT := by decide +kernel
theorem inT2 : ∀ w ∈ wsX20, w ∈ gT := by decide +kernel
theorem inT3 : ∀ w ∈ wsX30, w ∈ gT := by decide +kernel
theorem inT4 : ∀ w ∈ wsX40, w ∈ gT := by decide +kernel
theorem inT5 : ∀ w ∈ wsX50, w ∈ gT := by decide +kernel
theorem inT6 : ∀ w ∈ wsX60, w ∈ gT := by decide +kernel
theorem inT7 : ∀ w ∈ wsX70, w ∈ gT := by decide +kernel
theorem inT8 : ∀ w ∈ wsX80, w ∈ gT := by decide +kernel
theorem inT9 : ∀ w ∈ wsX90, w ∈ gT := by decide +kernel
theorem inT10 : ∀ w ∈ wsX100, w ∈ gT := by decide +kernel
theorem inT11 : ∀ w ∈ wsX110, w ∈ gT := by decide +kernel
theorem inT12 : ∀ w ∈ wsX120, w ∈ gT := by decide +kernel
/-- what holds of each class's fields -/
theorem cls_ok (ci : Nat) (r : vw_C) (h : vwCl[ci]? = some r) : ci < 13 ∧ (∀ w ∈ u_ws r.1 r.2.1 r.2.2, w ∈ gT) ∧ (∀ k, k < r.2.2 → parseFieldDescriptor (r.2.1 k).2.2.1 = some (tyOf ci k)) ∧ (∀ a, a < r.2.2 → ∀ b, b < r.2.2 → a ≠ b → (r.2.1 a).2.1 ≠ (r.2.1 b).2.1) ∧ r.2.2 < 100 := by
  match ci, h with
  | 0, h => cases h; exact ⟨by decide, inT0, tyX0_ok, nmX0, by decide⟩
  | 1, h => cases h; exact ⟨by decide, inT1, tyX1_ok, nmX1, by decide⟩
  | 2, h => cases h; exact ⟨by decide, inT2, tyX2_ok, nmX2, by decide⟩
  | 3, h => cases h; exact ⟨by decide, inT3, tyX3_ok, nmX3, by decide⟩
  | 4, h => cases h; exact ⟨by decide, inT4, tyX4_ok, nmX4, by decide⟩
  | 5, h => cases h; exact ⟨by decide, inT5, tyX5_ok, nmX5, by decide⟩
  | 6, h => cases h; exact ⟨by decide, inT6, tyX6_ok, nmX6, by decide⟩
  | 7, h => cases h; exact ⟨by decide, inT7, tyX7_ok, nmX7, by decide⟩
  | 8, h => cases h; exact ⟨by decide, inT8, tyX8_ok, nmX8, by decide⟩
  | 9, h => cases h; exact ⟨by decide, inT9, tyX9_ok, nmX9, by decide⟩
  | 10, h => cases h; exact ⟨by decide, inT10, tyX10_ok, nmX10, by decide⟩
  | 11, h => cases h; exact ⟨by decide, inT11, tyX11_ok, nmX11, by decide⟩
  | 12, h => cases h; exact ⟨by decide, inT12, tyX12_ok, nmX12, by decide⟩
  | n + 13, h => exact absurd (List.getElem?_eq_some_iff.mp h).1 (by simp [vwCl])
