/-- what a reference field of the developers' classes holds: 1 never null (once built); the kind; an array's length or 0 -/
def fty (f : Nat) : Nat × Nat × Nat := match f with
  | 1 => (1, 6, 0)
  | 2 => (0, 4, 0)
  | 100 => (0, 6, 0)
  | 101 => (0, 6, 0)
  | 200 => (1, 21, 3721)
  | 201 => (1, 21, 3600)
  | 202 => (1, 24, 60)
  | 203 => (0, 5, 0)
  | 204 => (0, 5, 0)
  | 300 => (1, 6, 0)
  | 400 => (1, 25, 60)
  | 500 => (1, 5, 0)
  | 503 => (0, 6, 0)
  | 504 => (0, 6, 0)
  | 505 => (0, 6, 0)
  | 508 => (0, 6, 0)
  | 600 => (1, 11, 0)
  | 604 => (0, 6, 0)
  | 605 => (0, 6, 0)
  | 700 => (1, 25, 40)
  | 703 => (0, 6, 0)
  | 800 => (1, 25, 6)
  | 801 => (1, 24, 256)
  | 900 => (1, 23, 1600)
  | 1000 => (1, 10, 0)
  | 1100 => (1, 10, 0)
  | 1101 => (1, 7, 0)
  | 1102 => (1, 26, 4)
  | 1103 => (1, 27, 8)
  | 1104 => (1, 21, 3721)
  | 1105 => (1, 2, 0)
  | 1106 => (1, 2, 0)
  | 1107 => (1, 9, 0)
  | 1108 => (1, 28, 20)
  | 1109 => (1, 8, 0)
  | _ => (0, 0, 0)
def ety (t : Nat) : Nat := match t with
  | 0 => 6
  | 1 => 5
  | 2 => 3
  | _ => 1
/-- every reference of the developers' objects points to an object of its kind; x: the objects that are being built -/
def TI (x : Nat → Nat → Prop) (S : Mem) : Prop :=
  (∀ a ci k, mK S a = ci + 1 → ci < 12 → k < 20 → (fty (100 * ci + k)).2.1 ≠ 0 → (¬ x a (100 * ci + k) → (fty (100 * ci + k)).1 = 1 → ∃ q, mR S (100 * ci + k) a = some q) ∧ ∀ q, mR S (100 * ci + k) a = some q → mK S q = (fty (100 * ci + k)).2.1 ∧ ((fty (100 * ci + k)).2.2 ≠ 0 → mN S q = (fty (100 * ci + k)).2.2)) ∧
  (∀ a t i q, mK S a = t + 25 → t < 4 → aR S a i = some q → mK S q = ety t)
def NI (c : Nat) (tl : Int) (rho : Nat × Nat) (S : Mem) : Prop :=
  (∀ a, mK S a = 5 → 0 ≤ (mI S 401 a).toInt ∧ (mI S 401 a).toInt ≤ 60) ∧
  (∀ a, mK S a = 6 → 0 ≤ (mI S 501 a).toInt ∧ (mI S 501 a).toInt < 60 ∧ 0 ≤ (mI S 509 a).toInt ∧ (mI S 509 a).toInt ≤ c) ∧
  (∀ a q, mK S a = 6 → mR S 503 a = some q → (mI S 501 q).toInt < (mI S 501 a).toInt) ∧
  (∀ a q, mK S a = 6 → mR S 504 a = some q → (mI S 501 q).toInt < (mI S 501 a).toInt) ∧
  (∀ a, mK S a = 9 → 0 ≤ (mI S 802 a).toInt ∧ (mI S 802 a).toInt ≤ 6) ∧
  (∀ a, mK S a = 10 → (mI S 901 a).toInt = tl) ∧ (0 ≤ tl ∧ tl ≤ 1600) ∧
  (∀ a, mK S a = 12 → 0 ≤ (mI S 1110 a).toInt ∧ (mI S 1110 a).toInt ≤ 20 ∧ 0 ≤ (mI S 1111 a).toInt ∧ (mI S 1111 a).toInt < 8) ∧
  (∀ a, mK S a = 8 → 0 ≤ (mI S 705 a).toInt ∧ (mI S 705 a).toInt ≤ rho.1) ∧
  (∀ a b, mK S a = 10 → mK S b = 10 → a = b) ∧
  (∀ a b, mK S a = 12 → mK S b = 12 → a = b) ∧
  (∀ a t, rho.2 ≤ 8 → mK S a = 12 → mR S 1103 a = some t → (∀ i, i < rho.2 → aR S t i ≠ none) ∧ (rho.2 < 8 → (mI S 1111 a).toInt = rho.2))
def CI (x : Nat → Nat → Prop) (c : Nat) (tl : Int) (rho : Nat × Nat) (S : Mem) : Prop := TI x S ∧ NI c tl rho S
abbrev x0 : Nat → Nat → Prop := fun _ _ => False
section Inv
variable {x : Nat → Nat → Prop} {c : Nat} {tl : Int} {rho : Nat × Nat} {S : Mem} {a : Nat}
theorem TI.nn {ci k : Nat} (h : TI x S) (hk : mK S a = ci + 1) (hc : ci < 12 := by decide) (hk2 : k < 20 := by decide) (hn : (fty (100 * ci + k)).1 = 1 := by rfl) (hz : (fty (100 * ci + k)).2.1 ≠ 0 := by decide) (hx : ¬ x a (100 * ci + k) := by first | exact id | assumption) : ∃ q, mR S (100 * ci + k) a = some q ∧ mK S q = (fty (100 * ci + k)).2.1 ∧ ((fty (100 * ci + k)).2.2 ≠ 0 → mN S q = (fty (100 * ci + k)).2.2) := by
  obtain ⟨h1, h2⟩ := h.1 a ci k hk hc hk2 hz
  obtain ⟨q, hq⟩ := h1 hx hn
  exact ⟨q, hq, h2 q hq⟩
theorem TI.opt {ci k : Nat} (h : TI x S) (hk : mK S a = ci + 1) (hc : ci < 12 := by decide) (hk2 : k < 20 := by decide) (hz : (fty (100 * ci + k)).2.1 ≠ 0 := by decide) : ∀ q, mR S (100 * ci + k) a = some q → mK S q = (fty (100 * ci + k)).2.1 := fun q hq => ((h.1 a ci k hk hc hk2 hz).2 q hq).1
theorem TI.arr {t i : Nat} (h : TI x S) (hk : mK S a = t + 25) (ht : t < 4 := by decide) : ∀ q, aR S a i = some q → mK S q = ety t := fun q hq => h.2 a t i q hk ht hq
/-- a reference field is written -/
theorem TI.putR {ci k : Nat} {o : Option Nat} (h : TI x S) (hk : mK S a = ci + 1) (ho : ∀ q, o = some q → mK S q = (fty (100 * ci + k)).2.1 ∧ ((fty (100 * ci + k)).2.2 ≠ 0 → mN S q = (fty (100 * ci + k)).2.2)) (hn : (fty (100 * ci + k)).1 = 0 ∨ o ≠ none) (hk2 : k < 20) : TI x (pR S (100 * ci + k) a o) := by
  refine ⟨fun b cj j hb hc hj hz => ?_, h.2⟩
  have hb' : mK S b = cj + 1 := hb
  obtain ⟨h1, h2⟩ := h.1 b cj j hb' hc hj hz
  by_cases e : 100 * cj + j = 100 * ci + k ∧ b = a
  · obtain ⟨e1, rfl⟩ := e
    have hv : mR (pR S (100 * ci + k) b o) (100 * cj + j) b = o := by simp [mR, up2, e1]
    rw [hv, e1]
    refine ⟨fun _ hn1 => ?_, fun q hq => ho q hq⟩
    rcases hn with hn | hn
    · rw [hn] at hn1; cases hn1
    · cases o with
      | none => exact absurd rfl hn
      | some q => exact ⟨q, rfl⟩
  · have hv : mR (pR S (100 * ci + k) a o) (100 * cj + j) b = mR S (100 * cj + j) b := up2_ne e
    rw [hv]
    exact ⟨h1, h2⟩
theorem TI.putA {t i : Nat} {o : Option Nat} (h : TI x S) (hk : mK S a = t + 25) (ho : ∀ q, o = some q → mK S q = ety t) : TI x (qR S a i o) := by
  refine ⟨h.1, fun b t' j q hb ht hq => ?_⟩
  have hb' : mK S b = t' + 25 := hb
  by_cases e : b = a ∧ j = i
  · obtain ⟨rfl, rfl⟩ := e
    have ht' : t' = t := by omega
    subst ht'
    refine ho q ?_
    have hv : aR (qR S b j o) b j = o := by simp [aR, up2]
    exact hv.symm.trans hq
  · have hv : up2 (aR S) a i o b j = aR S b j := up2_ne e
    exact h.2 b t' j q hb' ht (hv.symm.trans hq)
end Inv
theorem ltT {x y : Int32} (h : x < y) : x.toInt < y.toInt := Int32.lt_iff_toInt_lt.mp h
theorem ltF {x y : Int32} (h : ¬ x < y) : y.toInt ≤ x.toInt := by rw [Int32.lt_iff_toInt_lt] at h; omega
theorem leT {x y : Int32} (h : x ≤ y) : x.toInt ≤ y.toInt := Int32.le_iff_toInt_le.mp h
theorem leF {x y : Int32} (h : ¬ x ≤ y) : y.toInt < x.toInt := by rw [Int32.le_iff_toInt_le] at h; omega
theorem eqT {x y : Int32} (h : x = y) : x.toInt = y.toInt := by rw [h]
theorem eqF {x y : Int32} (h : ¬ x = y) : ¬ x.toInt = y.toInt := fun q => h (Int32.toInt_inj.mp q)
section InvN
variable {x : Nat → Nat → Prop} {c : Nat} {tl : Int} {rho : Nat × Nat} {S : Mem} {a : Nat}
theorem NI.f401 (h : NI c tl rho S) (k : mK S a = 5) : 0 ≤ (mI S 401 a).toInt ∧ (mI S 401 a).toInt ≤ 60 := h.1 a k
theorem NI.f501 (h : NI c tl rho S) (k : mK S a = 6) : 0 ≤ (mI S 501 a).toInt ∧ (mI S 501 a).toInt < 60 := ⟨(h.2.1 a k).1, (h.2.1 a k).2.1⟩
theorem NI.f509 (h : NI c tl rho S) (k : mK S a = 6) : 0 ≤ (mI S 509 a).toInt ∧ (mI S 509 a).toInt ≤ c := (h.2.1 a k).2.2
theorem NI.f503 (h : NI c tl rho S) {q : Nat} (k : mK S a = 6) (e : mR S 503 a = some q) : (mI S 501 q).toInt < (mI S 501 a).toInt := h.2.2.1 a q k e
theorem NI.f504 (h : NI c tl rho S) {q : Nat} (k : mK S a = 6) (e : mR S 504 a = some q) : (mI S 501 q).toInt < (mI S 501 a).toInt := h.2.2.2.1 a q k e
theorem NI.f802 (h : NI c tl rho S) (k : mK S a = 9) : 0 ≤ (mI S 802 a).toInt ∧ (mI S 802 a).toInt ≤ 6 := h.2.2.2.2.1 a k
theorem NI.f901 (h : NI c tl rho S) (k : mK S a = 10) : (mI S 901 a).toInt = tl ∧ 0 ≤ tl ∧ tl ≤ 1600 := ⟨h.2.2.2.2.2.1 a k, h.2.2.2.2.2.2.1⟩
theorem NI.f1110 (h : NI c tl rho S) (k : mK S a = 12) : 0 ≤ (mI S 1110 a).toInt ∧ (mI S 1110 a).toInt ≤ 20 := ⟨(h.2.2.2.2.2.2.2.1 a k).1, (h.2.2.2.2.2.2.2.1 a k).2.1⟩
theorem NI.f1111 (h : NI c tl rho S) (k : mK S a = 12) : 0 ≤ (mI S 1111 a).toInt ∧ (mI S 1111 a).toInt < 8 := (h.2.2.2.2.2.2.2.1 a k).2.2
theorem NI.f705 (h : NI c tl rho S) (k : mK S a = 8) : 0 ≤ (mI S 705 a).toInt ∧ (mI S 705 a).toInt ≤ rho.1 := h.2.2.2.2.2.2.2.2.1 a k
end InvN
/-- what the invariant looks at is the same -/
def nums9 : List Nat := [401, 501, 509, 802, 901, 1110, 1111, 705]
def fEq (S S1 : Mem) : Prop := mK S1 = mK S ∧ mR S1 = mR S ∧ mN S1 = mN S ∧ aR S1 = aR S ∧ ∀ f, f ∈ nums9 → mI S1 f = mI S f
section FE
variable {x : Nat → Nat → Prop} {c : Nat} {tl : Int} {rho : Nat × Nat} {S S1 S2 : Mem} {a : Nat}
theorem fEq.rf : fEq S S := ⟨rfl, rfl, rfl, rfl, fun _ _ => rfl⟩
theorem fEq.trans (h : fEq S S1) (g : fEq S1 S2) : fEq S S2 := ⟨g.1.trans h.1, g.2.1.trans h.2.1, g.2.2.1.trans h.2.2.1, g.2.2.2.1.trans h.2.2.2.1, fun f hf => (g.2.2.2.2 f hf).trans (h.2.2.2.2 f hf)⟩
theorem fEq.I {f : Nat} {v : Int32} (hf : f ∉ nums9) : fEq S (pI S f a v) := ⟨rfl, rfl, rfl, rfl, fun g hg => by funext b; exact up2_ne (fun e => hf (e.1 ▸ hg))⟩
theorem fEq.L {f : Nat} {v : Int64} : fEq S (pL S f a v) := ⟨rfl, rfl, rfl, rfl, fun _ _ => rfl⟩
theorem fEq.AI {i : Nat} {v : Int32} : fEq S (qI S a i v) := ⟨rfl, rfl, rfl, rfl, fun _ _ => rfl⟩
theorem fEq.AL {i : Nat} {v : Int64} : fEq S (qL S a i v) := ⟨rfl, rfl, rfl, rfl, fun _ _ => rfl⟩
theorem TI.fe (h : TI x S) (g : fEq S S1) : TI x S1 := by
  obtain ⟨g1, g2, g3, g4, -⟩ := g
  unfold TI
  rw [g1, g2, g3, g4]
  exact h
theorem NI.fe (h : NI c tl rho S) (g : fEq S S1) : NI c tl rho S1 := by
  obtain ⟨g1, g2, g3, g4, g5⟩ := g
  unfold NI
  rw [g1, g2, g4, g5 401 (by decide), g5 501 (by decide), g5 509 (by decide), g5 802 (by decide), g5 901 (by decide), g5 1110 (by decide), g5 1111 (by decide), g5 705 (by decide)]
  exact h
theorem CI.fe (h : CI x c tl rho S) (g : fEq S S1) : CI x c tl rho S1 := ⟨h.1.fe g, h.2.fe g⟩
end FE
/-- how long a chain of parts can be -/
def cm (S : Mem) (o : Option Nat) : Nat := match o with
  | none => 0
  | some q => (mI S 501 q).toInt.toNat + 1
section Chain
variable {x : Nat → Nat → Prop} {c : Nat} {tl : Int} {rho : Nat × Nat} {S : Mem} {a : Nat}
theorem cm503 (hI : CI x c tl rho S) (k : mK S a = 6) : cm S (mR S 503 a) < cm S (some a) := by
  cases h : mR S 503 a with
  | none => simp [cm]
  | some p =>
    have h1 := NI.f503 hI.2 k h
    have h2 := NI.f501 hI.2 (TI.opt hI.1 (ci := 5) (k := 3) k (by decide) (by decide) (by decide) p h)
    show _ + 1 < _ + 1
    omega
theorem cm504 (hI : CI x c tl rho S) (k : mK S a = 6) : cm S (mR S 504 a) < cm S (some a) := by
  cases h : mR S 504 a with
  | none => simp [cm]
  | some p =>
    have h1 := NI.f504 hI.2 k h
    have h2 := NI.f501 hI.2 (TI.opt hI.1 (ci := 5) (k := 4) k (by decide) (by decide) (by decide) p h)
    show _ + 1 < _ + 1
    omega
end Chain
theorem cat_i (x : Int32) : (Value.int x).category = 1 := rfl
theorem cat_l (x : Int64) : (Value.long x).category = 2 := rfl
theorem cat_a (x : Nat) : (Value.ref x).category = 1 := rfl
theorem cat_n : Value.null.category = 1 := rfl

section Puts
variable {x : Nat → Nat → Prop} {c : Nat} {tl : Int} {rho : Nat × Nat} {S S1 : Mem} {a : Nat}
theorem up2g {α : Type} {F : Nat → Nat → α} {f a g : Nat} {v : α} (h : g ≠ f) : up2 F f a v g = F g := by funext b; exact up2_ne (fun e => h e.1)
theorem up2b {F : Nat → Nat → Int32} {f a b : Nat} {v : Int32} {P : Int32 → Prop} (h1 : P v) (h2 : P (F f b)) : P (up2 F f a v f b) := by
  by_cases e : b = a
  · rw [e, up2_eq]; exact h1
  · rw [up2_ne (fun z => e z.2)]; exact h2
theorem CI.putR {ci k : Nat} {o : Option Nat} (h : CI x c tl rho S) (hk : mK S a = ci + 1) (ho : ∀ q, o = some q → mK S q = (fty (100 * ci + k)).2.1 ∧ ((fty (100 * ci + k)).2.2 ≠ 0 → mN S q = (fty (100 * ci + k)).2.2)) (hn : (fty (100 * ci + k)).1 = 0 ∨ o ≠ none) (hk2 : k < 20) (h3 : 503 ≠ 100 * ci + k) (h4 : 504 ≠ 100 * ci + k) (h5 : 1103 ≠ 100 * ci + k ∨ 8 < rho.2 := by first | exact Or.inl (by decide) | exact Or.inr (by assumption)) : CI x c tl rho (pR S (100 * ci + k) a o) := by
  refine ⟨h.1.putR hk ho hn hk2, ?_⟩
  obtain ⟨g1, g2, g3, g4, g5, g6, g7, g8, g9, g10, g11, g12⟩ := h.2
  refine ⟨g1, g2, ?_, ?_, g5, g6, g7, g8, g9, g10, g11, ?_⟩
  · rw [show mR (pR S (100 * ci + k) a o) 503 = mR S 503 from up2g h3]; exact g3
  · rw [show mR (pR S (100 * ci + k) a o) 504 = mR S 504 from up2g h4]; exact g4
  · intro b t hm hb ht
    rcases h5 with h5 | h5
    · rw [show mR (pR S (100 * ci + k) a o) 1103 = mR S 1103 from up2g h5] at ht
      exact g12 b t hm hb ht
    · omega
theorem CI.putA {t i : Nat} {o : Option Nat} (h : CI x c tl rho S) (hk : mK S a = t + 25) (ho : ∀ q, o = some q → mK S q = ety t) (h6 : t ≠ 2 ∨ 8 < rho.2 := by first | exact Or.inl (by decide) | exact Or.inr (by assumption)) : CI x c tl rho (qR S a i o) := by
  refine ⟨h.1.putA hk ho, ?_⟩
  obtain ⟨g1, g2, g3, g4, g5, g6, g7, g8, g9, g10, g11, g12⟩ := h.2
  refine ⟨g1, g2, g3, g4, g5, g6, g7, g8, g9, g10, g11, fun b t' hm hb ht => ?_⟩
  rcases h6 with h6 | h6
  · have kt : mK S t' = 27 := TI.opt h.1 (ci := 11) (k := 3) hb (by decide) (by decide) (by decide) t' ht
    have e : t' ≠ a := fun z => by rw [z, hk] at kt; omega
    obtain ⟨r1, r2⟩ := g12 b t' hm hb ht
    refine ⟨fun j hj => ?_, r2⟩
    show up2 (aR S) a i o t' j ≠ none
    rw [up2_ne (fun z => e z.1)]
    exact r1 j hj
  · omega
theorem CI.rhoLe {r' : Nat} (h : CI x c tl rho S) (hr : rho.1 ≤ r') : CI x c tl (r', rho.2) S := by
  obtain ⟨h0, h1, h2, h3, h4, h5, h6, h7, h8, h9, h10, h11, h12⟩ := h
  exact ⟨h0, h1, h2, h3, h4, h5, h6, h7, h8, fun a k => ⟨(h9 a k).1, by have := (h9 a k).2; show _ ≤ ((r' : Nat) : Int); omega⟩, h10, h11, h12⟩
theorem CI.ccLe {c' : Nat} (h : CI x c tl rho S) (hr : c ≤ c') : CI x c' tl rho S := by
  obtain ⟨h0, h1, h2, h3, h4, h5, h6, h7, h8, h9, h10, h11, h12⟩ := h
  exact ⟨h0, h1, fun a k => ⟨(h2 a k).1, (h2 a k).2.1, (h2 a k).2.2.1, by have := (h2 a k).2.2.2; omega⟩, h3, h4, h5, h6, h7, h8, h9, h10, h11, h12⟩
theorem CI.p401 {v : Int32} (h : CI x c tl rho S) (hv : 0 ≤ v.toInt ∧ v.toInt ≤ 60) : CI x c tl rho (pI S 401 a v) := by
  obtain ⟨h0, h1, h2, h3, h4, h5, h6, h7, h8, h9, h10, h11, h12⟩ := h
  exact ⟨h0, fun b k => up2b (P := fun z => 0 ≤ z.toInt ∧ z.toInt ≤ 60) hv (h1 b k), h2, h3, h4, h5, h6, h7, h8, h9, h10, h11, h12⟩
theorem CI.p509 {v : Int32} (h : CI x c tl rho S) (hv : 0 ≤ v.toInt ∧ v.toInt ≤ c) : CI x c tl rho (pI S 509 a v) := by
  obtain ⟨h0, h1, h2, h3, h4, h5, h6, h7, h8, h9, h10, h11, h12⟩ := h
  exact ⟨h0, h1, fun b k => ⟨(h2 b k).1, (h2 b k).2.1, up2b (P := fun z => 0 ≤ z.toInt ∧ z.toInt ≤ c) hv (h2 b k).2.2⟩, h3, h4, h5, h6, h7, h8, h9, h10, h11, h12⟩
theorem CI.p802 {v : Int32} (h : CI x c tl rho S) (hv : 0 ≤ v.toInt ∧ v.toInt ≤ 6) : CI x c tl rho (pI S 802 a v) := by
  obtain ⟨h0, h1, h2, h3, h4, h5, h6, h7, h8, h9, h10, h11, h12⟩ := h
  exact ⟨h0, h1, h2, h3, h4, fun b k => up2b (P := fun z => 0 ≤ z.toInt ∧ z.toInt ≤ 6) hv (h5 b k), h6, h7, h8, h9, h10, h11, h12⟩
theorem CI.p901 {v : Int32} (h : CI x c tl rho S) (ha : mK S a = 10) (hv : 0 ≤ v.toInt ∧ v.toInt ≤ 1600) : CI x c v.toInt rho (pI S 901 a v) := by
  obtain ⟨h0, h1, h2, h3, h4, h5, h6, h7, h8, h9, h10, h11, h12⟩ := h
  refine ⟨h0, h1, h2, h3, h4, h5, fun b k => ?_, hv, h8, h9, h10, h11, h12⟩
  have e : b = a := h10 b a k ha
  subst e
  exact congrArg Int32.toInt (up2_eq (F := mI S) (f := 901) (a := b) (v := v))
theorem CI.p1110 {v : Int32} (h : CI x c tl rho S) (hv : 0 ≤ v.toInt ∧ v.toInt ≤ 20) : CI x c tl rho (pI S 1110 a v) := by
  obtain ⟨h0, h1, h2, h3, h4, h5, h6, h7, h8, h9, h10, h11, h12⟩ := h
  refine ⟨h0, h1, h2, h3, h4, h5, h6, h7, fun b k => ?_, h9, h10, h11, h12⟩
  have e := up2b (F := mI S) (f := 1110) (a := a) (b := b) (v := v) (P := fun z => 0 ≤ z.toInt ∧ z.toInt ≤ 20) hv ⟨(h8 b k).1, (h8 b k).2.1⟩
  exact ⟨e.1, e.2, (h8 b k).2.2⟩
theorem CI.p1111 {v : Int32} (h : CI x c tl rho S) (hv : 0 ≤ v.toInt ∧ v.toInt < 8) (hr : 8 < rho.2 := by assumption) : CI x c tl rho (pI S 1111 a v) := by
  obtain ⟨h0, h1, h2, h3, h4, h5, h6, h7, h8, h9, h10, h11, h12⟩ := h
  exact ⟨h0, h1, h2, h3, h4, h5, h6, h7, fun b k => ⟨(h8 b k).1, (h8 b k).2.1, up2b (P := fun z => 0 ≤ z.toInt ∧ z.toInt < 8) hv (h8 b k).2.2⟩, h9, h10, h11, fun b t hm => absurd hm (by omega)⟩
theorem CI.p705 {v : Int32} (h : CI x c tl rho S) (hv : 0 ≤ v.toInt ∧ v.toInt ≤ rho.1) : CI x c tl rho (pI S 705 a v) := by
  obtain ⟨h0, h1, h2, h3, h4, h5, h6, h7, h8, h9, h10, h11, h12⟩ := h
  exact ⟨h0, h1, h2, h3, h4, h5, h6, h7, h8, fun b k => up2b (P := fun z => 0 ≤ z.toInt ∧ z.toInt ≤ rho.1) hv (h9 b k), h10, h11, h12⟩
theorem CI.noinfo (h : CI x c tl rho S) : CI x c tl (rho.1, 9) S := by
  obtain ⟨h0, h1, h2, h3, h4, h5, h6, h7, h8, h9, h10, h11, h12⟩ := h
  exact ⟨h0, h1, h2, h3, h4, h5, h6, h7, h8, h9, h10, h11, fun b t hm => absurd hm (by show ¬ (9 ≤ 8); decide)⟩
theorem CI.tab {m t r : Nat} (h : CI x c tl (r, 9) S) (ha : mK S a = 12) (ht : mR S 1103 a = some t) (g1 : ∀ i, i < m → aR S t i ≠ none) (g2 : m < 8 → (mI S 1111 a).toInt = m) : CI x c tl (r, m) S := by
  obtain ⟨h0, h1, h2, h3, h4, h5, h6, h7, h8, h9, h10, h11, h12⟩ := h
  refine ⟨h0, h1, h2, h3, h4, h5, h6, h7, h8, h9, h10, h11, fun b t' _ hb ht' => ?_⟩
  have e : b = a := h11 b a hb ha
  subst e
  have et : t' = t := Option.some.inj (ht'.symm.trans ht)
  subst et
  exact ⟨g1, g2⟩
end Puts
theorem mulC {a k : Int32} {n : Int} (hk : k.toInt = n) (h1 : -2147483648 ≤ a.toInt * n) (h2 : a.toInt * n < 2147483648) : (a * k).toInt = a.toInt * n := by rw [← hk] at h1 h2 ⊢; exact mulI h1 h2
theorem mulD {a k : Int32} {n : Int} (hk : k.toInt = n) (h1 : -2147483648 ≤ a.toInt * n) (h2 : a.toInt * n < 2147483648) : (k * a).toInt = a.toInt * n := by rw [Int32.mul_comm]; exact mulC hk h1 h2
theorem andI {a b : Int32} (h : 0 ≤ a.toInt) : 0 ≤ (a &&& b).toInt ∧ (a &&& b).toInt ≤ a.toInt := by
  have h1 : (a &&& b).toBitVec.toNat ≤ a.toBitVec.toNat := by
    rw [Int32.toBitVec_and, BitVec.toNat_and]
    exact Nat.and_le_left
  have ha : a.toInt = a.toBitVec.toInt := rfl
  have hb : (a &&& b).toInt = (a &&& b).toBitVec.toInt := rfl
  have h2 := BitVec.toInt_eq_toNat_cond a.toBitVec
  have h3 := BitVec.toInt_eq_toNat_cond (a &&& b).toBitVec
  have l1 := a.toBitVec.isLt
  have l2 := (a &&& b).toBitVec.isLt
  split at h2 <;> split at h3 <;> omega
