/-- kinds stay -/
def mX (S S1 : Mem) : Prop := ∀ a, mK S a ≠ 0 → mK S1 a = mK S a
abbrev xO (x : Nat → Nat → Prop) (a : Nat) : Nat → Nat → Prop := fun b g => x b g ∨ b = a
abbrev xl (x : Nat → Nat → Prop) (a : Nat) (L : List Nat) : Nat → Nat → Prop := fun b g => x b g ∨ (b = a ∧ g ∈ L)
section Grow
variable {x : Nat → Nat → Prop} {c : Nat} {tl : Int} {rho : Nat × Nat} {S S1 S2 : Mem} {a : Nat}
theorem mX.rf : mX S S := fun _ _ => rfl
theorem mX.of (h : mK S1 = mK S) : mX S S1 := fun a _ => by rw [h]
theorem mX.trans (h : mX S S1) (g : mX S1 S2) : mX S S2 := fun a ha => (g a (by rw [h a ha]; exact ha)).trans (h a ha)
theorem mX.O {ci : Nat} (ha : mK S a = 0) : mX S (nO S a ci) := fun b hb => by
  have e : b ≠ a := fun z => hb (z ▸ ha)
  exact va_up_ne _ _ e
theorem mX.A {t n : Nat} (ha : mK S a = 0) : mX S (nA S a t n) := fun b hb => by
  have e : b ≠ a := fun z => hb (z ▸ ha)
  exact va_up_ne _ _ e
theorem mX.k {n q : Nat} (h : mX S S1) (hk : mK S q = n + 1) : mK S1 q = n + 1 := (h q (by rw [hk]; exact Nat.succ_ne_zero n)).trans hk
theorem kO {ci : Nat} : mK (nO S a ci) a = ci + 1 := va_up_self _ _ _
theorem kA {t n : Nat} : mK (nA S a t n) a = t + 21 := va_up_self _ _ _
theorem nAn {t n : Nat} : mN (nA S a t n) a = n := va_up_self _ _ _
theorem fr_un (h : TI x S) (ha : mK S a = 0) {b ci k : Nat} (hb : mK S b = ci + 1) (hc : ci < 12) (hk : k < 20) (hz : (fty (100 * ci + k)).2.1 ≠ 0) : mR S (100 * ci + k) b ≠ some a := fun e => hz (((h.1 b ci k hb hc hk hz).2 a e).1.symm.trans ha)
theorem TI.newO {ci : Nat} (h : TI x S) (ha : mK S a = 0) (hc13 : ci < 13) : TI (xO x a) (nO S a ci) := by
  refine ⟨fun b cj k hb hc hk hz => ?_, fun b t i q hb ht hq => ?_⟩
  · by_cases e : b = a
    · subst e
      have hv : mR (nO S b ci) (100 * cj + k) b = none := by simp [mR, cl2]
      rw [hv]
      exact ⟨fun hx => absurd (Or.inr rfl) hx, fun q hq => by cases hq⟩
    · have hb' : mK S b = cj + 1 := (va_up_ne _ _ e).symm.trans hb
      obtain ⟨h1, h2⟩ := h.1 b cj k hb' hc hk hz
      have hv : mR (nO S a ci) (100 * cj + k) b = mR S (100 * cj + k) b := by simp [mR, cl2, e]
      rw [hv]
      refine ⟨fun hx => h1 (fun z => hx (Or.inl z)), fun q hq => ?_⟩
      obtain ⟨g1, g2⟩ := h2 q hq
      have eq : q ≠ a := fun z => hz (g1.symm.trans (z ▸ ha))
      exact ⟨(va_up_ne _ _ eq).trans g1, g2⟩
  · have e : b ≠ a := fun z => by
      subst z
      have hk9 : ci + 1 = t + 25 := (kO (S := S) (a := b) (ci := ci)).symm.trans hb
      omega
    have hb' : mK S b = t + 25 := (va_up_ne _ _ e).symm.trans hb
    have g := h.2 b t i q hb' ht hq
    have eq : q ≠ a := fun z => by
      rw [z, ha] at g
      match t, ht with
      | 0, _ => cases g
      | 1, _ => cases g
      | 2, _ => cases g
      | 3, _ => cases g
    exact (va_up_ne _ _ eq).trans g
theorem ety_ne {t : Nat} (ht : t < 4) : ety t ≠ 0 := by
  match t, ht with
  | 0, _ => decide
  | 1, _ => decide
  | 2, _ => decide
  | 3, _ => decide
theorem TI.newA {t n : Nat} (h : TI x S) (ha : mK S a = 0) (ht8 : t < 8) : TI x (nA S a t n) := by
  refine ⟨fun b cj k hb hc hk hz => ?_, fun b t' i q hb ht hq => ?_⟩
  · have e : b ≠ a := fun z => by
      subst z
      have hk9 : t + 21 = cj + 1 := (kA (S := S) (a := b) (t := t) (n := n)).symm.trans hb
      omega
    have hb' : mK S b = cj + 1 := (va_up_ne _ _ e).symm.trans hb
    obtain ⟨h1, h2⟩ := h.1 b cj k hb' hc hk hz
    refine ⟨h1, fun q hq => ?_⟩
    obtain ⟨g1, g2⟩ := h2 q hq
    have eq : q ≠ a := fun z => hz (g1.symm.trans (z ▸ ha))
    exact ⟨(va_up_ne _ _ eq).trans g1, fun hl => (va_up_ne _ _ eq).trans (g2 hl)⟩
  · by_cases e : b = a
    · subst e
      have hv : aR (nA S b t n) b i = none := by simp [aR, cl1]
      rw [hv] at hq
      cases hq
    · have hb' : mK S b = t' + 25 := (va_up_ne _ _ e).symm.trans hb
      have hv : aR (nA S a t n) b i = aR S b i := by simp [aR, cl1, e]
      rw [hv] at hq
      have g := h.2 b t' i q hb' ht hq
      have eq : q ≠ a := fun z => ety_ne ht (g.symm.trans (z ▸ ha))
      exact (va_up_ne _ _ eq).trans g
theorem kO_ne {ci n b : Nat} (hb : mK (nO S a ci) b = n) (hn : n ≠ ci + 1) : b ≠ a ∧ mK S b = n := by
  have e : b ≠ a := fun z => by
    subst z
    exact hn (hb.symm.trans kO)
  exact ⟨e, (va_up_ne _ _ e).symm.trans hb⟩
theorem kA_ne {t m n b : Nat} (hb : mK (nA S a t m) b = n) (hn : n ≠ t + 21) : b ≠ a ∧ mK S b = n := by
  have e : b ≠ a := fun z => by
    subst z
    exact hn (hb.symm.trans kA)
  exact ⟨e, (va_up_ne _ _ e).symm.trans hb⟩
theorem cl2_ne {α : Type} {F : Nat → Nat → α} {f b : Nat} {v : α} (h : b ≠ a) : cl2 F a v f b = F f b := by simp [cl2, h]
theorem cl2_eq {α : Type} {F : Nat → Nat → α} {f : Nat} {v : α} : cl2 F a v f a = v := by simp [cl2]
theorem cl2P {F : Nat → Nat → Int32} {f b : Nat} {P : Int32 → Prop} (h0 : P 0) (h : b ≠ a → P (F f b)) : P (cl2 F a 0 f b) := by
  by_cases e : b = a
  · subst e; rw [cl2_eq]; exact h0
  · rw [cl2_ne e]; exact h e
theorem NI.newO {ci : Nat} (h : NI c tl rho S) (hT : TI x S) (ha : mK S a = 0) (h9 : ci ≠ 9) (hb9 : ci ≠ 11) : NI c tl rho (nO S a ci) := by
  obtain ⟨h1, h2, h3, h4, h5, h6, h7, h8, h9', h10, h11, h12⟩ := h
  have old : ∀ {b n : Nat}, b ≠ a → mK (nO S a ci) b = n → mK S b = n := fun e hb => (va_up_ne _ _ e).symm.trans hb
  refine ⟨fun b k => ?_, fun b k => ?_, fun b q k e => ?_, fun b q k e => ?_, fun b k => ?_, fun b k => ?_, h7, fun b k => ?_, fun b k => ?_, fun b d k k' => ?_, fun b d k k' => ?_, fun b t hm k e => ?_⟩
  · exact cl2P (P := fun z => 0 ≤ z.toInt ∧ z.toInt ≤ 60) (by decide) (fun e => h1 b (old e k))
  · exact ⟨cl2P (P := fun z => 0 ≤ z.toInt) (by decide) (fun e => (h2 b (old e k)).1), cl2P (P := fun z => z.toInt < 60) (by decide) (fun e => (h2 b (old e k)).2.1), cl2P (P := fun z => 0 ≤ z.toInt) (by decide) (fun e => (h2 b (old e k)).2.2.1), cl2P (P := fun z => z.toInt ≤ c) (by show (0 : Int32).toInt ≤ _; rw [show (0 : Int32).toInt = 0 from rfl]; omega) (fun e => (h2 b (old e k)).2.2.2)⟩
  · by_cases eb : b = a
    · subst eb
      have hv : mR (nO S b ci) 503 b = none := cl2_eq
      rw [hv] at e
      cases e
    · have hk := old eb k
      have hv : mR (nO S a ci) 503 b = mR S 503 b := cl2_ne eb
      rw [hv] at e
      have eq : q ≠ a := fun z => fr_un (ci := 5) (k := 3) hT ha hk (by decide) (by decide) (by decide) (z ▸ e)
      show Int32.toInt (cl2 _ _ _ _ _) < Int32.toInt (cl2 _ _ _ _ _)
      rw [cl2_ne eq, cl2_ne eb]
      exact h3 b q hk e
  · by_cases eb : b = a
    · subst eb
      have hv : mR (nO S b ci) 504 b = none := cl2_eq
      rw [hv] at e
      cases e
    · have hk := old eb k
      have hv : mR (nO S a ci) 504 b = mR S 504 b := cl2_ne eb
      rw [hv] at e
      have eq : q ≠ a := fun z => fr_un (ci := 5) (k := 4) hT ha hk (by decide) (by decide) (by decide) (z ▸ e)
      show Int32.toInt (cl2 _ _ _ _ _) < Int32.toInt (cl2 _ _ _ _ _)
      rw [cl2_ne eq, cl2_ne eb]
      exact h4 b q hk e
  · exact cl2P (P := fun z => 0 ≤ z.toInt ∧ z.toInt ≤ 6) (by decide) (fun e => h5 b (old e k))
  · obtain ⟨e, hk⟩ := kO_ne k (by omega)
    show Int32.toInt (cl2 _ _ _ _ _) = tl
    rw [cl2_ne e]
    exact h6 b hk
  · exact ⟨cl2P (P := fun z => 0 ≤ z.toInt) (by decide) (fun e => (h8 b (old e k)).1), cl2P (P := fun z => z.toInt ≤ 20) (by decide) (fun e => (h8 b (old e k)).2.1), cl2P (P := fun z => 0 ≤ z.toInt) (by decide) (fun e => (h8 b (old e k)).2.2.1), cl2P (P := fun z => z.toInt < 8) (by decide) (fun e => (h8 b (old e k)).2.2.2)⟩
  · exact ⟨cl2P (P := fun z => 0 ≤ z.toInt) (by decide) (fun e => (h9' b (old e k)).1), cl2P (P := fun z => z.toInt ≤ rho.1) (by show (0 : Int32).toInt ≤ _; rw [show (0 : Int32).toInt = 0 from rfl]; omega) (fun e => (h9' b (old e k)).2)⟩
  · exact h10 b d (kO_ne k (by omega)).2 (kO_ne k' (by omega)).2
  · exact h11 b d (kO_ne k (by omega)).2 (kO_ne k' (by omega)).2
  · obtain ⟨eb, hk⟩ := kO_ne k (by omega)
    have hv : mR (nO S a ci) 1103 b = mR S 1103 b := cl2_ne eb
    rw [hv] at e
    obtain ⟨r1, r2⟩ := h12 b t hm hk e
    refine ⟨r1, fun hm8 => ?_⟩
    show Int32.toInt (cl2 _ _ _ _ _) = _
    rw [cl2_ne eb]
    exact r2 hm8
theorem NI.newA {t n : Nat} (h : NI c tl rho S) (hT : TI x S) (ha : mK S a = 0) : NI c tl rho (nA S a t n) := by
  obtain ⟨h1, h2, h3, h4, h5, h6, h7, h8, h9, h10, h11, h12⟩ := h
  have old : ∀ {b m : Nat}, m < 20 → mK (nA S a t n) b = m → mK S b = m := fun hm hb => (kA_ne hb (by omega)).2
  exact ⟨fun b k => h1 b (old (by decide) k), fun b k => h2 b (old (by decide) k), fun b q k e => h3 b q (old (by decide) k) e, fun b q k e => h4 b q (old (by decide) k) e, fun b k => h5 b (old (by decide) k), fun b k => h6 b (old (by decide) k), h7, fun b k => h8 b (old (by decide) k), fun b k => h9 b (old (by decide) k), fun b d k k' => h10 b d (old (by decide) k) (old (by decide) k'), fun b d k k' => h11 b d (old (by decide) k) (old (by decide) k'), fun b t' hm k e => by
    have hk := old (by decide) k
    have kt : mK S t' = 27 := TI.opt hT (ci := 11) (k := 3) hk (by decide) (by decide) (by decide) t' e
    have et : t' ≠ a := fun z => by rw [z, ha] at kt; cases kt
    obtain ⟨r1, r2⟩ := h12 b t' hm hk e
    refine ⟨fun j hj => ?_, r2⟩
    show cl1 (aR S) a none t' j ≠ none
    rw [show cl1 (aR S) a none t' j = aR S t' j from by simp [cl1, et]]
    exact r1 j hj⟩
theorem CI.newO {ci : Nat} (h : CI x c tl rho S) (ha : mK S a = 0) (hc : ci < 13) (h9 : ci ≠ 9) (hb9 : ci ≠ 11 := by decide) : CI (xO x a) c tl rho (nO S a ci) := ⟨h.1.newO ha hc, h.2.newO h.1 ha h9 hb9⟩
theorem CI.newA {t n : Nat} (h : CI x c tl rho S) (ha : mK S a = 0) (ht : t < 8) : CI x c tl rho (nA S a t n) := ⟨h.1.newA ha ht, h.2.newA h.1 ha⟩
/-- of a new object: what mustn't be null once it is built -/
theorem CI.todo {ci : Nat} {L : List Nat} (h : CI (xO x a) c tl rho S) (hk : mK S a = ci + 1) (hL : ∀ k, k < 20 → (fty (100 * ci + k)).1 = 1 → 100 * ci + k ∈ L) : CI (xl x a L) c tl rho S := by
  refine ⟨⟨fun b cj k hbk hc hk2 hz => ?_, h.1.2⟩, h.2⟩
  obtain ⟨h1, h2⟩ := h.1.1 b cj k hbk hc hk2 hz
  refine ⟨fun hx hn => ?_, h2⟩
  refine h1 (fun z => ?_) hn
  rcases z with z | z
  · exact hx (Or.inl z)
  · subst z
    have hcj : cj = ci := by omega
    subst hcj
    exact hx (Or.inr ⟨rfl, hL k hk2 hn⟩)
theorem CI.fill {ci k q : Nat} {L L' : List Nat} (h : CI (xl x a L) c tl rho S) (hk : mK S a = ci + 1) (hq : mK S q = (fty (100 * ci + k)).2.1) (hl : (fty (100 * ci + k)).2.2 ≠ 0 → mN S q = (fty (100 * ci + k)).2.2) (hk2 : k < 20) (h3 : 503 ≠ 100 * ci + k) (h4 : 504 ≠ 100 * ci + k) (hL : ∀ g ∈ L, g = 100 * ci + k ∨ g ∈ L') (h5 : 1103 ≠ 100 * ci + k ∨ 8 < rho.2 := by first | exact Or.inl (by decide) | exact Or.inr (by assumption)) : CI (xl x a L') c tl rho (pR S (100 * ci + k) a (some q)) := by
  have h1 := CI.putR (ci := ci) (k := k) (o := some q) h hk (fun z e => by cases e; exact ⟨hq, hl⟩) (Or.inr (by simp)) hk2 h3 h4 h5
  refine ⟨⟨fun b cj j hbk hc hj hz => ?_, h1.1.2⟩, h1.2⟩
  obtain ⟨g1, g2⟩ := h1.1.1 b cj j hbk hc hj hz
  refine ⟨fun hx hn => ?_, g2⟩
  by_cases e : 100 * cj + j = 100 * ci + k ∧ b = a
  · obtain ⟨e1, rfl⟩ := e
    exact ⟨q, by rw [e1]; exact up2_eq⟩
  · refine g1 (fun z => ?_) hn
    rcases z with z | ⟨z1, z2⟩
    · exact hx (Or.inl z)
    · rcases hL _ z2 with z3 | z3
      · exact e ⟨z3, z1⟩
      · exact hx (Or.inr ⟨z1, z3⟩)
theorem CI.full (h : CI (xl x a []) c tl rho S) : CI x c tl rho S := by
  refine ⟨⟨fun b cj k hbk hc hk2 hz => ?_, h.1.2⟩, h.2⟩
  obtain ⟨h1, h2⟩ := h.1.1 b cj k hbk hc hk2 hz
  exact ⟨fun hx hn => h1 (fun z => z.elim hx (fun w => by simp at w)) hn, h2⟩
/-- a part's place: parent, left, number together -/
theorem CI.born {o o2 : Option Nat} {v : Int32} (h : CI x c tl rho S) (hk : mK S a = 6) (hu : ∀ b, mK S b = 6 → mR S 503 b ≠ some a ∧ mR S 504 b ≠ some a) (hv : 0 ≤ v.toInt ∧ v.toInt < 60) (ho : ∀ q, o = some q → mK S q = 6 ∧ (mI S 501 q).toInt < v.toInt ∧ q ≠ a) (ho2 : ∀ q, o2 = some q → mK S q = 6 ∧ (mI S 501 q).toInt < v.toInt ∧ q ≠ a) :
    CI x c tl rho (pI (pR (pR S 503 a o) 504 a o2) 501 a v) := by
  have t1 : TI x (pR S 503 a o) := TI.putR (ci := 5) (k := 3) h.1 hk (fun q e => ⟨(ho q e).1, fun z => absurd rfl z⟩) (Or.inl rfl) (by decide)
  have t2 : TI x (pR (pR S 503 a o) 504 a o2) := TI.putR (ci := 5) (k := 4) t1 hk (fun q e => ⟨(ho2 q e).1, fun z => absurd rfl z⟩) (Or.inl rfl) (by decide)
  obtain ⟨h0, h1, h2, h3, h4, h5, h6, h7, h8, h9, h10, h11, h12⟩ := h
  have n1 : ∀ q, q ≠ a → up2 (mI S) 501 a v 501 q = mI S 501 q := fun q e => up2_ne (fun z => e z.2)
  have n2 : up2 (mI S) 501 a v 501 a = v := up2_eq
  have r3 : ∀ b, mR (pR (pR S 503 a o) 504 a o2) 503 b = up2 (mR S) 503 a o 503 b := fun b => by
    show up2 (up2 (mR S) 503 a o) 504 a o2 503 b = _
    rw [up2g (by decide)]
  refine ⟨t2, h1, fun b k => ?_, fun b q k e => ?_, fun b q k e => ?_, h5, h6, h7, h8, h9, h10, h11, h12⟩
  · by_cases e : b = a
    · subst e
      show 0 ≤ (up2 (mI S) 501 b v 501 b).toInt ∧ (up2 (mI S) 501 b v 501 b).toInt < 60 ∧ 0 ≤ (up2 (mI S) 501 b v 509 b).toInt ∧ (up2 (mI S) 501 b v 509 b).toInt ≤ c
      rw [n2, up2g (by decide)]
      exact ⟨hv.1, hv.2, (h2 b k).2.2⟩
    · show 0 ≤ (up2 (mI S) 501 a v 501 b).toInt ∧ (up2 (mI S) 501 a v 501 b).toInt < 60 ∧ 0 ≤ (up2 (mI S) 501 a v 509 b).toInt ∧ (up2 (mI S) 501 a v 509 b).toInt ≤ c
      rw [n1 b e, up2g (by decide)]
      exact h2 b k
  · show (up2 (mI S) 501 a v 501 q).toInt < (up2 (mI S) 501 a v 501 b).toInt
    have e' : up2 (mR S) 503 a o 503 b = some q := (r3 b).symm.trans e
    by_cases eb : b = a
    · subst eb
      rw [up2_eq] at e'
      obtain ⟨g1, g2, g3⟩ := ho q e'
      rw [n1 q g3, n2]; exact g2
    · rw [up2_ne (fun z => eb z.2)] at e'
      have eq : q ≠ a := fun z => (hu b k).1 (z ▸ e')
      rw [n1 q eq, n1 b eb]
      exact h3 b q k e'
  · show (up2 (mI S) 501 a v 501 q).toInt < (up2 (mI S) 501 a v 501 b).toInt
    have e' : up2 (up2 (mR S) 503 a o) 504 a o2 504 b = some q := e
    by_cases eb : b = a
    · subst eb
      rw [up2_eq] at e'
      obtain ⟨g1, g2, g3⟩ := ho2 q e'
      rw [n1 q g3, n2]; exact g2
    · rw [up2_ne (fun z => eb z.2), up2g (by decide)] at e'
      have eq : q ≠ a := fun z => (hu b k).2 (z ▸ e')
      rw [n1 q eq, n1 b eb]
      exact h4 b q k e'
/-- the first tape -/
theorem CI.tape (h : CI x c tl rho S) (ha : mK S a = 0) (hno : ∀ b, mK S b ≠ 10) (ht : tl = 0) : CI (xO x a) c tl rho (nO S a 9) := by
  refine ⟨h.1.newO ha (by decide), ?_⟩
  obtain ⟨h1, h2, h3, h4, h5, h6, h7, h8, h9, h10, h11, h12⟩ := h.2
  have old : ∀ {b n : Nat}, n ≠ 10 → mK (nO S a 9) b = n → b ≠ a ∧ mK S b = n := fun hn hb => kO_ne hb hn
  refine ⟨fun b k => ?_, fun b k => ?_, fun b q k e => ?_, fun b q k e => ?_, fun b k => ?_, fun b k => ?_, h7, fun b k => ?_, fun b k => ?_, fun b d k k' => ?_, fun b d k k' => ?_, fun b t hm k e => ?_⟩
  · exact cl2P (P := fun z => 0 ≤ z.toInt ∧ z.toInt ≤ 60) (by decide) (fun e => h1 b (old (by decide) k).2)
  · obtain ⟨e, hk⟩ := old (by decide) k
    show 0 ≤ Int32.toInt (cl2 _ _ _ _ _) ∧ Int32.toInt (cl2 _ _ _ _ _) < 60 ∧ 0 ≤ Int32.toInt (cl2 _ _ _ _ _) ∧ Int32.toInt (cl2 _ _ _ _ _) ≤ c
    rw [cl2_ne e, cl2_ne e]
    exact h2 b hk
  · obtain ⟨eb, hk⟩ := old (by decide) k
    have hv : mR (nO S a 9) 503 b = mR S 503 b := cl2_ne eb
    rw [hv] at e
    have eq : q ≠ a := fun z => fr_un (ci := 5) (k := 3) h.1 ha hk (by decide) (by decide) (by decide) (z ▸ e)
    show Int32.toInt (cl2 _ _ _ _ _) < Int32.toInt (cl2 _ _ _ _ _)
    rw [cl2_ne eq, cl2_ne eb]
    exact h3 b q hk e
  · obtain ⟨eb, hk⟩ := old (by decide) k
    have hv : mR (nO S a 9) 504 b = mR S 504 b := cl2_ne eb
    rw [hv] at e
    have eq : q ≠ a := fun z => fr_un (ci := 5) (k := 4) h.1 ha hk (by decide) (by decide) (by decide) (z ▸ e)
    show Int32.toInt (cl2 _ _ _ _ _) < Int32.toInt (cl2 _ _ _ _ _)
    rw [cl2_ne eq, cl2_ne eb]
    exact h4 b q hk e
  · exact cl2P (P := fun z => 0 ≤ z.toInt ∧ z.toInt ≤ 6) (by decide) (fun e => h5 b (old (by decide) k).2)
  · exact cl2P (P := fun z => z.toInt = tl) (by rw [ht]; rfl) (fun e => absurd ((va_up_ne _ _ e).symm.trans k) (hno b))
  · obtain ⟨e, hk⟩ := old (by decide) k
    show 0 ≤ Int32.toInt (cl2 _ _ _ _ _) ∧ Int32.toInt (cl2 _ _ _ _ _) ≤ 20 ∧ 0 ≤ Int32.toInt (cl2 _ _ _ _ _) ∧ Int32.toInt (cl2 _ _ _ _ _) < 8
    rw [cl2_ne e, cl2_ne e]
    exact h8 b hk
  · obtain ⟨e, hk⟩ := old (by decide) k
    show 0 ≤ Int32.toInt (cl2 _ _ _ _ _) ∧ Int32.toInt (cl2 _ _ _ _ _) ≤ rho.1
    rw [cl2_ne e]
    exact h9 b hk
  · have e1 : b = a := Classical.byContradiction fun e => hno b ((va_up_ne _ _ e).symm.trans k)
    have e2 : d = a := Classical.byContradiction fun e => hno d ((va_up_ne _ _ e).symm.trans k')
    rw [e1, e2]
  · exact h11 b d (old (by decide) k).2 (old (by decide) k').2
  · obtain ⟨eb, hk⟩ := old (by decide) k
    have hv : mR (nO S a 9) 1103 b = mR S 1103 b := cl2_ne eb
    rw [hv] at e
    obtain ⟨r1, r2⟩ := h12 b t hm hk e
    refine ⟨r1, fun hm8 => ?_⟩
    show Int32.toInt (cl2 _ _ _ _ _) = _
    rw [cl2_ne eb]
    exact r2 hm8
end Grow
section Met2
variable {l : Launch} {own : String} {D : gD} {H0 : gB} {S : Mem} {kc ns : Nat} {α : Type} {inj : α → Option Value} {post : α → Mem → Nat → Nat → Prop} {y : MethodName} {b : ByteArray} {ml : Nat} {ret : Option FieldType} {rm : Room}
/-- the same, with the heap at the entry in hand -/
theorem r_metH {av : List Value} (hy : plainName y.cls = true) (hown : y.cls = own) (hlen : (lg_sl av).length ≤ ml)
    (body : ∀ (p : Program) (e : Env) (s : State) (m : MethodId) (args : Array Value) (below : List Frame) (meth : Method) (c : Code), Cx D p s m args c b ml own → meth.sig.returnType = ret → meth.locks = false → meth.name = y.name → mH D H0 S kc ns s.heap [] → ∀ (H : Heap) (ls : Array Slot), lv_has ls ml (lv_args 0 av) → mH D H0 S kc ns H [] → W p l e rm s m args below meth c H [] 0 0 (MQ below (mQ D H0 inj post) args s rm.cells rm.slots (mF H0)) (F0 m 0 ls [])) :
    Met l y (wsU y b ml ret) rm (mP D H0 S kc ns av) (mQ D H0 inj post) rm.cells rm.slots (mF H0) := by
  refine Met.ofW (cc := b) (maxL := ml) (ret := ret) hy rfl ?_
  intro p e s m args below meth c s₁ B hml hv
  obtain ⟨rfl, hM, hK, hN⟩ := hv
  have hts0 := atoms_spec (ws := wsU y b ml ret) B.pre
  rw [lg_entry_eq]
  exact body p e s m _ below meth c ⟨B.exec, B.bytes, hml, by rw [← hown]; exact findClass_of_methodNamed B.named, fun w h => hts0 w (List.mem_cons_of_mem _ h), hK, hN⟩ B.returns B.notSynchronized (name_of_methodNamed B.named B.method).1 hM s.heap _ (lv_entry av hlen) hM
end Met2
/-- what the reader holds lies on the page that is being read -/
def RD (S : Mem) (a pg : Nat) : Prop := (∀ q, mR S 604 a = some q → (mI S 501 q).toInt < (mI S 401 pg).toInt) ∧ (∀ q, mR S 605 a = some q → (mI S 501 q).toInt < (mI S 401 pg).toInt)
theorem RD.to {S S1 : Mem} {a pg : Nat} (h : RD S a pg) (h1 : mR S1 604 a = mR S 604 a) (h2 : mR S1 605 a = mR S 605 a) (h3 : mI S1 501 = mI S 501) (h4 : mI S1 401 = mI S 401) : RD S1 a pg := by
  unfold RD
  rw [h1, h2, h3, h4]
  exact h
