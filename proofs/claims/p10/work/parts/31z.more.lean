/-! ===== the reference's reading page ===== -/
abbrev frr (L : List Nat) (R R1 : RS) : Prop := fr L R R1
section RRs
variable {R R1 : RS} {L : List Nat}
theorem u2n {α : Type} {F : Nat → Nat → α} {k i j : Nat} {v : α} (h : j ≠ i) : up2 F k i v k j = F k j := if_neg (fun z => h z.2)
theorem u2e {α : Type} {F : Nat → Nat → α} {k i : Nat} {v : α} : up2 F k i v k i = v := if_pos ⟨rfl, rfl⟩
theorem PT.same {g p : Nat} (h : PT R g p) (e1 : rA R1 11 (60 * g + p) = rA R 11 (60 * g + p)) (e2 : ∀ q, q ≤ p → rA R1 14 (60 * g + q) = rA R 14 (60 * g + q)) : PT R1 g p := by
  unfold PT at h ⊢
  obtain ⟨h1, h2, h3⟩ := h
  rw [e1, e2 p (Nat.le_refl _)]
  refine ⟨h1, h2, fun h4 => ?_⟩
  obtain ⟨h5, h6⟩ := h3 h4
  rw [e2 _ (by omega)]
  exact ⟨h5, h6⟩
theorem PQ.same {g p : Nat} (h : PQ R g p) (e1 : rA R1 12 (60 * g + p) = rA R 12 (60 * g + p)) (e2 : rA R1 10 g = rA R 10 g) : PQ R1 g p := by
  unfold PQ at h ⊢
  rw [e1, e2]
  exact h
theorem RI.pages (h : RI R) (hm : ∀ g, 0 ≤ (rA R1 10 g).toInt ∧ (rA R1 10 g).toInt ≤ 60) (hg : ∀ g, g < 30 → PG R1 g) (hw : ∀ i, (rA R1 15 i).toInt ≤ 16)
    (h35 : ∀ k : Nat, (k : Int) < (rI R 36).toInt → rA R1 10 (4 + k) = rA R 10 (4 + k)) (h46 : ∀ k : Nat, (k : Int) < (rI R 51).toInt → rA R1 10 (10 + k) = rA R 10 (10 + k))
    (f : frr L R R1) (hL : ∀ f ∈ [2, 3, 35, 36, 41, 46, 48, 49, 51], f ∉ L) : RI R1 := by
  have d : ∀ k, k ∈ [2, 3, 35, 36, 41, 46, 48, 49, 51] → rA R1 k = rA R k := fun k hk => f.gA k (hL k hk)
  have q : ∀ k, k ∈ [2, 3, 35, 36, 41, 46, 48, 49, 51] → rI R1 k = rI R k := fun k hk => f.gI k (hL k hk)
  obtain ⟨h1, h2, h3, h4, h5, h6, h7, h8, h9, h10, h11⟩ := h
  unfold RI
  rw [d 35 (by decide), d 41 (by decide), d 46 (by decide), d 48 (by decide), d 49 (by decide), q 2 (by decide), q 3 (by decide), q 36 (by decide), q 51 (by decide)]
  exact ⟨hm, hg, hw, h4, fun k hk => by rw [h35 k hk]; exact h5 k hk, h6, fun k hk hz => by rw [h46 k hk]; exact h7 k hk hz, h8, h9, h10, h11⟩
theorem RI.st11 {i : Nat} {v : Int32} (h : RI R) (hi : 1800 ≤ i) : RI (uA R 11 i v) :=
  h.pages (L := [11]) h.1 (fun g hg p hp => by
    have hm := h.many g
    have hp : (p : Int) < (rA R 10 g).toInt := hp
    obtain ⟨h1, h2⟩ := h.pg hg p hp
    exact ⟨h1.same (u2n (by omega)) (fun _ _ => rfl), h2.same rfl rfl⟩) h.2.2.1 (fun _ _ => rfl) (fun _ _ => rfl) (fr.rf.A (by decide)) (by decide)
theorem RI.st14 {i : Nat} {v : Int32} (h : RI R) (hi : 1800 ≤ i) : RI (uA R 14 i v) :=
  h.pages (L := [14]) h.1 (fun g hg p hp => by
    have hm := h.many g
    have hp : (p : Int) < (rA R 10 g).toInt := hp
    obtain ⟨h1, h2⟩ := h.pg hg p hp
    exact ⟨h1.same rfl (fun q hq => u2n (by omega)), h2.same rfl rfl⟩) h.2.2.1 (fun _ _ => rfl) (fun _ _ => rfl) (fr.rf.A (by decide)) (by decide)
theorem RI.st12 {i : Nat} {v : Int32} (h : RI R) (hi : 1800 ≤ i) : RI (uA R 12 i v) :=
  h.pages (L := [12]) h.1 (fun g hg p hp => by
    have hm := h.many g
    have hp : (p : Int) < (rA R 10 g).toInt := hp
    obtain ⟨h1, h2⟩ := h.pg hg p hp
    exact ⟨h1.same rfl (fun _ _ => rfl), h2.same (u2n (by omega)) rfl⟩) h.2.2.1 (fun _ _ => rfl) (fun _ _ => rfl) (fr.rf.A (by decide)) (by decide)
theorem RI.st15 {i : Nat} {v : Int32} (h : RI R) (hv : v.toInt ≤ 16) : RI (uA R 15 i v) :=
  h.pages (L := [15]) h.1 (fun g hg p hp => by
    obtain ⟨h1, h2⟩ := h.pg hg p hp
    exact ⟨h1.same rfl (fun _ _ => rfl), h2.same rfl rfl⟩) (fun j => by
      by_cases e : j = i
      · subst e; exact (congrArg Int32.toInt (u2e (F := R.2.2.1) (k := 15) (i := j) (v := v))).symm ▸ hv
      · exact (congrArg Int32.toInt (u2n (F := R.2.2.1) (k := 15) (v := v) e)).symm ▸ h.2.2.1 j) (fun _ _ => rfl) (fun _ _ => rfl) (fr.rf.A (by decide)) (by decide)
theorem RI.st10 {v : Int32} (h : RI R) (hv : 0 ≤ v.toInt ∧ v.toInt ≤ 60) : RI (uA R 10 30 v) := by
  have en : ∀ g, g ≠ 30 → rA (uA R 10 30 v) 10 g = rA R 10 g := fun g hg => u2n hg
  have h4 := h.samples
  have h6 := h.acts
  refine h.pages (L := [10]) (fun g => ?_) (fun g hg p hp => ?_) h.2.2.1 (fun k hk => en _ (by omega)) (fun k hk => en _ (by omega)) (fr.rf.A (by decide)) (by decide)
  · by_cases e : g = 30
    · subst e; exact (congrArg Int32.toInt (u2e (F := R.2.2.1) (k := 10) (i := 30) (v := v))).symm ▸ hv
    · rw [en g e]; exact h.many g
  · rw [en g (by omega)] at hp
    obtain ⟨h1, h2⟩ := h.pg hg p hp
    exact ⟨h1.same rfl (fun _ _ => rfl), h2.same rfl (en g (by omega))⟩
def RR (R : RS) : Prop := (0 ≤ (rI R 22).toInt ∧ (rI R 22).toInt ≤ 12) ∧ (∀ p : Nat, (p : Int) < (rA R 10 30).toInt → PT R 30 p) ∧
  (∀ j : Nat, (j : Int) < (rI R 22).toInt → (0 ≤ (rA R 21 j).toInt ∧ (rA R 21 j).toInt < (rA R 10 30).toInt) ∧ (rA R 14 (1800 + (rA R 21 j).toInt.toNat)).toInt = j)
theorem RR.fr (h : RR R) (f : frr L R R1) (hL : ∀ f ∈ [10, 11, 14, 21, 22], f ∉ L) : RR R1 := by
  have d : ∀ k, k ∈ [10, 11, 14, 21, 22] → rA R1 k = rA R k := fun k hk => f.gA k (hL k hk)
  have q : ∀ k, k ∈ [10, 11, 14, 21, 22] → rI R1 k = rI R k := fun k hk => f.gI k (hL k hk)
  obtain ⟨h1, h2, h3⟩ := h
  unfold RR
  rw [d 10 (by decide), d 14 (by decide), d 21 (by decide), q 22 (by decide)]
  exact ⟨h1, fun p hp => by rw [PT.eq (d 11 (by decide)) (d 14 (by decide))]; exact h2 p hp, h3⟩
theorem RR.zero : RR (uI (uA R 10 30 0) 22 0) := by
  have e1 : (rI (uI (uA R 10 30 0) 22 0) 22).toInt = 0 := rfl
  have e2 : (rA (uI (uA R 10 30 0) 22 0) 10 30).toInt = 0 := rfl
  refine ⟨by omega, fun p hp => ?_, fun j hj => ?_⟩
  · omega
  · omega
theorem RR.pop {x : Int32} (h : RR R) (h0 : 0 < (rI R 22).toInt) (hx : x.toInt = (rI R 22).toInt - 1) : RR (uI R 22 x) := by
  have e1 : (rI (uI R 22 x) 22).toInt = x.toInt := rfl
  obtain ⟨h1, h2, h3⟩ := h
  exact ⟨by omega, fun p hp => h2 p hp, fun j hj => h3 j (by omega)⟩
theorem RR.push1 {x y o : Int32} {s p : Nat} (h : RR R) (hp : (p : Int) = (rA R 10 30).toInt) (hs : s = 1800 + p) (ho : o = rI R 22) (ho2 : o.toInt < 12) (hy : y.toInt = (rA R 10 30).toInt + 1)
    (hx : (o.toInt = 0 ∧ x.toInt = -1) ∨ (0 < o.toInt ∧ x = rA R 21 (o.toInt - 1).toNat))
    (h11 : rA R1 11 = up2 (rA R) 11 s x 11) (h14 : rA R1 14 = up2 (rA R) 14 s o 14) (h10 : rA R1 10 30 = y) (h21 : rA R1 21 = rA R 21) (h22 : rI R1 22 = rI R 22) :
    RR R1 ∧ (rA R1 14 s).toInt = (rI R1 22).toInt := by
  obtain ⟨h1, h2, h3⟩ := h
  subst hs
  have a1 : ∀ q, q ≠ p → rA R1 11 (60 * 30 + q) = rA R 11 (60 * 30 + q) := fun q hq => by rw [h11]; exact u2n (by omega)
  have a2 : ∀ q, q ≠ p → rA R1 14 (1800 + q) = rA R 14 (1800 + q) := fun q hq => by rw [h14]; exact u2n (by omega)
  have a3 : rA R1 11 (60 * 30 + p) = x := by rw [h11]; exact u2e
  have a4 : rA R1 14 (1800 + p) = o := by rw [h14]; exact u2e
  refine ⟨⟨by rw [h22]; exact h1, fun q hq => ?_, fun j hj => ?_⟩, by rw [a4, ho, h22]⟩
  · rw [h10, hy] at hq
    by_cases e : q = p
    · subst e
      unfold PT
      rw [a3, show 60 * 30 + q = 1800 + q by omega, a4]
      rcases hx with ⟨b1, b2⟩ | ⟨b1, b2⟩
      · exact ⟨by omega, by omega, fun b3 => by omega⟩
      · have h4 := h3 (o.toInt - 1).toNat (by rw [← ho]; omega)
        rw [← b2] at h4
        refine ⟨by omega, by omega, fun _ => ⟨h4.1.1, ?_⟩⟩
        rw [show 60 * 30 + x.toInt.toNat = 1800 + x.toInt.toNat by omega, a2 _ (by omega), h4.2]
        omega
    · exact (h2 q (by omega)).same (a1 q e) (fun z hz => a2 z (by omega))
  · rw [h22] at hj
    have h4 := h3 j hj
    rw [h21, h10, hy, a2 _ (by omega)]
    exact ⟨by omega, h4.2⟩
theorem RR.push2 {x y : Int32} {o : Nat} (h : RR R) (ho : (o : Int) = (rI R 22).toInt) (ho2 : (rI R 22).toInt < 12) (hx : 0 ≤ x.toInt ∧ x.toInt < (rA R 10 30).toInt) (hd : (rA R 14 (1800 + x.toInt.toNat)).toInt = (rI R 22).toInt) (hy : y.toInt = (rI R 22).toInt + 1) : RR (uI (uA R 21 o x) 22 y) := by
  obtain ⟨h1, h2, h3⟩ := h
  have e1 : rI (uI (uA R 21 o x) 22 y) 22 = y := rfl
  refine ⟨by rw [e1]; omega, fun p hp => h2 p hp, fun j hj => ?_⟩
  rw [e1] at hj
  by_cases e : j = o
  · subst e
    have a1 : rA (uI (uA R 21 j x) 22 y) 21 j = x := u2e
    rw [a1]
    exact ⟨hx, by rw [ho]; exact hd⟩
  · have a1 : rA (uI (uA R 21 o x) 22 y) 21 j = rA R 21 j := u2n e
    rw [a1]
    exact h3 j (by omega)
theorem PT.at11 {p x : Int32} (h : ∀ p : Nat, (p : Int) < (rA R 10 30).toInt → PT R 30 p) (hp : 0 ≤ p.toInt) (hx : x.toInt = 1800 + p.toInt) (hm : p.toInt < (rA R 10 30).toInt) : -1 ≤ (rA R 11 x.toNatClampNeg).toInt ∧ (rA R 11 x.toNatClampNeg).toInt < p.toInt := by
  have h2 := clI (x := p) hp
  have h3 := clI (x := x) (by omega)
  have h4 := (h p.toNatClampNeg (by omega)).1
  rw [show x.toNatClampNeg = 60 * 30 + p.toNatClampNeg by omega, ← h2]
  exact h4
theorem PQ.st {q i : Nat} {v : Int32} (h : PQ R 30 q) (hi : i ≠ 1800 + q) : PQ (uA R 12 i v) 30 q := h.same (u2n (by omega)) rfl
theorem PQ.new {p i : Nat} {v : Int32} (h1 : 1 ≤ v.toInt) (h2 : p + v.toInt ≤ (rA R 10 30).toInt) (hi : i = 1800 + p) : PQ (uA R 12 i v) 30 p := by
  subst hi
  have e : rA (uA R 12 (1800 + p) v) 12 (60 * 30 + p) = v := by rw [show 60 * 30 + p = 1800 + p by omega]; exact u2e
  unfold PQ
  rw [e]
  exact ⟨h1, h2⟩
/-- a page is being copied: n parts stand -/
def CP (R Ra : RS) (f t n : Nat) : Prop := (∀ k, k = 11 ∨ k = 12 ∨ k = 14 → (∀ i, ¬ (60 * t ≤ i ∧ i < 60 * t + 60) → rA Ra k i = rA R k i) ∧ ∀ q, q < n → rA Ra k (60 * t + q) = rA R k (60 * f + q)) ∧ (∀ i, (rA Ra 15 i).toInt ≤ 16) ∧ rA Ra 10 = up2 (rA R) 10 t (rA R 10 f) 10
theorem CP.fr {Ra Rb : RS} {f t n : Nat} (h : CP R Ra f t n) (g : frr L Ra Rb) (hL : ∀ f ∈ [10, 11, 12, 14, 15], f ∉ L) : CP R Rb f t n := by
  have d : ∀ k, k ∈ [10, 11, 12, 14, 15] → rA Rb k = rA Ra k := fun k hk => g.gA k (hL k hk)
  obtain ⟨h1, h2, h3⟩ := h
  unfold CP
  rw [d 10 (by decide), d 15 (by decide)]
  refine ⟨fun k hk => ?_, h2, h3⟩
  rw [d k (by rcases hk with rfl | rfl | rfl <;> decide)]
  exact h1 k hk
theorem CP.start {f t : Nat} (h : RI R) (e : R1 = uA R 10 t (rA R 10 f)) : CP R R1 f t 0 := by
  subst e
  exact ⟨fun k hk => ⟨fun i _ => by rcases hk with rfl | rfl | rfl <;> rfl, fun q hq => absurd hq (Nat.not_lt_zero _)⟩, h.words, rfl⟩
theorem CP.step {Ra Rb : RS} {f t n a b : Nat} {x11 x12 x14 x15 : Int32} (h : CP R Ra f t n) (hn : n < 60) (hft : f ≠ t) (ha : a = 60 * f + n) (hb : b = 60 * t + n)
    (e11 : x11 = rA Ra 11 a) (e12 : x12 = rA Ra 12 a) (e14 : x14 = rA Ra 14 a) (e15 : x15 = rA Ra 15 a)
    (h11 : rA Rb 11 = up2 (rA Ra) 11 b x11 11) (h12 : rA Rb 12 = up2 (rA Ra) 12 b x12 12) (h14 : rA Rb 14 = up2 (rA Ra) 14 b x14 14) (h15 : rA Rb 15 = up2 (rA Ra) 15 b x15 15) (h10 : rA Rb 10 = rA Ra 10) : CP R Rb f t (n + 1) := by
  subst ha hb
  obtain ⟨h1, h2, h3⟩ := h
  have gen : ∀ k x, (k = 11 ∨ k = 12 ∨ k = 14) → x = rA Ra k (60 * f + n) → rA Rb k = up2 (rA Ra) k (60 * t + n) x k → (∀ i, ¬ (60 * t ≤ i ∧ i < 60 * t + 60) → rA Rb k i = rA R k i) ∧ ∀ q, q < n + 1 → rA Rb k (60 * t + q) = rA R k (60 * f + q) := by
    intro k x hk ex hb
    obtain ⟨g1, g2⟩ := h1 k hk
    refine ⟨fun i hi => ?_, fun q hq => ?_⟩
    · rw [hb, u2n (by omega)]; exact g1 i hi
    · by_cases e : q = n
      · subst e; rw [hb, u2e, ex]; exact g1 _ (by omega)
      · rw [hb, u2n (by omega)]; exact g2 q (by omega)
  refine ⟨fun k hk => ?_, fun i => ?_, h10.trans h3⟩
  · rcases hk with rfl | rfl | rfl
    · exact gen 11 x11 (Or.inl rfl) e11 h11
    · exact gen 12 x12 (Or.inr (Or.inl rfl)) e12 h12
    · exact gen 14 x14 (Or.inr (Or.inr rfl)) e14 h14
  · by_cases e : i = 60 * t + n
    · subst e; rw [h15, u2e, e15]; exact h2 _
    · rw [h15, u2n e]; exact h2 _
theorem CP.ri {Ra : RS} {f t n : Nat} (hI : RI R) (hf : PG R f) (h : CP R Ra f t n) (hn : (rA R 10 f).toInt ≤ n) (g : frr L R Ra) (ht : t < 30) (hs : t < 4 ∨ (t = 4 + (rI R 36).toInt.toNat ∧ (rI R 36).toInt < 6) ∨ t = 10 + (rI R 51).toInt.toNat) (hL : ∀ f ∈ [2, 3, 35, 36, 41, 46, 48, 49, 51], f ∉ L) :
    RI Ra ∧ (∀ g, g ≠ t → rA Ra 10 g = rA R 10 g) ∧ rA Ra 10 t = rA R 10 f := by
  obtain ⟨h1, h2, h3⟩ := h
  have en : ∀ g, g ≠ t → rA Ra 10 g = rA R 10 g := fun g hg => by rw [h3]; exact u2n hg
  have et : rA Ra 10 t = rA R 10 f := by rw [h3]; exact u2e
  have h4 := hI.samples
  have h6 := hI.acts
  refine ⟨hI.pages (fun z => ?_) (fun z hz p hp => ?_) h2 (fun k hk => en _ (by omega)) (fun k hk => en _ (by omega)) g hL, en, et⟩
  · by_cases e : z = t
    · subst e; rw [et]; exact hI.many f
    · rw [en z e]; exact hI.many z
  · by_cases e : z = t
    · subst e
      rw [et] at hp
      obtain ⟨p1, p2⟩ := hf p hp
      have c : ∀ k, k = 11 ∨ k = 12 ∨ k = 14 → ∀ q, q ≤ p → rA Ra k (60 * z + q) = rA R k (60 * f + q) := fun k hk q hq => (h1 k hk).2 q (by omega)
      refine ⟨?_, ?_⟩
      · unfold PT at p1 ⊢
        obtain ⟨q1, q2, q3⟩ := p1
        rw [c 11 (Or.inl rfl) p (Nat.le_refl _), c 14 (Or.inr (Or.inr rfl)) p (Nat.le_refl _)]
        refine ⟨q1, q2, fun q4 => ?_⟩
        obtain ⟨q5, q6⟩ := q3 q4
        rw [c 14 (Or.inr (Or.inr rfl)) _ (by omega)]
        exact ⟨q5, q6⟩
      · unfold PQ at p2 ⊢
        rw [c 12 (Or.inr (Or.inl rfl)) p (Nat.le_refl _), et]
        exact p2
    · rw [en z e] at hp
      have hm := hI.many z
      obtain ⟨p1, p2⟩ := hI.pg hz p hp
      exact ⟨p1.same ((h1 11 (Or.inl rfl)).1 _ (by omega)) (fun q hq => (h1 14 (Or.inr (Or.inr rfl))).1 _ (by omega)), p2.same ((h1 12 (Or.inr (Or.inl rfl))).1 _ (by omega)) (en z e)⟩
theorem cl18 {x : Int32} (h : 1800 ≤ x.toInt) : 1800 ≤ x.toNatClampNeg := by
  have h7 := clI (x := x) (by omega)
  omega
theorem PTs.fr (h : ∀ p : Nat, (p : Int) < (rA R 10 30).toInt → PT R 30 p) (f : frr L R R1) (hL : ∀ f ∈ [10, 11, 14], f ∉ L) : ∀ p : Nat, (p : Int) < (rA R1 10 30).toInt → PT R1 30 p := by
  have d : ∀ k, k ∈ [10, 11, 14] → rA R1 k = rA R k := fun k hk => f.gA k (hL k hk)
  intro p hp
  rw [d 10 (by decide)] at hp
  rw [PT.eq (d 11 (by decide)) (d 14 (by decide))]
  exact h p hp
theorem PQ.here {s p : Int32} {q : Nat} (h1 : 1 ≤ (rA R 12 s.toNatClampNeg).toInt) (h2 : p.toInt + (rA R 12 s.toNatClampNeg).toInt ≤ (rA R 10 30).toInt) (hs : s.toInt = 1800 + p.toInt) (hp : 0 ≤ p.toInt) (hq : (q : Int) = p.toInt) : PQ R 30 q := by
  have h7 := clI (x := s) (by omega)
  unfold PQ
  rw [show 60 * 30 + q = s.toNatClampNeg by omega]
  exact ⟨h1, by omega⟩
def mz (R : RS) : Nat := if (rI R 4).toInt = 0 then (60 - (rA R 10 30).toInt).toNat * 2 + (rI R 22).toInt.toNat + 1 else 0
theorem mzA (R : RS) : ((rI R 4).toInt ≠ 0 ∧ mz R = 0) ∨ ((rI R 4).toInt = 0 ∧ mz R = (60 - (rA R 10 30).toInt).toNat * 2 + (rI R 22).toInt.toNat + 1) := by
  unfold mz
  by_cases h : (rI R 4).toInt = 0
  · rw [if_pos h]; exact Or.inr ⟨h, rfl⟩
  · rw [if_neg h]; exact Or.inl ⟨h, rfl⟩
theorem RI.st3 {v : Int32} (h : RI R) (hv : 0 ≤ v.toInt ∧ v.toInt ≤ 1600) : RI (uI R 3 v) := by
  obtain ⟨h1, h2, h3, h4, h5, h6, h7, h8, h9, h10, h11⟩ := h
  exact ⟨h1, h2, h3, h4, h5, h6, h7, h8, h9, h10, hv⟩
theorem RI.st2 {v : Int32} (h : RI R) (hv : 0 ≤ v.toInt ∧ v.toInt ≤ 1600) : RI (uI R 2 v) := by
  obtain ⟨h1, h2, h3, h4, h5, h6, h7, h8, h9, h10, h11⟩ := h
  exact ⟨h1, h2, h3, h4, h5, h6, h7, h8, h9, hv, h11⟩
end RRs
