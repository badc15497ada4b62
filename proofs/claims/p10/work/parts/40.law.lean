/-! ===== the law: its start, the two memories in one heap ===== -/
theorem lw_g {w : Cond} (h : w ∈ tables_1) : w ∈ lw_tbl := List.mem_append_right _ h
theorem law_K {s : State} {args : Array Value} (hts : ∀ w ∈ lw_tbl, w.before args s = true) : ∃ D : gD, gK D s ∧ gNW s := by
  have hg : ∀ w ∈ gT, w.before args s = true := fun w hw => hts w (List.mem_filter.mp hw).1
  have hc : ∀ k : Nat, ∃ y : ClassId × (Nat → Nat), ∀ r : vw_C, vwCl[k]? = some r → u_Kn s r.1 r.2.1 r.2.2 y.1 y.2 := by
    intro k
    match k with
    | 0 =>
      obtain ⟨c, i, h⟩ := u_known hg inT0 (hg _ in_X0)
      exact ⟨(c, i), fun r hr => by cases hr; exact h⟩
    | 1 =>
      obtain ⟨c, i, h⟩ := u_known hg inT1 (hg _ in_X1)
      exact ⟨(c, i), fun r hr => by cases hr; exact h⟩
    | 2 =>
      obtain ⟨c, i, h⟩ := u_known hg inT2 (hg _ in_X2)
      exact ⟨(c, i), fun r hr => by cases hr; exact h⟩
    | 3 =>
      obtain ⟨c, i, h⟩ := u_known hg inT3 (hg _ in_X3)
      exact ⟨(c, i), fun r hr => by cases hr; exact h⟩
    | 4 =>
      obtain ⟨c, i, h⟩ := u_known hg inT4 (hg _ in_X4)
      exact ⟨(c, i), fun r hr => by cases hr; exact h⟩
    | 5 =>
      obtain ⟨c, i, h⟩ := u_known hg inT5 (hg _ in_X5)
      exact ⟨(c, i), fun r hr => by cases hr; exact h⟩
    | 6 =>
      obtain ⟨c, i, h⟩ := u_known hg inT6 (hg _ in_X6)
      exact ⟨(c, i), fun r hr => by cases hr; exact h⟩
    | 7 =>
      obtain ⟨c, i, h⟩ := u_known hg inT7 (hg _ in_X7)
      exact ⟨(c, i), fun r hr => by cases hr; exact h⟩
    | 8 =>
      obtain ⟨c, i, h⟩ := u_known hg inT8 (hg _ in_X8)
      exact ⟨(c, i), fun r hr => by cases hr; exact h⟩
    | 9 =>
      obtain ⟨c, i, h⟩ := u_known hg inT9 (hg _ in_X9)
      exact ⟨(c, i), fun r hr => by cases hr; exact h⟩
    | 10 =>
      obtain ⟨c, i, h⟩ := u_known hg inT10 (hg _ in_X10)
      exact ⟨(c, i), fun r hr => by cases hr; exact h⟩
    | 11 =>
      obtain ⟨c, i, h⟩ := u_known hg inT11 (hg _ in_X11)
      exact ⟨(c, i), fun r hr => by cases hr; exact h⟩
    | 12 =>
      obtain ⟨c, i, h⟩ := u_known hg inT12 (hg _ in_X12)
      exact ⟨(c, i), fun r hr => by cases hr; exact h⟩
    | n + 13 => exact ⟨(0, fun _ => 0), fun r hr => absurd (List.getElem?_eq_some_iff.mp hr).1 (by simp [vwCl])⟩
  obtain ⟨c0, k0, p0, a0, b0, d0⟩ := Cond.arrayClass_spec (hg _ ac_int)
  obtain ⟨c1, k1, p1, a1, b1, d1⟩ := Cond.arrayClass_spec (hg _ ac_long)
  obtain ⟨c2, k2, p2, a2, b2, d2⟩ := Cond.arrayClass_spec (hg _ ac_byte)
  obtain ⟨c3, k3, p3, a3, b3, d3⟩ := Cond.arrayClass_spec (hg _ ac_boolean)
  have w4 := hts (Cond.arrayOver (.object RX5)) (lw_g (tm1 139 rfl))
  obtain ⟨p4, c4, k4, e4, f4, b4, d4, a4⟩ := Cond.arrayOver_spec w4
  have w5 := hts (Cond.arrayOver (.object RX4)) (lw_g (tm1 105 rfl))
  obtain ⟨p5, c5, k5, e5, f5, b5, d5, a5⟩ := Cond.arrayOver_spec w5
  have w6 := hts (Cond.arrayOver (.object RX2)) (lw_g (tm1 107 rfl))
  obtain ⟨p6, c6, k6, e6, f6, b6, d6, a6⟩ := Cond.arrayOver_spec w6
  have w7 := hts (Cond.arrayOver (.object RX0)) (lw_g (tm1 157 rfl))
  obtain ⟨p7, c7, k7, e7, f7, b7, d7, a7⟩ := Cond.arrayOver_spec w7
  refine ⟨(fun k => (Classical.choose (hc k)).1, fun k => (Classical.choose (hc k)).2, fun t => match t with | 0 => c0 | 1 => c1 | 2 => c2 | 3 => c3 | 4 => c4 | 5 => c5 | 6 => c6 | _ => c7), ⟨⟨fun k r hr => Classical.choose_spec (hc k) r hr, fun k q hq => ?_⟩, va_AO.of w4, va_AO.of w5, va_AO.of w6, va_AO.of w7⟩, fun w hw hn => ?_⟩
  · match k, hq with
    | 0, hq => cases hq; exact ⟨fun n z => ⟨fun k h => (by cases h), k0, b0, p0, d0⟩, a0⟩
    | 1, hq => cases hq; exact ⟨fun n z => ⟨fun k h => (by cases h), k1, b1, p1, d1⟩, a1⟩
    | 2, hq => cases hq; exact ⟨fun n z => ⟨fun k h => (by cases h), k2, b2, p2, d2⟩, a2⟩
    | 3, hq => cases hq; exact ⟨fun n z => ⟨fun k h => (by cases h), k3, b3, p3, d3⟩, a3⟩
    | 4, hq => cases hq; exact ⟨fun n z => ⟨fun k h => (by cases h), k4, b4, p4, d4⟩, k4, p4, b4, d4, e4, a4⟩
    | 5, hq => cases hq; exact ⟨fun n z => ⟨fun k h => (by cases h), k5, b5, p5, d5⟩, k5, p5, b5, d5, e5, a5⟩
    | 6, hq => cases hq; exact ⟨fun n z => ⟨fun k h => (by cases h), k6, b6, p6, d6⟩, k6, p6, b6, d6, e6, a6⟩
    | 7, hq => cases hq; exact ⟨fun n z => ⟨fun k h => (by cases h), k7, b7, p7, d7⟩, k7, p7, b7, d7, e7, a7⟩
    | n + 8, hq => exact absurd (List.getElem?_eq_some_iff.mp hq).1 (by simp [gtys])
  · have h1 := hts w (lw_g hw)
    cases w <;> first | (simp [gisN] at hn; done) | exact va_Nw.of rfl h1
/-- the class's cells and the reference's, apart, and nothing old was changed -/
def LJ (D : gD) (s0 : Heap) (S : Mem) (h : Nat) (R : RS) (k n : Nat) (H : Heap) (locs : List Loc) : Prop :=
  (∀ a, mK S a ≠ 0 → s0.size ≤ a ∧ mK (rM h R) a = 0 ∧ a < H.size ∧ mOK D S a H) ∧
  (∀ a, mK (rM h R) a ≠ 0 → s0.size ≤ a ∧ a < H.size ∧ mOK D (rM h R) a H) ∧
  va_S (fun q => s0.size ≤ q) s0 H locs ∧ H.size = s0.size + k ∧ nSl s0.size H = n
section LJs
variable {D : gD} {s0 H H1 : Heap} {S S1 : Mem} {h : Nat} {R R1 : RS} {k n k1 n1 : Nat} {locs locs1 : List Loc}
abbrev bC (H s0 : Heap) (h : Nat) : gB := (H, s0.size, fun q => q < s0.size ∨ mK (rM h RZ) q ≠ 0)
abbrev bR (H s0 : Heap) (S : Mem) : gB := (H, s0.size, fun q => q < s0.size ∨ mK S q ≠ 0)
theorem LJ.mC (g : LJ D s0 S h R k n H locs) : mH D (bC H s0 h) S k n H locs := by
  obtain ⟨g1, g2, g3, g4, g5⟩ := g
  refine ⟨fun a ha => ?_, fun q hq => ⟨?_, rfl⟩, g4, g5, g3.2.2⟩
  · obtain ⟨q1, q2, q3, q4⟩ := g1 a ha
    exact ⟨⟨q1, fun z => z.elim (fun z => absurd q1 (Nat.not_le.mpr z)) (fun z => z q2)⟩, q3, q4⟩
  · rcases hq with z | z
    · exact Nat.lt_of_lt_of_le z g3.1
    · exact (g2 q z).2.1
theorem LJ.aC (g : LJ D s0 S h R k n H locs) (f : mH D (bC H s0 h) S1 k1 n1 H1 locs1) : LJ D s0 S1 h R k1 n1 H1 locs1 := by
  obtain ⟨g1, g2, g3, g4, g5⟩ := g
  obtain ⟨f1, f2, f3, f4, f5⟩ := f
  have f3 : H1.size = s0.size + k1 := f3
  refine ⟨fun a ha => ?_, fun a ha => ?_, ⟨by omega, fun q hq hz => ?_, f5⟩, f3, f4⟩
  · obtain ⟨⟨q1, q2⟩, q3, q4⟩ := f1 a ha
    exact ⟨q1, Decidable.not_not.mp (fun z => q2 (Or.inr z)), q3, q4⟩
  · obtain ⟨q1, q2, q3⟩ := g2 a ha
    obtain ⟨q4, q5⟩ := f2 a (Or.inr ha)
    exact ⟨q1, q4, q3.kept q5⟩
  · exact (f2 q (Or.inl hq)).2.trans (g3.2.1 q hq hz)
theorem LJ.mR (g : LJ D s0 S h R k n H locs) : mH D (bR H s0 S) (rM h R) k n H locs := by
  obtain ⟨g1, g2, g3, g4, g5⟩ := g
  refine ⟨fun a ha => ?_, fun q hq => ⟨?_, rfl⟩, g4, g5, g3.2.2⟩
  · obtain ⟨q1, q2, q3⟩ := g2 a ha
    exact ⟨⟨q1, fun z => z.elim (fun z => absurd q1 (Nat.not_le.mpr z)) (fun z => ha (g1 a z).2.1)⟩, q2, q3⟩
  · rcases hq with z | z
    · exact Nat.lt_of_lt_of_le z g3.1
    · exact (g1 q z).2.2.1
theorem LJ.aR (g : LJ D s0 S h R k n H locs) (f : mH D (bR H s0 S) (rM h R1) k1 n1 H1 locs1) : LJ D s0 S h R1 k1 n1 H1 locs1 := by
  obtain ⟨g1, g2, g3, g4, g5⟩ := g
  obtain ⟨f1, f2, f3, f4, f5⟩ := f
  have f3 : H1.size = s0.size + k1 := f3
  refine ⟨fun a ha => ?_, fun a ha => ?_, ⟨by omega, fun q hq hz => ?_, f5⟩, f3, f4⟩
  · obtain ⟨q1, q2, q3, q4⟩ := g1 a ha
    obtain ⟨q5, q6⟩ := f2 a (Or.inr ha)
    exact ⟨q1, q2, q5, q4.kept q6⟩
  · obtain ⟨⟨q1, q2⟩, q3, q4⟩ := f1 a ha
    exact ⟨q1, q3, q4⟩
  · exact (f2 q (Or.inl hq)).2.trans (g3.2.1 q hq hz)
/-- what holds between two calls of the law: j calls were made -/
def LSt (D : gD) (s0 : Heap) (x h j : Nat) (H : Heap) (locs : List Loc) : Prop := ∃ (S : Mem) (R : RS) (u : Nat) (tl : Int) (r1 mt k n : Nat), LJ D s0 S h R k n H locs ∧ CI x0 u tl (r1, mt) S ∧ mK S x = 12 ∧ RI R ∧ (rI R 2).toInt = tl ∧ (u ≤ 97661 * j ∧ r1 ≤ 1200 * j ∧ mt ≤ 8) ∧ k ≤ 47 + 63 * j + 3 * mt ∧ n ≤ 64598 + 1100 * j + 3665 * mt
end LJs
section LT
variable {p : Program} {l : Launch} {e : Env} {Rm : Room} {s : State} {m : MethodId} {args : Array Value} {below : List Frame} {meth : Method} {c : Code} {H : Heap} {locs : List Loc} {cells slots : Nat} {Q : State → Prop}
theorem nSl0 {n0 : Nat} {H : Heap} (h : H.size = n0) : nSl n0 H = 0 := by
  unfold nSl
  rw [List.drop_eq_nil_of_le (by simp [h])]
  rfl
theorem r_tightJ {D : gD} {S : Mem} {R : RS} {h k0 n0 k n : Nat} {g : JFrame} (hJ : LJ D s.heap S h R k n H locs) (h1 : k ≤ k0) (h2 : n ≤ n0) (kk : W p l e Rm s m args below meth c H locs k0 n0 Q g) : W p l e Rm s m args below meth c H locs cells slots Q g :=
  r_tight (D := D) (H0 := (s.heap, s.heap.size, fun _ => False)) (S := Z0) (S0 := Z0) (kc := k) (ns := n) (k0 := 0) (n0 := 0) (locs0 := []) ⟨fun a ha => absurd rfl ha, fun q hq => absurd hq id, hJ.2.2.2.1, hJ.2.2.2.2, hJ.2.2.1.2.2⟩ ⟨fun a ha => absurd rfl ha, fun q hq => absurd hq id, rfl, nSl0 rfl, fun q hq => by cases hq⟩ (by omega) (by omega) kk
end LT
