section RSs
variable {R R1 : RS}
theorem RI.sp {k g : Int32} (h : RI R) (hk0 : 0 ≤ k.toInt) (hk : k.toInt < (rI R 36).toInt) (hg : g.toInt = 4 + k.toInt) : 0 ≤ (rA R 35 k.toNatClampNeg).toInt ∧ (rA R 35 k.toNatClampNeg).toInt < (rA R 10 g.toNatClampNeg).toInt := by
  have h4 := h.samples
  have h7 := clI (x := k) hk0
  have h8 := clI (x := g) (by omega)
  rw [show g.toNatClampNeg = 4 + k.toNatClampNeg by omega]
  exact h.samplePart _ (by omega)
theorem RI.ap {k g : Int32} (h : RI R) (hk0 : 0 ≤ k.toInt) (hk : k.toInt < (rI R 51).toInt) (hz : rA R 46 k.toNatClampNeg = 0) (hg : g.toInt = 10 + k.toInt) : 0 ≤ (rA R 48 k.toNatClampNeg).toInt ∧ (rA R 48 k.toNatClampNeg).toInt < (rA R 10 g.toNatClampNeg).toInt := by
  have h4 := h.acts
  have h7 := clI (x := k) hk0
  have h8 := clI (x := g) (by omega)
  rw [show g.toNatClampNeg = 10 + k.toNatClampNeg by omega]
  exact h.actPart _ (by omega) hz
theorem RI.st35 {i : Nat} {v : Int32} (h : RI R) (hi : (rI R 36).toInt ≤ i) : RI (uA R 35 i v) := by
  obtain ⟨h1, h2, h3, h4, h5, h6, h7, h8, h9, h10, h11⟩ := h
  refine ⟨h1, h2, h3, h4, fun k hk => ?_, h6, h7, h8, h9, h10, h11⟩
  have hk : (k : Int) < (rI R 36).toInt := hk
  have e : rA (uA R 35 i v) 35 k = rA R 35 k := u2n (by omega)
  rw [e]
  exact h5 k hk
theorem RI.sample {i : Nat} {v x : Int32} (h : RI R) (hi : (i : Int) = (rI R 36).toInt) (hv : v.toInt = (rI R 36).toInt + 1) (hm : v.toInt ≤ 6) (hx : 0 ≤ x.toInt ∧ x.toInt < (rA R 10 (4 + i)).toInt) : RI (uI (uA R 35 i x) 36 v) := by
  obtain ⟨h1, h2, h3, h4, h5, h6, h7, h8, h9, h10, h11⟩ := h
  have e9 : rI (uI (uA R 35 i x) 36 v) 36 = v := rfl
  refine ⟨h1, h2, h3, by rw [e9]; omega, fun k hk => ?_, h6, h7, h8, h9, h10, h11⟩
  rw [e9] at hk
  by_cases e : k = i
  · subst e
    have e : rA (uI (uA R 35 k x) 36 v) 35 k = x := u2e
    rw [e]
    exact hx
  · have e : rA (uI (uA R 35 i x) 36 v) 35 k = rA R 35 k := u2n e
    rw [e]
    exact h5 k (by omega)
theorem RI.zero36 (h : RI R) : RI (uI R 36 0) := by
  obtain ⟨h1, h2, h3, h4, h5, h6, h7, h8, h9, h10, h11⟩ := h
  have e9 : (rI (uI R 36 0) 36).toInt = 0 := rfl
  exact ⟨h1, h2, h3, by omega, fun k hk => by omega, h6, h7, h8, h9, h10, h11⟩
theorem RI.zero51 (h : RI R) : RI (uI R 51 0) := by
  obtain ⟨h1, h2, h3, h4, h5, h6, h7, h8, h9, h10, h11⟩ := h
  have e9 : (rI (uI R 51 0) 51).toInt = 0 := rfl
  exact ⟨h1, h2, h3, h4, h5, by omega, fun k hk => by omega, h8, h9, h10, h11⟩
theorem RI.st46 {i : Nat} {v : Int32} (h : RI R) (hi : (rI R 51).toInt ≤ i) : RI (uA R 46 i v) := by
  obtain ⟨h1, h2, h3, h4, h5, h6, h7, h8, h9, h10, h11⟩ := h
  refine ⟨h1, h2, h3, h4, h5, h6, fun k hk hz => ?_, h8, h9, h10, h11⟩
  have hk : (k : Int) < (rI R 51).toInt := hk
  have e : rA (uA R 46 i v) 46 k = rA R 46 k := u2n (by omega)
  rw [e] at hz
  exact h7 k hk hz
theorem RI.st48 {i : Nat} {v : Int32} (h : RI R) (hi : (rI R 51).toInt ≤ i) : RI (uA R 48 i v) := by
  obtain ⟨h1, h2, h3, h4, h5, h6, h7, h8, h9, h10, h11⟩ := h
  refine ⟨h1, h2, h3, h4, h5, h6, fun k hk hz => ?_, h8, h9, h10, h11⟩
  have hk : (k : Int) < (rI R 51).toInt := hk
  have e : rA (uA R 48 i v) 48 k = rA R 48 k := u2n (by omega)
  rw [e]
  exact h7 k hk hz
theorem RI.up51 {i : Nat} {v : Int32} (h : RI R) (hi : (i : Int) = (rI R 51).toInt) (hv : v.toInt = (rI R 51).toInt + 1) (hm : v.toInt ≤ 20) (hx : rA R 46 i = 0 → 0 ≤ (rA R 48 i).toInt ∧ (rA R 48 i).toInt < (rA R 10 (10 + i)).toInt) : RI (uI R 51 v) := by
  obtain ⟨h1, h2, h3, h4, h5, h6, h7, h8, h9, h10, h11⟩ := h
  have e9 : rI (uI R 51 v) 51 = v := rfl
  refine ⟨h1, h2, h3, h4, h5, by rw [e9]; omega, fun k hk => ?_, h8, h9, h10, h11⟩
  rw [e9] at hk
  by_cases e : k = i
  · subst e
    exact hx
  · exact h7 k (by omega)
theorem RI.st49 {i : Nat} {v : Int32} (h : RI R) (hv : v.toInt ≤ 16) : RI (uA R 49 i v) := by
  obtain ⟨h1, h2, h3, h4, h5, h6, h7, h8, h9, h10, h11⟩ := h
  refine ⟨h1, h2, h3, h4, h5, h6, h7, h8, fun j => ?_, h10, h11⟩
  by_cases e : j = i
  · subst e
    have e : rA (uA R 49 j v) 49 j = v := u2e
    rw [e]
    exact hv
  · have e : rA (uA R 49 i v) 49 j = rA R 49 j := u2n e
    rw [e]
    exact h9 j
theorem RI.st41 {i : Nat} {v : Int32} (h : RI R) (hv : v.toInt ≤ 12) : RI (uA R 41 i v) := by
  obtain ⟨h1, h2, h3, h4, h5, h6, h7, h8, h9, h10, h11⟩ := h
  refine ⟨h1, h2, h3, h4, h5, h6, h7, fun j => ?_, h9, h10, h11⟩
  by_cases e : j = i
  · subst e
    have e : rA (uA R 41 j v) 41 j = v := u2e
    rw [e]
    exact hv
  · have e : rA (uA R 41 i v) 41 j = rA R 41 j := u2n e
    rw [e]
    exact h8 j
theorem and0i {a b x : Int32} (e : x = a &&& b) : b.toInt ≠ 0 ∨ x.toInt = 0 := by
  by_cases h : b.toInt = 0
  · right
    have hb : b = 0 := Int32.toInt_inj.mp (h.trans (by decide))
    rw [e, hb]
    have h9 : a &&& 0 = 0 := by simp
    rw [h9]
    decide
  · exact Or.inl h
end RSs
