theorem NI.tabs {c : Nat} {tl : Int} {rho : Nat × Nat} {S : Mem} (h : NI c tl rho S) : ∀ a t, rho.2 ≤ 8 → mK S a = 12 → mR S 1103 a = some t → (∀ i, i < rho.2 → aR S t i ≠ none) ∧ (rho.2 < 8 → (mI S 1111 a).toInt = rho.2) := h.2.2.2.2.2.2.2.2.2.2.2
theorem up2S {F : Nat → Nat → Option Nat} {a j i q : Nat} (h : F a i ≠ none) : up2 F a j (some q) a i ≠ none := by
  unfold up2
  split
  · simp
  · exact h
theorem up2T {F : Nat → Nat → Option Nat} {a j q : Nat} : up2 F a j (some q) a j ≠ none := by rw [up2_eq]; simp
/-- one table more, or none where all are made -/
theorem tab1 {x : Nat → Nat → Prop} {c : Nat} {tl : Int} {rho : Nat × Nat} {S : Mem} {a t m j : Nat} (h : CI x c tl rho S) (ha : mK S a = 12) (ht : mR S 1103 a = some t) (hm : m ≤ 8) (h1 : ∀ i, i < m → aR S t i ≠ none) (hj : m < 8 → j = m) (hs : aR S t j ≠ none) (ho : m + 1 < 8 → (mI S 1111 a).toInt = ((m + 1 : Nat) : Int)) :
    ∃ m1, m ≤ m1 ∧ m1 ≤ 8 ∧ (m < 8 → m1 = m + 1) ∧ (m = 8 → m1 = 8) ∧ CI x c tl (rho.1, m1) S := by
  rcases Nat.lt_or_ge m 8 with h8 | h8
  · refine ⟨m + 1, by omega, by omega, fun _ => rfl, fun z => by omega, CI.tab (CI.noinfo h) ha ht (fun i hi => ?_) ho⟩
    by_cases e : i = m
    · rw [e, ← hj h8]; exact hs
    · exact h1 i (by omega)
  · refine ⟨m, by omega, by omega, fun z => by omega, fun z => z, CI.tab (CI.noinfo h) ha ht h1 (fun z => by omega)⟩
theorem CI.rhoLe2 {x : Nat → Nat → Prop} {c : Nat} {tl : Int} {a b r' : Nat} {S : Mem} (h : CI x c tl (a, b) S) (hr : a ≤ r') : CI x c tl (r', b) S := CI.rhoLe h hr
