theorem nX9 {S : Mem} {a t m q n : Nat} (ha : mK S a = 0) (hq : mK S q = n + 1) : mN (nA S a t m) q = mN S q := by
  have e : q ≠ a := fun z => by
    rw [z, ha] at hq
    cases hq
  exact va_up_ne _ _ e
section G9
variable {x : Nat → Nat → Prop} {c : Nat} {tl : Int} {rho : Nat × Nat} {S : Mem} {a : Nat} {v : Int32}
theorem NI.g401 (h : NI c tl rho S) (k : mK S a = 5) (e : v = mI S 401 a) : 0 ≤ v.toInt ∧ v.toInt ≤ 60 := e ▸ NI.f401 h k
theorem NI.g501 (h : NI c tl rho S) (k : mK S a = 6) (e : v = mI S 501 a) : 0 ≤ v.toInt ∧ v.toInt < 60 := e ▸ NI.f501 h k
theorem NI.g509 (h : NI c tl rho S) (k : mK S a = 6) (e : v = mI S 509 a) : 0 ≤ v.toInt ∧ v.toInt ≤ c := e ▸ NI.f509 h k
theorem NI.g802 (h : NI c tl rho S) (k : mK S a = 9) (e : v = mI S 802 a) : 0 ≤ v.toInt ∧ v.toInt ≤ 6 := e ▸ NI.f802 h k
theorem NI.g901 (h : NI c tl rho S) (k : mK S a = 10) (e : v = mI S 901 a) : v.toInt = tl ∧ 0 ≤ tl ∧ tl ≤ 1600 := e ▸ NI.f901 h k
theorem NI.g1110 (h : NI c tl rho S) (k : mK S a = 12) (e : v = mI S 1110 a) : 0 ≤ v.toInt ∧ v.toInt ≤ 20 := e ▸ NI.f1110 h k
theorem NI.g1111 (h : NI c tl rho S) (k : mK S a = 12) (e : v = mI S 1111 a) : 0 ≤ v.toInt ∧ v.toInt < 8 := e ▸ NI.f1111 h k
theorem NI.g705 (h : NI c tl rho S) (k : mK S a = 8) (e : v = mI S 705 a) : 0 ≤ v.toInt ∧ v.toInt ≤ rho.1 := e ▸ NI.f705 h k
theorem un9 (h : CI x c tl rho S) (ha : mK S a = 0) : ∀ b, mK (nO S a 5) b = 6 → mR (nO S a 5) 503 b ≠ some a ∧ mR (nO S a 5) 504 b ≠ some a := by
  intro b hb
  by_cases e : b = a
  · subst e
    have h1 : ∀ f, mR (nO S b 5) f b = none := fun f => cl2_eq
    rw [h1, h1]
    exact ⟨by simp, by simp⟩
  · have hk : mK S b = 6 := (va_up_ne _ _ e).symm.trans hb
    have h1 : ∀ f, mR (nO S a 5) f b = mR S f b := fun f => cl2_ne e
    rw [h1, h1]
    exact ⟨fr_un (ci := 5) (k := 3) h.1 ha hk (by decide) (by decide) (by decide), fr_un (ci := 5) (k := 4) h.1 ha hk (by decide) (by decide) (by decide)⟩
theorem ne9 {n b : Nat} (ha : mK S a = 0) (hb : mK S b = n + 1) : b ≠ a := fun z => by
  rw [z, ha] at hb
  cases hb
theorem cm60 (h : CI x c tl rho S) (k : mK S a = 6) : cm S (some a) ≤ 60 := by
  have := NI.f501 h.2 k
  show _ + 1 ≤ 60
  omega
end G9
