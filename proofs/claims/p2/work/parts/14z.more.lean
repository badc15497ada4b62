theorem nX9 {S : Mem} {a t m q n : Nat} (ha : mK S a = 0) (hq : mK S q = n + 1) : mN (nA S a t m) q = mN S q := by
  have e : q ≠ a := fun z => by
    rw [z, ha] at hq
    cases hq
  exact va_up_ne _ _ e
