theorem CI.tlEq {x : Nat → Nat → Prop} {c : Nat} {tl tl' : Int} {rho : Nat × Nat} {S : Mem} (h : CI x c tl rho S) (e : tl' = tl) : CI x c tl' rho S := e ▸ h
