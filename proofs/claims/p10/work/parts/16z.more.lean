section RD9
variable {S S1 : Mem} {a pg : Nat} {o : Option Nat}
theorem RD.fe (h : RD S a pg) (g : fEq S S1) : RD S1 a pg := h.to (by rw [g.2.1]) (by rw [g.2.1]) (g.2.2.2.2 501 (by decide)) (g.2.2.2.2 401 (by decide))
theorem RD.p604 (h : RD S a pg) (ho : ∀ q, o = some q → (mI S 501 q).toInt < (mI S 401 pg).toInt) : RD (pR S 604 a o) a pg := by
  refine ⟨fun q e => ho q ?_, fun q e => h.2 q e⟩
  exact (up2_eq (F := mR S) (f := 604) (a := a) (v := o)).symm.trans e
theorem RD.p605 (h : RD S a pg) (ho : ∀ q, o = some q → (mI S 501 q).toInt < (mI S 401 pg).toInt) : RD (pR S 605 a o) a pg := by
  refine ⟨fun q e => h.1 q e, fun q e => ho q ?_⟩
  exact (up2_eq (F := mR S) (f := 605) (a := a) (v := o)).symm.trans e
theorem opt9 {x : Nat → Nat → Prop} {c : Nat} {tl : Int} {rho : Nat × Nat} {q : Nat} (h : CI x c tl rho S) (k : mK S a = 7) : (mR S 604 a = some q → mK S q = 6) ∧ (mR S 605 a = some q → mK S q = 6) :=
  ⟨fun e => TI.opt h.1 (ci := 6) (k := 4) k (by decide) (by decide) (by decide) q e, fun e => TI.opt h.1 (ci := 6) (k := 5) k (by decide) (by decide) (by decide) q e⟩
end RD9
