/-! ===== the reference's rows, as a function of its state ===== -/
def chC (R : RS) (g o : Int32) (its : Int64) (t p : Int32) : Bool := decide ((rA R 11 (60 * g.toNatClampNeg + p.toNatClampNeg)).toInt = o.toInt ∧ (lg_cmp (rB R 17 (60 * g.toNatClampNeg + p.toNatClampNeg)) its).toInt = 0 ∧ (rA R 13 (60 * g.toNatClampNeg + p.toNatClampNeg)).toInt = t.toInt)
def chF (R : RS) (g o : Int32) (its : Int64) (t : Int32) : Nat → Int32 → Int32
  | 0, _ => -1
  | n + 1, p => if chC R g o its t p = true then p else chF R g o its t n (p + 1)
def chV (R : RS) (g o : Int32) (its : Int64) (t : Int32) : Int32 := chF R g o its t ((rA R 12 (60 * g.toNatClampNeg + o.toNatClampNeg)).toInt - 1).toNat (o + 1)
def rwT (R : RS) (row k d : Int32) : Int32 := if d.toInt = (rA R 42 row.toNatClampNeg).toInt then rA R 43 row.toNatClampNeg + k * rA R 44 row.toNatClampNeg else rA R 40 (12 * row + d).toNatClampNeg
def rwF (R : RS) (row g k : Int32) : Nat → Int32 → Int32 → Int32
  | 0, _, f => f
  | n + 1, d, f => if 0 ≤ f.toInt then rwF R row g k n (d + 1) (chV R g f (rB R 39 (12 * row + d).toNatClampNeg) (rwT R row k d)) else f
def rwG (R : RS) (row g : Int32) : Bool := decide ((rA R 10 g.toNatClampNeg).toInt = 0 ∨ (lg_cmp (rB R 17 (60 * g.toNatClampNeg)) (rB R 39 (12 * row).toNatClampNeg)).toInt ≠ 0 ∨ (rA R 40 (12 * row).toNatClampNeg).toInt ≠ 0 ∨ (rA R 42 row.toNatClampNeg).toInt = 0)
def rwV (R : RS) (row g k : Int32) : Int32 := if rwG R row g = true then -1 else rwF R row g k ((rA R 41 row.toNatClampNeg).toInt - 1).toNat 1 0
section CHs
variable {R R1 : RS} {L : List Nat} {g o row k t p d f : Int32} {its : Int64} {n : Nat}
theorem chF.no (hn : 0 < n) (h : ¬ ((rA R 11 (60 * g.toNatClampNeg + p.toNatClampNeg)).toInt = o.toInt ∧ (lg_cmp (rB R 17 (60 * g.toNatClampNeg + p.toNatClampNeg)) its).toInt = 0 ∧ (rA R 13 (60 * g.toNatClampNeg + p.toNatClampNeg)).toInt = t.toInt)) : chF R g o its t n p = chF R g o its t (n - 1) (p + 1) := by
  obtain ⟨q, rfl⟩ : ∃ q, n = q + 1 := ⟨n - 1, by omega⟩
  show (if chC R g o its t p = true then p else chF R g o its t q (p + 1)) = _
  rw [if_neg (by unfold chC; rw [decide_eq_true_iff]; exact h)]
  rfl
theorem chF.yes (hn : 0 < n) (h : (rA R 11 (60 * g.toNatClampNeg + p.toNatClampNeg)).toInt = o.toInt ∧ (lg_cmp (rB R 17 (60 * g.toNatClampNeg + p.toNatClampNeg)) its).toInt = 0 ∧ (rA R 13 (60 * g.toNatClampNeg + p.toNatClampNeg)).toInt = t.toInt) : chF R g o its t n p = p := by
  obtain ⟨q, rfl⟩ : ∃ q, n = q + 1 := ⟨n - 1, by omega⟩
  show (if chC R g o its t p = true then p else chF R g o its t q (p + 1)) = _
  rw [if_pos (by unfold chC; rw [decide_eq_true_iff]; exact h)]
theorem chF.fr (h : frr L R R1) (hL : ∀ f ∈ [11, 13, 17], f ∉ L) : ∀ (n : Nat) (p : Int32), chF R1 g o its t n p = chF R g o its t n p := by
  intro n
  induction n with
  | zero => intro p; rfl
  | succ n ih =>
    intro p
    have e : chC R1 g o its t p = chC R g o its t p := by
      unfold chC
      rw [h.gA 11 (hL 11 (by decide)), h.gA 13 (hL 13 (by decide)), h.gB 17 (hL 17 (by decide))]
    show (if chC R1 g o its t p = true then p else chF R1 g o its t n (p + 1)) = (if chC R g o its t p = true then p else chF R g o its t n (p + 1))
    rw [e, ih]
theorem chV.fr (h : frr L R R1) (hL : ∀ f ∈ [11, 12, 13, 17], f ∉ L) : chV R1 g o its t = chV R g o its t := by
  unfold chV
  rw [h.gA 12 (hL 12 (by decide)), chF.fr h (fun f hf => hL f (by revert hf; revert f; decide))]
theorem rwT.fr (h : frr L R R1) (hL : ∀ f ∈ [40, 42, 43, 44], f ∉ L) : rwT R1 row k d = rwT R row k d := by
  unfold rwT
  rw [h.gA 40 (hL 40 (by decide)), h.gA 42 (hL 42 (by decide)), h.gA 43 (hL 43 (by decide)), h.gA 44 (hL 44 (by decide))]
def nRW : List Nat := [10, 11, 12, 13, 17, 39, 40, 41, 42, 43, 44]
theorem rwF.fr (h : frr L R R1) (hL : ∀ f ∈ nRW, f ∉ L) : ∀ (n : Nat) (d f : Int32), rwF R1 row g k n d f = rwF R row g k n d f := by
  intro n
  induction n with
  | zero => intro d f; rfl
  | succ n ih =>
    intro d f
    show (if 0 ≤ f.toInt then rwF R1 row g k n (d + 1) (chV R1 g f (rB R1 39 (12 * row + d).toNatClampNeg) (rwT R1 row k d)) else f) = (if 0 ≤ f.toInt then rwF R row g k n (d + 1) (chV R g f (rB R 39 (12 * row + d).toNatClampNeg) (rwT R row k d)) else f)
    rw [ih, h.gB 39 (hL 39 (by decide)), chV.fr h (fun f hf => hL f (by revert hf; revert f; decide)), rwT.fr h (fun f hf => hL f (by revert hf; revert f; decide))]
theorem rwV.fr (h : frr L R R1) (hL : ∀ f ∈ nRW, f ∉ L) : rwV R1 row g k = rwV R row g k := by
  have e : rwG R1 row g = rwG R row g := by
    unfold rwG
    rw [h.gA 10 (hL 10 (by decide)), h.gA 40 (hL 40 (by decide)), h.gA 42 (hL 42 (by decide)), h.gB 17 (hL 17 (by decide)), h.gB 39 (hL 39 (by decide))]
  unfold rwV
  rw [e, h.gA 41 (hL 41 (by decide)), rwF.fr h hL]
theorem rwF.stop (h : f.toInt < 0) : rwF R row g k n d f = f := by
  cases n with
  | zero => rfl
  | succ n => exact if_neg (by omega)
theorem rwF.step (hn : 0 < n) (h : 0 ≤ f.toInt) : rwF R row g k n d f = rwF R row g k (n - 1) (d + 1) (chV R g f (rB R 39 (12 * row + d).toNatClampNeg) (rwT R row k d)) := by
  obtain ⟨q, rfl⟩ : ∃ q, n = q + 1 := ⟨n - 1, by omega⟩
  exact if_pos h
theorem rwV.no (h : (rA R 10 g.toNatClampNeg).toInt = 0 ∨ (lg_cmp (rB R 17 (60 * g.toNatClampNeg)) (rB R 39 (12 * row).toNatClampNeg)).toInt ≠ 0 ∨ (rA R 40 (12 * row).toNatClampNeg).toInt ≠ 0 ∨ (rA R 42 row.toNatClampNeg).toInt = 0) : rwV R row g k = -1 := if_pos (by unfold rwG; rw [decide_eq_true_iff]; exact h)
theorem rwV.go (h : ¬ ((rA R 10 g.toNatClampNeg).toInt = 0 ∨ (lg_cmp (rB R 17 (60 * g.toNatClampNeg)) (rB R 39 (12 * row).toNatClampNeg)).toInt ≠ 0 ∨ (rA R 40 (12 * row).toNatClampNeg).toInt ≠ 0 ∨ (rA R 42 row.toNatClampNeg).toInt = 0)) : rwV R row g k = rwF R row g k ((rA R 41 row.toNatClampNeg).toInt - 1).toNat 1 0 := if_neg (by unfold rwG; rw [decide_eq_true_iff]; exact h)
theorem PGl {g p : Int32} (h : RI R) (hg0 : 0 ≤ g.toInt) (hg : g.toInt < 30) (hp : 0 ≤ p.toInt) (hm : p.toInt < (rA R 10 g.toNatClampNeg).toInt) : 1 ≤ (rA R 12 (60 * g.toNatClampNeg + p.toNatClampNeg)).toInt ∧ p.toInt + (rA R 12 (60 * g.toNatClampNeg + p.toNatClampNeg)).toInt ≤ (rA R 10 g.toNatClampNeg).toInt := by
  have h1 := clI (x := g) hg0
  have h2 := clI (x := p) hp
  have h3 := (h.pg (g := g.toNatClampNeg) (by omega) p.toNatClampNeg (by omega)).2
  rw [← h2]
  exact h3
theorem PG.up {g p x : Int32} (h : RI R) (hg0 : 0 ≤ g.toInt) (hg : g.toInt < 30) (hp : 0 ≤ p.toInt) (hx : x.toInt = 60 * g.toInt + p.toInt) (hm : p.toInt < (rA R 10 g.toNatClampNeg).toInt) :
    (0 ≤ (rA R 14 (60 * g.toNatClampNeg + p.toNatClampNeg)).toInt ∧ (rA R 14 (60 * g.toNatClampNeg + p.toNatClampNeg)).toInt ≤ 11) ∧ ((rA R 14 (60 * g.toNatClampNeg + p.toNatClampNeg)).toInt ≤ 0 ∨ (0 ≤ (rA R 11 x.toNatClampNeg).toInt ∧ (rA R 14 (60 * g.toNatClampNeg + (rA R 11 x.toNatClampNeg).toNatClampNeg)).toInt = (rA R 14 (60 * g.toNatClampNeg + p.toNatClampNeg)).toInt - 1)) := by
  obtain ⟨e, e2, h1, h2⟩ := PG.at h hg0 hg hp hx hm
  rw [e]
  refine ⟨h1.2.1, ?_⟩
  by_cases h0 : 0 < (rA R 14 (60 * g.toNatClampNeg + p.toNatClampNeg)).toInt
  · exact Or.inr (h1.2.2 h0)
  · exact Or.inl (by omega)
end CHs
