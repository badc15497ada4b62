abbrev mF (H0 : gB) : Addr → Prop := fun q => H0.2.1 ≤ q
def mP (D : gD) (H0 : gB) (S : Mem) (k n : Nat) (av : List Value) : Array Value → State → Prop := fun v U => v = av.toArray ∧ mH D H0 S k n U.heap [] ∧ gK D U ∧ gNW U
def mQ {α : Type} (D : gD) (H0 : gB) (inj : α → Option Value) (post : α → Mem → Nat → Nat → Prop) : Array Value → State → Outcome → State → Prop := fun _ _ oc t => ∃ (x : α) (S1 : Mem) (k1 n1 : Nat), oc = .returned (inj x) ∧ post x S1 k1 n1 ∧ mH D H0 S1 k1 n1 t.heap []
abbrev gI (x : Int32) : Option Value := some (.int x)
abbrev gL (x : Int64) : Option Value := some (.long x)
abbrev gR (x : Option Nat) : Option Value := some (va_rf x)
abbrev gV (_ : Unit) : Option Value := none
def wsU (y : MethodName) (b : ByteArray) (ml : Nat) (ret : Option FieldType) : List Cond := .code y b ml ret :: gT
theorem mP.blind {D : gD} {H0 : gB} {S : Mem} {k n : Nat} {av : List Value} : FrameBlind (mP D H0 S k n av) := fun a U g mk h => ⟨h.1, h.2.1, gK.moved (u := U) (U := U.calling g mk a) (Vm.Alike.refl U.vm) h.2.2.1, gNW.same (u := U) (U := U.calling g mk a) rfl h.2.2.2⟩
def miB (y : MethodName) (b : ByteArray) (ml : Nat) (ret : Option FieldType) (n : Nat) : Prop := Cond.code y b ml ret ∈ gT ∧ Cond.initialized y.cls ∈ gT ∧ (y.cls ≠ "java/lang/invoke/MethodHandle" ∧ y.cls ≠ "java/lang/invoke/VarHandle" ∧ (parseMethodDescriptor y.desc).map (fun d => d.parameters.length) = some n)
def miV (y : MethodName) (b : ByteArray) (ml : Nat) (ret : Option FieldType) (n : Nat) : Prop := miB y b ml ret n ∧ Cond.instanceMethod y ∈ gT ∧ Cond.selects y.cls y y ∈ gT
def miS (y : MethodName) (b : ByteArray) (ml : Nat) (ret : Option FieldType) (n : Nat) : Prop := miB y b ml ret n ∧ Cond.static y ∈ gT
def miI (y : MethodName) (b : ByteArray) (ml : Nat) (n : Nat) : Prop := miB y b ml none n ∧ Cond.instanceMethod y ∈ gT ∧ y.name = "<init>"
theorem wsU_good {y : MethodName} {b : ByteArray} {ml : Nat} {ret : Option FieldType} {n : Nat} (h : miB y b ml ret n) : GoodIn gT (wsU y b ml ret) := fun w hw => gT_good w ((List.mem_cons.mp hw).elim (fun e => e ▸ h.1) id)
theorem rf_or (v : Option Nat) : va_rf v = .null ∨ ∃ a, va_rf v = .ref a := by
  cases v with
  | none => exact Or.inl rfl
  | some a => exact Or.inr ⟨a, rfl⟩
section Calls9
variable {p : Program} {l : Launch} {e : Env} {R : Room} {s : State} {m : MethodId} {args : Array Value} {below : List Frame} {meth : Method} {c : Code} {H : Heap} {locs : List Loc} {cells slots : Nat} {Q : State → Prop}
variable {cc : ByteArray} {pc nL : Nat} {own : String} {ls : Array Slot} {rest st0 : List Value} {D : gD} {H0 : gB} {S S1 : Mem} {kc ns a : Nat}
variable {α : Type} {inj : α → Option Value} {post : α → Mem → Nat → Nat → Prop} {y : MethodName} {b : ByteArray} {ml n index : Nat} {ret : Option FieldType} {rm : Room} {As : List Value} {host : String}
theorem mH.recv {ci : Nat} {r : vw_C} (hK : gK D s) (hM : mH D H0 S kc ns H locs) (hk : mK S a = ci + 1) (hr : vwCl[ci]? = some r) : ∃ cell : Cell, H[a]? = some cell ∧ cell.vm.isStatics = false ∧ s.vm.findClass r.1 = some cell.cls := by
  obtain ⟨cell, q1, q2, q3, -⟩ := (hM.1 a (by rw [hk]; omega)).2.2.1 ci r hk hr
  exact ⟨cell, q1, by rw [q3]; rfl, by rw [q2]; exact (hK.1.1 ci r hr).2.1⟩
theorem mP.at (C : Cx D p s m args c cc nL own) (hM : mH D H0 S kc ns H locs) (av : List Value) : ∀ U : State, U.heap = H → s.WarmedH U.vm → mP D H0 S kc ns av av.toArray U := fun U hU hW => ⟨rfl, by rw [hU]; exact hM.locs (fun _ h => by cases h), gK.moved hW.alike C.2.2.2.2.2.1, C.2.2.2.2.2.2.warm hW⟩
theorem r_call {mc ms : Nat} {A9 : Array Value} (hr : va_Run p l e R s m args below meth c H locs cells slots mc ms (F0 m pc ls st0) rest (mQ D H0 inj post A9) (mF H0)) (hM : mH D H0 S kc ns H locs)
    (kk : ∀ (x : α) (S1 : Mem) (k1 n1 : Nat) (H1 : Heap) (locs1 : List Loc), post x S1 k1 n1 → mH D H0 S1 k1 n1 H1 locs1 → W p l e R s m args below meth c H1 locs1 (cells + mc) (slots + ms) Q (F0 m (pc + 3) ls ((inj x).toList ++ rest))) : W p l e R s m args below meth c H locs cells slots Q (F0 m pc ls st0) := by
  intro T hT X
  obtain ⟨v, st₀, t, T', L, h0, X', hL, e1, e2, ⟨x, S1, k1, n1, hv, hp, hM1⟩, st⟩ := hr T hT X
  cases hv
  obtain ⟨t2, a1, b1⟩ := kk x S1 k1 n1 T'.heap (locs ++ L) hp (by rw [e1]; exact hM1.locs (fun q hq => by
    rcases List.mem_append.mp hq with h | h
    · exact hM.2.2.2.2 q h
    · exact hL q h)) T' rfl X'
  exact ⟨t2, st t2 a1, b1⟩
theorem cB9 (C : Cx D p s m args c cc nL own) (hi : miB y b ml ret n) (hl : Cond.methodLink own index y ∈ gT) (hR : rm.frames + 1 ≤ R.frames ∧ 8 + (ml + 11) + rm.locals ≤ R.locals) : CallB R s args own index y b ml ret (wsU y b ml ret) rm rm.cells rm.slots n :=
  callB_of n C.2.2.2.2.1 (wsU_good hi) rfl rfl rfl (C.2.2.2.2.1 _ hi.2.1) (C.2.2.2.2.1 _ hl) hi.2.2 hR
theorem cN9 (C : Cx D p s m args c cc nL own) (hi : miB y b ml ret n) (hl : Cond.methodLinkNest own index y host ∈ tables_1) (hR : rm.frames + 1 ≤ R.frames ∧ 8 + (ml + 11) + rm.locals ≤ R.locals) : va_CN R s args own index y host b ml ret (wsU y b ml ret) rm rm.cells rm.slots n :=
  va_cnB n C.2.2.2.2.1 (wsU_good hi) rfl rfl rfl (C.2.2.2.2.2.2 _ hl rfl) (C.2.2.2.2.1 _ hi.2.1) hi.2.2 hR
theorem r_V {ci : Nat} {r : vw_C} (C : Cx D p s m args c cc nL own) (hM : mH D H0 S kc ns H locs) (hMet : Met l y (wsU y b ml ret) rm (mP D H0 S kc ns (.ref a :: As)) (mQ D H0 inj post) rm.cells rm.slots (mF H0)) (hi : miV y b ml ret n) (hl : Cond.methodLink own index y ∈ gT) (hk : mK S a = ci + 1) (hr : vwCl[ci]? = some r) (hy : r.1 = y.cls) (hn : As.length = n) (hls : ls.size = nL) (hst : st0 = As.reverse ++ .ref a :: rest) (hro : (rest.map fun v => v.category).sum ≤ 8) (hR : rm.frames + 1 ≤ R.frames ∧ 8 + (ml + 11) + rm.locals ≤ R.locals) (hcs : cells + rm.cells ≤ R.cells ∧ slots + rm.slots ≤ R.slots) (hdg : decode cc pc = .ok (.invokevirtual index, 3))
    (kk : ∀ (x : α) (S1 : Mem) (k1 n1 : Nat) (H1 : Heap) (locs1 : List Loc), post x S1 k1 n1 → mH D H0 S1 k1 n1 H1 locs1 → W p l e R s m args below meth c H1 locs1 (cells + rm.cells) (slots + rm.slots) Q (F0 m (pc + 3) ls ((inj x).toList ++ rest))) : W p l e R s m args below meth c H locs cells slots Q (F0 m pc ls st0) := by
  subst hst
  exact r_call (va_runV (C := y.cls) (Ts := gT) ⟨C.1, C.2.1, C.2.2.1, C.2.2.2.1, C.2.2.2.2.1⟩ hMet ⟨cB9 C hi.1 hl hR, C.2.2.2.2.1 _ hi.2.1, C.2.2.2.2.1 _ hi.2.2⟩ ⟨mP.blind, hy ▸ hM.recv C.2.2.2.2.2.1 hk hr, mP.at C hM _⟩ rfl hn hls rfl (lv_room hro) hdg hcs) hM kk
theorem r_VN {ci : Nat} {r : vw_C} (C : Cx D p s m args c cc nL own) (hM : mH D H0 S kc ns H locs) (hMet : Met l y (wsU y b ml ret) rm (mP D H0 S kc ns (.ref a :: As)) (mQ D H0 inj post) rm.cells rm.slots (mF H0)) (hi : miV y b ml ret n) (hl : Cond.methodLinkNest own index y host ∈ tables_1) (hk : mK S a = ci + 1) (hr : vwCl[ci]? = some r) (hy : r.1 = y.cls) (hn : As.length = n) (hls : ls.size = nL) (hst : st0 = As.reverse ++ .ref a :: rest) (hro : (rest.map fun v => v.category).sum ≤ 8) (hR : rm.frames + 1 ≤ R.frames ∧ 8 + (ml + 11) + rm.locals ≤ R.locals) (hcs : cells + rm.cells ≤ R.cells ∧ slots + rm.slots ≤ R.slots) (hdg : decode cc pc = .ok (.invokevirtual index, 3))
    (kk : ∀ (x : α) (S1 : Mem) (k1 n1 : Nat) (H1 : Heap) (locs1 : List Loc), post x S1 k1 n1 → mH D H0 S1 k1 n1 H1 locs1 → W p l e R s m args below meth c H1 locs1 (cells + rm.cells) (slots + rm.slots) Q (F0 m (pc + 3) ls ((inj x).toList ++ rest))) : W p l e R s m args below meth c H locs cells slots Q (F0 m pc ls st0) := by
  subst hst
  exact r_call (va_runVN (C := y.cls) (Ts := gT) ⟨C.1, C.2.1, C.2.2.1, C.2.2.2.1, C.2.2.2.2.1⟩ hMet ⟨cN9 C hi.1 hl hR, C.2.2.2.2.1 _ hi.2.1, C.2.2.2.2.1 _ hi.2.2⟩ ⟨mP.blind, hy ▸ hM.recv C.2.2.2.2.2.1 hk hr, mP.at C hM _⟩ rfl hn hls rfl (lv_room hro) hdg hcs) hM kk
theorem r_S (C : Cx D p s m args c cc nL own) (hM : mH D H0 S kc ns H locs) (hMet : Met l y (wsU y b ml ret) rm (mP D H0 S kc ns As) (mQ D H0 inj post) rm.cells rm.slots (mF H0)) (hi : miS y b ml ret n) (hl : Cond.methodLink own index y ∈ gT) (hn : As.length = n) (hls : ls.size = nL) (hst : st0 = As.reverse ++ rest) (hro : (rest.map fun v => v.category).sum ≤ 8) (hR : rm.frames + 1 ≤ R.frames ∧ 8 + (ml + 11) + rm.locals ≤ R.locals) (hcs : cells + rm.cells ≤ R.cells ∧ slots + rm.slots ≤ R.slots) (hdg : decode cc pc = .ok (.invokestatic index, 3))
    (kk : ∀ (x : α) (S1 : Mem) (k1 n1 : Nat) (H1 : Heap) (locs1 : List Loc), post x S1 k1 n1 → mH D H0 S1 k1 n1 H1 locs1 → W p l e R s m args below meth c H1 locs1 (cells + rm.cells) (slots + rm.slots) Q (F0 m (pc + 3) ls ((inj x).toList ++ rest))) : W p l e R s m args below meth c H locs cells slots Q (F0 m pc ls st0) := by
  subst hst
  exact r_call (va_runS (Ts := gT) ⟨C.1, C.2.1, C.2.2.1, C.2.2.2.1, C.2.2.2.2.1⟩ hMet ⟨cB9 C hi.1 hl hR, C.2.2.2.2.1 _ hi.2⟩ ⟨mP.blind, mP.at C hM _⟩ rfl hn hls rfl (lv_room hro) hdg hcs) hM kk
theorem r_SN (C : Cx D p s m args c cc nL own) (hM : mH D H0 S kc ns H locs) (hMet : Met l y (wsU y b ml ret) rm (mP D H0 S kc ns As) (mQ D H0 inj post) rm.cells rm.slots (mF H0)) (hi : miS y b ml ret n) (hl : Cond.methodLinkNest own index y host ∈ tables_1) (hn : As.length = n) (hls : ls.size = nL) (hst : st0 = As.reverse ++ rest) (hro : (rest.map fun v => v.category).sum ≤ 8) (hR : rm.frames + 1 ≤ R.frames ∧ 8 + (ml + 11) + rm.locals ≤ R.locals) (hcs : cells + rm.cells ≤ R.cells ∧ slots + rm.slots ≤ R.slots) (hdg : decode cc pc = .ok (.invokestatic index, 3))
    (kk : ∀ (x : α) (S1 : Mem) (k1 n1 : Nat) (H1 : Heap) (locs1 : List Loc), post x S1 k1 n1 → mH D H0 S1 k1 n1 H1 locs1 → W p l e R s m args below meth c H1 locs1 (cells + rm.cells) (slots + rm.slots) Q (F0 m (pc + 3) ls ((inj x).toList ++ rest))) : W p l e R s m args below meth c H locs cells slots Q (F0 m pc ls st0) := by
  subst hst
  exact r_call (va_runSN (Ts := gT) ⟨C.1, C.2.1, C.2.2.1, C.2.2.2.1, C.2.2.2.2.1⟩ hMet ⟨cN9 C hi.1 hl hR, C.2.2.2.2.1 _ hi.2, trivial⟩ ⟨mP.blind, mP.at C hM _⟩ rfl hn hls rfl (lv_room hro) hdg hcs) hM kk
theorem r_I (C : Cx D p s m args c cc nL own) (hM : mH D H0 S kc ns H locs) (hMet : Met l y (wsU y b ml none) rm (mP D H0 S kc ns (.ref a :: As)) (mQ D H0 inj post) rm.cells rm.slots (mF H0)) (hi : miI y b ml n) (hl : Cond.methodLink own index y ∈ gT) (hn : As.length = n) (hls : ls.size = nL) (hst : st0 = As.reverse ++ .ref a :: rest) (hro : (rest.map fun v => v.category).sum ≤ 8) (hR : rm.frames + 1 ≤ R.frames ∧ 8 + (ml + 11) + rm.locals ≤ R.locals) (hcs : cells + rm.cells ≤ R.cells ∧ slots + rm.slots ≤ R.slots) (hdg : decode cc pc = .ok (.invokespecial index, 3))
    (kk : ∀ (x : α) (S1 : Mem) (k1 n1 : Nat) (H1 : Heap) (locs1 : List Loc), post x S1 k1 n1 → mH D H0 S1 k1 n1 H1 locs1 → W p l e R s m args below meth c H1 locs1 (cells + rm.cells) (slots + rm.slots) Q (F0 m (pc + 3) ls ((inj x).toList ++ rest))) : W p l e R s m args below meth c H locs cells slots Q (F0 m pc ls st0) := by
  subst hst
  exact r_call (va_runI (Ts := gT) ⟨C.1, C.2.1, C.2.2.1, C.2.2.2.1, C.2.2.2.2.1⟩ hMet ⟨cB9 C hi.1 hl hR, hi.2.2, C.2.2.2.2.1 _ hi.2.1⟩ ⟨mP.blind, mP.at C hM _⟩ rfl hn hls rfl (lv_room hro) hdg hcs) hM kk
theorem r_IN (C : Cx D p s m args c cc nL own) (hM : mH D H0 S kc ns H locs) (hMet : Met l y (wsU y b ml none) rm (mP D H0 S kc ns (.ref a :: As)) (mQ D H0 inj post) rm.cells rm.slots (mF H0)) (hi : miI y b ml n) (hl : Cond.methodLinkNest own index y host ∈ tables_1) (hn : As.length = n) (hls : ls.size = nL) (hst : st0 = As.reverse ++ .ref a :: rest) (hro : (rest.map fun v => v.category).sum ≤ 8) (hR : rm.frames + 1 ≤ R.frames ∧ 8 + (ml + 11) + rm.locals ≤ R.locals) (hcs : cells + rm.cells ≤ R.cells ∧ slots + rm.slots ≤ R.slots) (hdg : decode cc pc = .ok (.invokespecial index, 3))
    (kk : ∀ (x : α) (S1 : Mem) (k1 n1 : Nat) (H1 : Heap) (locs1 : List Loc), post x S1 k1 n1 → mH D H0 S1 k1 n1 H1 locs1 → W p l e R s m args below meth c H1 locs1 (cells + rm.cells) (slots + rm.slots) Q (F0 m (pc + 3) ls ((inj x).toList ++ rest))) : W p l e R s m args below meth c H locs cells slots Q (F0 m pc ls st0) := by
  subst hst
  exact r_call (va_runIN (Ts := gT) ⟨C.1, C.2.1, C.2.2.1, C.2.2.2.1, C.2.2.2.2.1⟩ hMet ⟨cN9 C hi.1 hl hR, hi.2.2, C.2.2.2.2.1 _ hi.2.1⟩ ⟨mP.blind, mP.at C hM _⟩ rfl hn hls rfl (lv_room hro) hdg hcs) hM kk
/-- a contract out of its body -/
theorem r_met {av : List Value} (hy : plainName y.cls = true) (hown : y.cls = own) (hlen : (lg_sl av).length ≤ ml)
    (body : ∀ (p : Program) (e : Env) (s : State) (m : MethodId) (args : Array Value) (below : List Frame) (meth : Method) (c : Code), Cx D p s m args c b ml own → meth.sig.returnType = ret → meth.locks = false → meth.name = y.name → ∀ (H : Heap) (ls : Array Slot), lv_has ls ml (lv_args 0 av) → mH D H0 S kc ns H [] → W p l e rm s m args below meth c H [] 0 0 (MQ below (mQ D H0 inj post) args s rm.cells rm.slots (mF H0)) (F0 m 0 ls [])) :
    Met l y (wsU y b ml ret) rm (mP D H0 S kc ns av) (mQ D H0 inj post) rm.cells rm.slots (mF H0) := by
  refine Met.ofW (cc := b) (maxL := ml) (ret := ret) hy rfl ?_
  intro p e s m args below meth c s₁ B hml hv
  obtain ⟨rfl, hM, hK, hN⟩ := hv
  have hts0 := atoms_spec (ws := wsU y b ml ret) B.pre
  rw [lg_entry_eq]
  exact body p e s m _ below meth c ⟨B.exec, B.bytes, hml, by rw [← hown]; exact findClass_of_methodNamed B.named, fun w h => hts0 w (List.mem_cons_of_mem _ h), hK, hN⟩ B.returns B.notSynchronized (name_of_methodNamed B.named B.method).1 s.heap _ (lv_entry av hlen) hM
theorem r_retI {post : Int32 → Mem → Nat → Nat → Prop} {v : Int32} {k1 n1 : Nat} (C : Cx D p s m args c cc nL own) (hr : meth.sig.returnType = some .int) (hlk : meth.locks = false) (hM : mH D H0 S k1 n1 H locs) (hp : post v S k1 n1) (hdg : decode cc pc = .ok (.ireturn, 1)) : W p l e R s m args below meth c H locs cells slots (MQ below (mQ D H0 gI post) args s cells slots (mF H0)) (F0 m pc ls [.int v]) :=
  W.iret C.1 C.2.1 hr (fun t ht _ => ⟨v, S, k1, n1, rfl, hp, by rw [ht]; exact hM.locs (fun _ h => by cases h)⟩) hM.2.2.2.2 hdg hlk
theorem r_retZ {post : Int32 → Mem → Nat → Nat → Prop} {v : Int32} {k1 n1 : Nat} (C : Cx D p s m args c cc nL own) (hr : meth.sig.returnType = some .boolean) (hlk : meth.locks = false) (hn : narrow .boolean (.int v) = .int v) (hM : mH D H0 S k1 n1 H locs) (hp : post v S k1 n1) (hdg : decode cc pc = .ok (.ireturn, 1)) : W p l e R s m args below meth c H locs cells slots (MQ below (mQ D H0 gI post) args s cells slots (mF H0)) (F0 m pc ls [.int v]) :=
  W.zret C.1 C.2.1 hr hn (fun t ht _ => ⟨v, S, k1, n1, rfl, hp, by rw [ht]; exact hM.locs (fun _ h => by cases h)⟩) hM.2.2.2.2 hdg hlk
theorem r_retL {post : Int64 → Mem → Nat → Nat → Prop} {v : Int64} {k1 n1 : Nat} (C : Cx D p s m args c cc nL own) (hr : meth.sig.returnType = some .long) (hlk : meth.locks = false) (hM : mH D H0 S k1 n1 H locs) (hp : post v S k1 n1) (hdg : decode cc pc = .ok (.lreturn, 1)) : W p l e R s m args below meth c H locs cells slots (MQ below (mQ D H0 gL post) args s cells slots (mF H0)) (F0 m pc ls [.long v]) :=
  W.lret C.1 C.2.1 hr (fun t ht _ => ⟨v, S, k1, n1, rfl, hp, by rw [ht]; exact hM.locs (fun _ h => by cases h)⟩) hM.2.2.2.2 hdg hlk
theorem r_retV {post : Unit → Mem → Nat → Nat → Prop} {k1 n1 : Nat} (C : Cx D p s m args c cc nL own) (hr : meth.sig.returnType = none) (hlk : meth.locks = false) (hM : mH D H0 S k1 n1 H locs) (hp : post () S k1 n1) (hdg : decode cc pc = .ok (.return_, 1)) : W p l e R s m args below meth c H locs cells slots (MQ below (mQ D H0 gV post) args s cells slots (mF H0)) (F0 m pc ls []) :=
  W.vret C.1 C.2.1 hr (fun t ht _ => ⟨(), S, k1, n1, rfl, hp, by rw [ht]; exact hM.locs (fun _ h => by cases h)⟩) hM.2.2.2.2 hdg hlk
theorem r_retR {post : Option Nat → Mem → Nat → Nat → Prop} {v : Option Nat} {rt : String} {k1 n1 : Nat} (C : Cx D p s m args c cc nL own) (hr : meth.sig.returnType = some (.object rt)) (hlk : meth.locks = false) (hM : mH D H0 S k1 n1 H locs) (hp : post v S k1 n1) (hdg : decode cc pc = .ok (.areturn, 1)) : W p l e R s m args below meth c H locs cells slots (MQ below (mQ D H0 gR post) args s cells slots (mF H0)) (F0 m pc ls [va_rf v]) :=
  W.aret C.1 C.2.1 hr (Or.inl ⟨rt, rfl⟩) (rf_or v) (fun t ht _ => ⟨v, S, k1, n1, rfl, hp, by rw [ht]; exact hM.locs (fun _ h => by cases h)⟩) hM.2.2.2.2 hdg hlk
/-- the room that was spent, as the heap shows it -/
theorem r_tight {k n k0 n0 : Nat} {g : JFrame} {S0 : Mem} {locs0 : List Loc} (hM : mH D H0 S kc ns H locs) (h0 : mH D H0 S0 k0 n0 s.heap locs0) (h1 : kc ≤ k0 + k) (h2 : ns ≤ n0 + n) (kk : W p l e R s m args below meth c H locs k n Q g) : W p l e R s m args below meth c H locs cells slots Q g := by
  intro T hT X
  refine kk T hT { X with same := ?_ }
  obtain ⟨g1, g2, g3, g4, g5, g6⟩ := X.same
  have hTs : (T.setVm s.vm).heap = H := hT
  refine ⟨g1, g2, ?_, g4, ?_, g6⟩
  · rw [hTs, hM.2.2.1, h0.2.2.1]; omega
  · have e1 : ((H.toList.drop s.heap.size).map (fun c => c.slots.size)).sum + n0 = ns := by
      have e2 : nSl H0.2.1 H = ns := hM.2.2.2.1
      have e3 : nSl H0.2.1 s.heap = n0 := h0.2.2.2.1
      have hle : H0.2.1 ≤ s.heap.size := by rw [h0.2.2.1]; omega
      have hz : s.heap.size ≤ H.size := by rw [← hTs]; exact g2
      have ht : (H.toList.map (fun c => c.slots.size)).take s.heap.size = s.heap.toList.map (fun c => c.slots.size) := by
        apply List.ext_getElem?
        intro i
        by_cases hi : i < s.heap.size
        · rw [List.getElem?_take_of_lt hi, List.getElem?_map, List.getElem?_map, Array.getElem?_toList, Array.getElem?_toList]
          have hc : s.heap[i]? = some (s.heap[i]'hi) := Array.getElem?_eq_getElem hi
          obtain ⟨c', h3, -, h4, -⟩ := g6 i _ hc
          rw [hTs] at h3
          rw [h3, hc]
          simp [h4]
        · rw [List.getElem?_eq_none (by simp; omega), List.getElem?_eq_none (by simp; omega)]
      have hap : H.toList.map (fun c => c.slots.size) = s.heap.toList.map (fun c => c.slots.size) ++ (H.toList.map (fun c => c.slots.size)).drop s.heap.size := by
        rw [← ht]; exact (List.take_append_drop _ _).symm
      unfold nSl at e2 e3
      rw [List.map_drop] at e2 e3 ⊢
      rw [hap, List.drop_append_of_le_length (by simpa using hle), List.sum_append, e3] at e2
      omega
    rw [hTs]
    omega
end Calls9
