/-! THE CLAIM OUT OF ONE WALK OF THE LAW'S BODY. Your part is whole_start (and what it stands on); all else here is the same for every law, but numbers. -/
def R_law : String := "ClickBenchLaw"
def lw_P (b : Addr) (xs : List Int32) (args : Array Value) (s : State) : Prop := args = #[.ref b] ∧ s.IntsAt b xs ∧ xs.length ≤ 3072 ∧ (Jvm.Cond.and given_1 narrow_1).before args s = true
def lw_Q (_ : Array Value) (s : State) (o : Outcome) (t : State) : Prop := o = .returned (some (.int 1)) ∧ Framed s o t [] 600000 7302250
def lw_Z (below : List Frame) (a : Array Value) (s : State) : State → Prop := fun t => ∃ o, t.status = .running ∧ Ended t below o ∧ lw_Q a s o t
/-- the law's own end, with 1 on the stack, nothing written that was there before, its room as the claim has it -/
theorem lw_ret {p : Program} {l : Launch} {e : Env} {s : State} {m : MethodId} {below : List Frame} {meth : Method} {c : Code} {b : Nat} (hx : p.tables.exec = Jvm.exec) (hb : c.code = code) (hr : meth.sig.returnType = ret) (hlocks : meth.locks = false) {pc : Nat} {H : Heap} {ls : Array Slot} (hdg : decode code pc = .ok (.ireturn, 1)) : W p l e room_1 s m #[Value.ref b] below meth c H [] 600000 7302250 (lw_Z below #[Value.ref b] s) (F0 m pc ls [.int 1]) := by
  intro T hT X
  obtain ⟨fs, hret, hrun, hended, hW, hframe⟩ := X.leave (v := some (.int 1)) (hlocks := hlocks) (fun h => by rw [hr] at h; cases h)
  have hmeth' : T.vm.method? m = some meth := X.method'
  refine ⟨T.setFrames fs, ?_, .returned (some (.int 1)), hrun, hended, rfl, ⟨_, rfl⟩, hW, hframe⟩
  jvm_step X.here [X.here.top, hx, hb, hdg, hmeth', hr, ret, narrow_b1]
  (try refine ⟨rfl, ?_⟩); (try refine ⟨rfl, ?_⟩)
  first | (intro acts; rw [hret _ acts rfl rfl rfl]) | rw [hret _ _ rfl rfl rfl]
  exact Steps.refl _
/-- what holds at the law's entry: the machine, the code, the tables' words (any of lw_tbl by 'hts w (by decide +kernel)'), the script of L ints xs at the cell b, what the Statement gives of the start (any of its parts by flat_of_before) -/
def lw_At (p : Program) (s : State) (m : MethodId) (meth : Method) (c : Code) (b L : Nat) (xs : Nat → Int32) : Prop :=
  p.tables.exec = Jvm.exec ∧ c.code = code ∧ meth.sig.returnType = ret ∧ c.maxLocals = 4 ∧ s.vm.findClass R_law = some m.cls ∧ (∀ w ∈ lw_tbl, w.before #[Value.ref b] s = true) ∧ va_X b L xs s s.heap ∧ b < s.heap.size ∧ meth.locks = false ∧ (Jvm.Cond.and given_1 narrow_1).before #[Value.ref b] s = true
set_option maxHeartbeats 4000000 in
set_option maxRecDepth 100000 in
theorem law_loop {p : Program} {l : Launch} {e : Env} {s : State} {m : MethodId} {below : List Frame} {meth : Method} {c : Code} {b L : Nat} {xs : Nat → Int32} {D : gD} {x h : Nat} (C : Cx D p s m #[Value.ref b] c cL_law 4 RL) (hX : va_X b L xs s s.heap) (hbl : b < s.heap.size) (hL : L ≤ 3072) (hr : meth.sig.returnType = ret) (hlocks : meth.locks = false) :
    ∀ (fu j : Nat) (iv : Int32) (H : Heap) (locs : List Loc) (ls : Array Slot), L + 1 ≤ 6 * j + fu → 6 * j ≤ L → iv.toInt = 6 * j → lv_has ls 4 [(0, .ref b), (1, .ref x), (2, .ref h), (3, .int iv)] → LSt D s.heap x h j H locs → W p l e room_1 s m #[Value.ref b] below meth c H locs (71 + 63 * j) (93918 + 1100 * j) (lw_Z below #[Value.ref b] s) (F0 m 18 ls []) := by
  obtain ⟨hx, hb, hml, hown, hts, -, -⟩ := id C
  have hbA : ¬ (fun q : Nat => s.heap.size ≤ q) b := Nat.not_le.mpr hbl
  have t_6 : (6 : Int32).toInt = 6 := by decide
  have tL : (Int32.ofNat L).toInt = L := nI_toInt (by omega)
  intro fu
  induction fu with
  | zero => intro j iv H locs ls h1 h2; exact absurd h1 (by omega)
  | succ fu ih =>
    intro j iv H locs ls hfu h6 hi hl hLS
    have back : ∀ (H : Heap) (locs : List Loc), 6 * j + 6 ≤ L → LSt D s.heap x h (j + 1) H locs → W p l e room_1 s m #[Value.ref b] below meth c H locs (71 + 63 * (j + 1)) (93918 + 1100 * (j + 1)) (lw_Z below #[Value.ref b] s) (F0 m 1149 ls []) := by
      intro H locs hj hLS
      obtain ⟨y, ey⟩ : ∃ y : Int32, y = iv + 6 := ⟨_, rfl⟩
      have ty := addI (a := iv) (b := 6) (by omega) (by omega)
      rw [← ey] at ty
      refine lv_iinc (v := y) (lv' := [(3, .int y), (0, .ref b), (1, .ref x), (2, .ref h)]) hx hb dL_law_1149 hl (k := 3) rfl (by rw [ey]; rfl) (by decide) rfl (fun ls hl => ?_)
      refine lv_goto (tgt := 18) hx hb dL_law_1152 (by decide) ?_
      exact ih (j + 1) y H locs ls (by omega) (by omega) (by omega) (lv_sub hl [1, 2, 3, 0] rfl) hLS
    obtain ⟨S, R, u, tl, r1, mt, k, n, hJ, hrest⟩ := id hLS
    refine lv_iload_n hx hb dL_law_18 rfl (lv_at hl 3 rfl) ?_
    refine lv_aload_n hx hb dL_law_19 rfl (lv_at hl 0 rfl) ?_
    refine va_slen (A := fun q => s.heap.size ≤ q) hx hb hX hbl hbA hJ.2.2.1 dL_law_20 ?_
    refine lv_bipush (v := 6) hx hb dL_law_21 (by decide) ?_
    refine lv_isub hx hb dL_law_23 ?_
    refine lv_topi (fun y ey => ?_)
    have ty := subI (a := Int32.ofNat L) (b := 6) (by omega) (by omega)
    rw [← ey] at ty
    refine lv_icmp_gt (tgt := 1155) hx hb dL_law_24 (by decide) (fun c9 => ?_) (fun c9 => ?_)
    · refine lv_iconst (v := 1) hx hb dL_law_1155 (by decide) ?_
      refine va_forget (fun q hq => hJ.2.2.1.2.2 q hq) ?_
      refine W.widen (k := 600000) (n := 7302250) (by omega) (by omega) ?_
      exact lw_ret hx hb hr hlocks dL_law_1156
    · have tc := ltF c9
      have hj : 6 * j + 6 ≤ L := by omega
      refine lv_aload_n hx hb dL_law_27 rfl (lv_at hl 0 rfl) ?_
      refine lv_iload_n hx hb dL_law_28 rfl (lv_at hl 3 rfl) ?_
      refine va_sld (A := fun q => s.heap.size ≤ q) hx hb hX hbl hbA hJ.2.2.1 (inI (by omega) (by omega)) dL_law_29 ?_
      refine lv_bipush (v := 31) hx hb dL_law_30 (by decide) ?_
      refine lv_iand hx hb dL_law_32 ?_
      refine lv_topi (fun w ew => ?_)
      by_cases h_0 : w.toInt = 0
      · refine lv_tableIn (off := 123) (tgt := 156) hx hb dL_law_33 (by omega) (by omega) (by rw [h_0]; rfl) (by decide) ?_
        exact lc_feed C hX hbl hL hi hj hl hLS (fun H locs h9 => back H locs hj h9)
      by_cases h_1 : w.toInt = 1
      · refine lv_tableIn (off := 186) (tgt := 219) hx hb dL_law_33 (by omega) (by omega) (by rw [h_1]; rfl) (by decide) ?_
        exact lc_end C hX hbl hL hi hj hl hLS (fun H locs h9 => back H locs hj h9)
      by_cases h_2 : w.toInt = 2
      · refine lv_tableIn (off := 209) (tgt := 242) hx hb dL_law_33 (by omega) (by omega) (by rw [h_2]; rfl) (by decide) ?_
        exact lc_page C hX hbl hL hi hj hl hLS (fun H locs h9 => back H locs hj h9)
      by_cases h_3 : w.toInt = 3
      · refine lv_tableIn (off := 232) (tgt := 265) hx hb dL_law_33 (by omega) (by omega) (by rw [h_3]; rfl) (by decide) ?_
        exact lc_fault C hX hbl hL hi hj hl hLS (fun H locs h9 => back H locs hj h9)
      by_cases h_4 : w.toInt = 4
      · refine lv_tableIn (off := 255) (tgt := 288) hx hb dL_law_33 (by omega) (by omega) (by rw [h_4]; rfl) (by decide) ?_
        exact lc_part C hX hbl hL hi hj hl hLS (fun H locs h9 => back H locs hj h9)
      by_cases h_5 : w.toInt = 5
      · refine lv_tableIn (off := 298) (tgt := 331) hx hb dL_law_33 (by omega) (by omega) (by rw [h_5]; rfl) (by decide) ?_
        exact lc_text C hX hbl hL hi hj hl hLS (fun H locs h9 => back H locs hj h9)
      by_cases h_6 : w.toInt = 6
      · refine lv_tableIn (off := 351) (tgt := 384) hx hb dL_law_33 (by omega) (by omega) (by rw [h_6]; rfl) (by decide) ?_
        exact lc_far C hX hbl hL hi hj hl hLS (fun H locs h9 => back H locs hj h9)
      by_cases h_7 : w.toInt = 7
      · refine lv_tableIn (off := 404) (tgt := 437) hx hb dL_law_33 (by omega) (by omega) (by rw [h_7]; rfl) (by decide) ?_
        exact lc_cost C hX hbl hL hi hj hl hLS (fun H locs h9 => back H locs hj h9)
      by_cases h_8 : w.toInt = 8
      · refine lv_tableIn (off := 457) (tgt := 490) hx hb dL_law_33 (by omega) (by omega) (by rw [h_8]; rfl) (by decide) ?_
        exact lc_gap C hX hbl hL hi hj hl hLS (fun H locs h9 => back H locs hj h9)
      by_cases h_9 : w.toInt = 9
      · refine lv_tableIn (off := 480) (tgt := 513) hx hb dL_law_33 (by omega) (by omega) (by rw [h_9]; rfl) (by decide) ?_
        exact lc_find C hX hbl hL hi hj hl hLS (fun H locs h9 => back H locs hj h9)
      by_cases h_10 : w.toInt = 10
      · refine lv_tableIn (off := 523) (tgt := 556) hx hb dL_law_33 (by omega) (by omega) (by rw [h_10]; rfl) (by decide) ?_
        exact lc_found C hX hbl hL hi hj hl hLS (fun H locs h9 => back H locs hj h9)
      by_cases h_11 : w.toInt = 11
      · refine lv_tableIn (off := 546) (tgt := 579) hx hb dL_law_33 (by omega) (by omega) (by rw [h_11]; rfl) (by decide) ?_
        exact lc_fits C hX hbl hL hi hj hl hLS (fun H locs h9 => back H locs hj h9)
      by_cases h_12 : w.toInt = 12
      · refine lv_tableIn (off := 599) (tgt := 632) hx hb dL_law_33 (by omega) (by omega) (by rw [h_12]; rfl) (by decide) ?_
        exact lc_fit C hX hbl hL hi hj hl hLS (fun H locs h9 => back H locs hj h9)
      by_cases h_13 : w.toInt = 13
      · refine lv_tableIn (off := 662) (tgt := 695) hx hb dL_law_33 (by omega) (by omega) (by rw [h_13]; rfl) (by decide) ?_
        exact lc_sample C hX hbl hL hi hj hl hLS (fun H locs h9 => back H locs hj h9)
      by_cases h_14 : w.toInt = 14
      · refine lv_tableIn (off := 695) (tgt := 728) hx hb dL_law_33 (by omega) (by omega) (by rw [h_14]; rfl) (by decide) ?_
        exact lc_forget C hX hbl hL hi hj hl hLS (fun H locs h9 => back H locs hj h9)
      by_cases h_15 : w.toInt = 15
      · refine lv_tableIn (off := 708) (tgt := 741) hx hb dL_law_33 (by omega) (by omega) (by rw [h_15]; rfl) (by decide) ?_
        exact lc_stays C hX hbl hL hi hj hl hLS (fun H locs h9 => back H locs hj h9)
      by_cases h_16 : w.toInt = 16
      · refine lv_tableIn (off := 721) (tgt := 754) hx hb dL_law_33 (by omega) (by omega) (by rw [h_16]; rfl) (by decide) ?_
        exact lc_learnt C hX hbl hL hi hj hl hLS (fun H locs h9 => back H locs hj h9)
      by_cases h_17 : w.toInt = 17
      · refine lv_tableIn (off := 734) (tgt := 767) hx hb dL_law_33 (by omega) (by omega) (by rw [h_17]; rfl) (by decide) ?_
        exact lc_seen C hX hbl hL hi hj hl hLS (fun H locs h9 => back H locs hj h9)
      by_cases h_18 : w.toInt = 18
      · refine lv_tableIn (off := 757) (tgt := 790) hx hb dL_law_33 (by omega) (by omega) (by rw [h_18]; rfl) (by decide) ?_
        exact lc_rows C hX hbl hL hi hj hl hLS (fun H locs h9 => back H locs hj h9)
      by_cases h_19 : w.toInt = 19
      · refine lv_tableIn (off := 810) (tgt := 843) hx hb dL_law_33 (by omega) (by omega) (by rw [h_19]; rfl) (by decide) ?_
        exact lc_row C hX hbl hL hi hj hl hLS (fun H locs h9 => back H locs hj h9)
      by_cases h_20 : w.toInt = 20
      · refine lv_tableIn (off := 873) (tgt := 906) hx hb dL_law_33 (by omega) (by omega) (by rw [h_20]; rfl) (by decide) ?_
        exact lc_act C hX hbl hL hi hj hl hLS (fun H locs h9 => back H locs hj h9)
      by_cases h_21 : w.toInt = 21
      · refine lv_tableIn (off := 932) (tgt := 965) hx hb dL_law_33 (by omega) (by omega) (by rw [h_21]; rfl) (by decide) ?_
        exact lc_loop C hX hbl hL hi hj hl hLS (fun H locs h9 => back H locs hj h9)
      by_cases h_22 : w.toInt = 22
      · refine lv_tableIn (off := 1001) (tgt := 1034) hx hb dL_law_33 (by omega) (by omega) (by rw [h_22]; rfl) (by decide) ?_
        exact lc_clear C hX hbl hL hi hj hl hLS (fun H locs h9 => back H locs hj h9)
      by_cases h_23 : w.toInt = 23
      · refine lv_tableIn (off := 1014) (tgt := 1047) hx hb dL_law_33 (by omega) (by omega) (by rw [h_23]; rfl) (by decide) ?_
        exact lc_run C hX hbl hL hi hj hl hLS (fun H locs h9 => back H locs hj h9)
      by_cases h_24 : w.toInt = 24
      · refine lv_tableIn (off := 1037) (tgt := 1070) hx hb dL_law_33 (by omega) (by omega) (by rw [h_24]; rfl) (by decide) ?_
        exact lc_ran C hX hbl hL hi hj hl hLS (fun H locs h9 => back H locs hj h9)
      by_cases h_25 : w.toInt = 25
      · refine lv_tableIn (off := 1060) (tgt := 1093) hx hb dL_law_33 (by omega) (by omega) (by rw [h_25]; rfl) (by decide) ?_
        exact lc_read C hX hbl hL hi hj hl hLS (fun H locs h9 => back H locs hj h9)
      by_cases h_26 : w.toInt = 26
      · refine lv_tableIn (off := 1093) (tgt := 1126) hx hb dL_law_33 (by omega) (by omega) (by rw [h_26]; rfl) (by decide) ?_
        exact lc_about C hX hbl hL hi hj hl hLS (fun H locs h9 => back H locs hj h9)
      refine lv_tableOut (tgt := 1149) hx hb dL_law_33 (by omega) (by decide) ?_
      obtain ⟨hI, kx, hRI, htl, ⟨hu, hr1, hmt⟩, hk, hn⟩ := hrest
      have h9 : LSt D s.heap x h (j + 1) H locs := ⟨S, R, u, tl, r1, mt, k, n, hJ, hI, kx, hRI, htl, ⟨by omega, by omega, hmt⟩, by omega, by omega⟩
      refine r_tightJ hJ (k0 := 71 + 63 * (j + 1)) (n0 := 93918 + 1100 * (j + 1)) (by omega) (by omega) ?_
      exact back H locs hj h9
theorem CI.first {q : Nat} : CI (xl x0 q [1100, 1101, 1102, 1103, 1104, 1105, 1106, 1107, 1108, 1109]) 0 0 (0, 9) (nO Z0 q 11) := by
  have hk : ∀ b n : Nat, mK (nO Z0 q 11) b = n → n ≠ 0 → b = q ∧ n = 12 := fun b n hb hn => by
    by_cases e : b = q
    · subst e; exact ⟨rfl, hb.symm.trans kO⟩
    · exact absurd (hb.symm.trans (va_up_ne _ _ e)) hn
  have no : ∀ b n : Nat, mK (nO Z0 q 11) b = n → n ≠ 0 → n ≠ 12 → False := fun b n hb h1 h2 => h2 (hk b n hb h1).2
  have hR : ∀ f, mR (nO Z0 q 11) f q = none := fun f => cl2_eq
  have hI : ∀ f, mI (nO Z0 q 11) f q = 0 := fun f => cl2_eq
  refine ⟨⟨fun a ci k ha hc hk2 hz => ?_, fun a t i z ha => (no a _ ha (by omega) (by omega)).elim⟩, fun a ha => (no a _ ha (by decide) (by decide)).elim, fun a ha => (no a _ ha (by decide) (by decide)).elim, fun a z ha => (no a _ ha (by decide) (by decide)).elim, fun a z ha => (no a _ ha (by decide) (by decide)).elim, fun a ha => (no a _ ha (by decide) (by decide)).elim, fun a ha => (no a _ ha (by decide) (by decide)).elim, ⟨by decide, by decide⟩, fun a ha => ?_, fun a ha => (no a _ ha (by decide) (by decide)).elim, fun a z ha => (no a _ ha (by decide) (by decide)).elim, fun a z ha hz => ?_, fun a t hr => absurd hr (by decide)⟩
  · obtain ⟨rfl, e2⟩ := hk a _ ha (by omega)
    have e3 : ci = 11 := by omega
    subst e3
    refine ⟨fun hx h1 => absurd ?_ hx, fun z hz2 => by rw [hR] at hz2; cases hz2⟩
    refine Or.inr ⟨rfl, ?_⟩
    have hk20 : k < 20 := hk2
    revert h1
    revert hk20
    clear hx hz ha hk2
    revert k
    decide
  · obtain ⟨rfl, e2⟩ := hk a _ ha (by decide)
    rw [hI, hI]
    decide
  · rw [(hk a _ ha (by decide)).1, (hk z _ hz (by decide)).1]
theorem no10 {x z : Nat} : mK (nO Z0 x 11) z ≠ 10 := by
  intro hz
  by_cases e : z = x
  · subst e
    exact absurd (hz.symm.trans kO) (by decide)
  · exact absurd (hz.symm.trans (va_up_ne _ _ e)) (by show 10 ≠ 0; decide)
section NE
variable {p : Program} {l : Launch} {e : Env} {Rm : Room} {s : State} {m : MethodId} {args : Array Value} {below : List Frame} {meth : Method} {c : Code} {H : Heap} {locs : List Loc} {cells slots : Nat} {Q : State → Prop}
variable {cc : ByteArray} {pc nL : Nat} {own : String} {ls : Array Slot} {rest : List Value} {D : gD} {H0 : gB} {S : Mem} {kc ns : Nat}
theorem r_newOE {ci index : Nat} {r : vw_C} (C : Cx D p s m args c cc nL own) (hM : mH D H0 S kc ns H locs) (hr : vwCl[ci]? = some r) (hl : Cond.classLink own index r.1 ∈ gT) (hi : Cond.instantiable r.1 r.2.2 ∈ gT) (hini : Cond.initialized r.1 ∈ gT) (hcells : cells + 1 ≤ Rm.cells) (hslots : slots + r.2.2 ≤ Rm.slots) (hdg : decode cc pc = .ok (.new index, 3))
    (kk : ∀ (H1 : Heap), mH D H0 (nO S H.size ci) (kc + 1) (ns + r.2.2) H1 locs → W p l e Rm s m args below meth c H1 locs (cells + 1) (slots + r.2.2) Q (F0 m (pc + 3) ls (.ref H.size :: rest))) : W p l e Rm s m args below meth c H locs cells slots Q (F0 m pc ls rest) := by
  obtain ⟨hx, hb, -, hown, hts, hK, -⟩ := C
  obtain ⟨hci, hin, hty, hnm, h100⟩ := cls_ok ci r hr
  have hKn := hK.1.1 ci _ hr
  obtain ⟨cC9, kC9, hfc9, hkC9, hkd9, -, -, hsz9⟩ := Cond.instantiable_spec (hts _ hi)
  refine W.newcK hx hb hown (hts _ hl) (hts _ hi) (hts _ hini) rfl hdg hcells hslots hKn.2.1 rfl fun H1 kC hkC e1 z1 o1 => ?_
  refine kk H1 (hM.push (cell := blank (D.1 ci) kC) e1 ?_ z1 o1 (fun b hb => mSame.nO hb) ⟨fun ci' r' h1 h2 => ?_, fun t h1 h2 => ?_⟩)
  · have h9 : D.1 ci = cC9 := Option.some.inj (hKn.2.1.symm.trans hfc9)
    subst h9
    cases hkC.symm.trans hkC9
    simp [blank, hsz9]
  · have hc : ci' = ci := by simp [mK, va_up] at h1; omega
    subst hc
    have hr2 : r' = r := Option.some.inj (h2.symm.trans hr)
    subst hr2
    exact (u_born (tyOf ci') hts hin hKn hkC e1 hty).to (fun j hj => sval_nO.symm)
  · have : ci + 1 = t + 21 := by simpa [mK, va_up] using h1
    omega
end NE
set_option maxHeartbeats 4000000 in
set_option maxRecDepth 100000 in
theorem whole_start {p : Program} {e : Env} {s : State} {m : MethodId} {below : List Frame} {meth : Method} {c : Code} (l : Launch) {b L : Nat} {xs : Nat → Int32} (hL : L ≤ 3072) (C0 : lw_At p s m meth c b L xs) : W p l e room_1 s m #[Value.ref b] below meth c s.heap [] 0 0 (lw_Z below #[Value.ref b] s) (entryFrame m ([Value.ref b] : List Value).toArray 4) := by
  obtain ⟨hx, hb, hr, hml, hown, hts, hX, hbl, hlocks, hgv⟩ := id C0
  obtain ⟨D, hK, hNW⟩ := law_K hts
  have C : Cx D p s m #[Value.ref b] c cL_law 4 RL := ⟨hx, hb, hml, hown, fun w hw => hts w (List.mem_filter.mp hw).1, hK, hNW⟩
  have hl := lv_entry ([.ref b]) (n := 4) (Nat.le_of_ble_eq_true rfl)
  rw [lg_entry_eq]
  generalize (lg_sl ([.ref b]) ++ List.replicate (4 - (lg_sl ([.ref b])).length) Slot.unset).toArray = ls at hl ⊢
  have hl : lv_has ls 4 [(0, .ref b)] := hl
  have hM : mH D (s.heap, s.heap.size, fun q => q < s.heap.size) Z0 0 0 s.heap [] := ⟨fun a ha => absurd rfl ha, fun q hq => ⟨hq, rfl⟩, rfl, nSl0 rfl, fun q hq => by cases hq⟩
  refine r_newOE (ci := 11) C hM rfl k_L_7 in_X11 ini_X11 (by decide) (by decide) dL_law_0 (fun H hM => ?_)
  have kx : mK (nO Z0 s.heap.size 11) s.heap.size = 12 := kO
  refine lv_dup hx hb dL_law_3 rfl ?_
  refine r_I (As := []) (rest := [.ref s.heap.size]) C hM (c_X11_init l D _ (nO Z0 s.heap.size 11) _ _ s.heap.size CI.first kx rfl (fun z => no10) (by decide)) i_X11_init m_L_9 rfl hl.1 rfl (Nat.le_of_ble_eq_true rfl) ⟨by decide, by decide⟩ ⟨by decide, by decide⟩ dL_law_4 (fun u9 S k1 n1 H locs hp hM => ?_)
  obtain ⟨hk1, hn1, hX9, hI⟩ := hp
  have kx : mK S s.heap.size = 12 := hX9.k kx
  refine W.eq (g2 := F0 m 7 ls [.ref s.heap.size]) rfl ?_
  refine lv_astore_n (lv' := [(1, .ref s.heap.size), (0, .ref b)]) hx hb dL_law_7 rfl hl (by decide) rfl (fun ls hl => ?_)
  have hM2 : mH D (H, s.heap.size, fun q => q < s.heap.size ∨ mK S q ≠ 0) Z0 k1 n1 H locs := ⟨fun a ha => absurd rfl ha, fun q hq => ⟨hq.elim (fun z => (hM.2.1 q z).1) (fun z => (hM.1 q z).2.1), rfl⟩, hM.2.2.1, hM.2.2.2.1, hM.2.2.2.2⟩
  refine r_newOE (ci := 12) C hM2 rfl k_L_10 in_X12 ini_X12 (by decide) (by decide) dL_law_8 (fun H2 hM2 => ?_)
  have hsz : H.size = s.heap.size + k1 := hM.2.2.1
  generalize hh : H.size = h at hM2 ⊢
  have hM3 := hM2.to (rn_start (h := h))
  refine lv_dup hx hb dL_law_11 rfl ?_
  refine r_I (As := []) (rest := [.ref h]) C hM3 (c_X12_init l D _ (k1 + 1) _ h (by show s.heap.size + (k1 + 1) = h + 1; omega)) i_X12_init m_L_12 rfl hl.1 rfl (Nat.le_of_ble_eq_true rfl) ⟨by decide, by decide⟩ ⟨by decide, by decide⟩ dL_law_12 (fun u9 S2 k2 n2 H3 locs hp hM4 => ?_)
  obtain ⟨hk2, hn2, rfl⟩ := hp
  refine W.eq (g2 := F0 m 15 ls [.ref h]) rfl ?_
  refine lv_astore_n (lv' := [(2, .ref h), (1, .ref s.heap.size), (0, .ref b)]) hx hb dL_law_15 rfl hl (by decide) rfl (fun ls hl => ?_)
  refine lv_iconst (v := 0) hx hb dL_law_16 (by decide) ?_
  refine lv_istore_n (lv' := [(3, .int 0), (2, .ref h), (1, .ref s.heap.size), (0, .ref b)]) hx hb dL_law_17 rfl hl (by decide) rfl (fun ls hl => ?_)
  have hJ : LJ D s.heap S h R0 k2 n2 H3 locs := by
    obtain ⟨f1, f2, f3, f4, f5⟩ := hM4
    refine ⟨fun a ha => ?_, fun a ha => ?_, ⟨by have f3 : H3.size = s.heap.size + k2 := f3; omega, fun q hq hz => ?_, f5⟩, f3, f4⟩
    · obtain ⟨⟨q1, q2⟩, q3, q4⟩ := hM.1 a ha
      obtain ⟨q5, q6⟩ := f2 a (Or.inr ha)
      refine ⟨q1, ?_, q5, q4.kept q6⟩
      show (if a = h then 13 else if h < a ∧ a < h + 31 then rkd (a - h - 1) else 0) = 0
      rw [if_neg (by omega), if_neg (by omega)]
    · obtain ⟨⟨q1, q2⟩, q3, q4⟩ := f1 a ha
      exact ⟨q1, q3, q4⟩
    · exact (f2 q (Or.inl hq)).2.trans (hM.2.1 q hq).2
  refine r_tightJ hJ (k0 := 71 + 63 * 0) (n0 := 93918 + 1100 * 0) (by omega) (by simp only [] at *; omega) ?_
  exact law_loop C hX hbl hL hr hlocks (L + 1) 0 0 H3 locs ls (by omega) (by omega) (by decide) (lv_sub hl [3, 2, 1, 0] rfl) ⟨S, R0, 0, 0, 0, 0, k2, n2, hJ, hI, kx, RI0, taped0, ⟨by omega, by omega, by omega⟩, by omega, by simp only [] at *; omega⟩
