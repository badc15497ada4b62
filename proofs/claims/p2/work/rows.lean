section
-- ===== PART A: goes FIRST, ahead of the names: the tables' words, and 'selects' of the private methods out of them =====
/-- a private method of a class that the tables say can be made, by its rows of tables_1 -/
def lw_okq (q : MethodName × Nat) : Prop := (q.1.cls ≠ "java/lang/invoke/MethodHandle" ∧ q.1.cls ≠ "java/lang/invoke/VarHandle") ∧ Cond.instantiable q.1.cls q.2 ∈ tables_1 ∧ Cond.privateMethod q.1 ∈ tables_1 ∧ Cond.instanceMethod q.1 ∈ tables_1
theorem lw_p0 : lw_okq (⟨"ClickBench$Tape", "append", "(I)V"⟩, 2) := ⟨⟨by decide +kernel, by decide +kernel⟩, List.mem_of_getElem? (i := 25) (by decide +kernel), List.mem_of_getElem? (i := 234) (by decide +kernel), List.mem_of_getElem? (i := 235) (by decide +kernel)⟩
theorem lw_p1 : lw_okq (⟨"ClickBench$Reader", "readPage", "()LClickBench$Page;"⟩, 6) := ⟨⟨by decide +kernel, by decide +kernel⟩, List.mem_of_getElem? (i := 41) (by decide +kernel), List.mem_of_getElem? (i := 246) (by decide +kernel), List.mem_of_getElem? (i := 247) (by decide +kernel)⟩
theorem lw_p2 : lw_okq (⟨"ClickBench$Tokens", "rewind", "()V"⟩, 8) := ⟨⟨by decide +kernel, by decide +kernel⟩, List.mem_of_getElem? (i := 47) (by decide +kernel), List.mem_of_getElem? (i := 271) (by decide +kernel), List.mem_of_getElem? (i := 272) (by decide +kernel)⟩
theorem lw_p3 : lw_okq (⟨"ClickBench$Tokens", "advance", "()V"⟩, 8) := ⟨⟨by decide +kernel, by decide +kernel⟩, List.mem_of_getElem? (i := 47) (by decide +kernel), List.mem_of_getElem? (i := 275) (by decide +kernel), List.mem_of_getElem? (i := 276) (by decide +kernel)⟩
theorem lw_p4 : lw_okq (⟨"ClickBench$Tape", "byteAt", "(I)I"⟩, 2) := ⟨⟨by decide +kernel, by decide +kernel⟩, List.mem_of_getElem? (i := 25) (by decide +kernel), List.mem_of_getElem? (i := 279) (by decide +kernel), List.mem_of_getElem? (i := 280) (by decide +kernel)⟩
theorem lw_p5 : lw_okq (⟨"ClickBench$Tokens", "takeWord", "()V"⟩, 8) := ⟨⟨by decide +kernel, by decide +kernel⟩, List.mem_of_getElem? (i := 47) (by decide +kernel), List.mem_of_getElem? (i := 289) (by decide +kernel), List.mem_of_getElem? (i := 290) (by decide +kernel)⟩
theorem lw_p6 : lw_okq (⟨"ClickBench$Tokens", "takeText", "()V"⟩, 8) := ⟨⟨by decide +kernel, by decide +kernel⟩, List.mem_of_getElem? (i := 47) (by decide +kernel), List.mem_of_getElem? (i := 293) (by decide +kernel), List.mem_of_getElem? (i := 294) (by decide +kernel)⟩
theorem lw_p7 : lw_okq (⟨"ClickBench$Tokens", "putTextByte", "(I)V"⟩, 8) := ⟨⟨by decide +kernel, by decide +kernel⟩, List.mem_of_getElem? (i := 47) (by decide +kernel), List.mem_of_getElem? (i := 300) (by decide +kernel), List.mem_of_getElem? (i := 301) (by decide +kernel)⟩
theorem lw_p8 : lw_okq (⟨"ClickBench$Reader", "takeToken", "(LClickBench$Page;)Z"⟩, 6) := ⟨⟨by decide +kernel, by decide +kernel⟩, List.mem_of_getElem? (i := 41) (by decide +kernel), List.mem_of_getElem? (i := 307) (by decide +kernel), List.mem_of_getElem? (i := 308) (by decide +kernel)⟩
theorem lw_p9 : lw_okq (⟨"ClickBench$Reader", "takeName", "()Z"⟩, 6) := ⟨⟨by decide +kernel, by decide +kernel⟩, List.mem_of_getElem? (i := 41) (by decide +kernel), List.mem_of_getElem? (i := 311) (by decide +kernel), List.mem_of_getElem? (i := 312) (by decide +kernel)⟩
theorem lw_p10 : lw_okq (⟨"ClickBench$Reader", "takeKind", "(LClickBench$Page;)Z"⟩, 6) := ⟨⟨by decide +kernel, by decide +kernel⟩, List.mem_of_getElem? (i := 41) (by decide +kernel), List.mem_of_getElem? (i := 315) (by decide +kernel), List.mem_of_getElem? (i := 316) (by decide +kernel)⟩
theorem lw_p11 : lw_okq (⟨"ClickBench$Page", "add", "(JLClickBench$Part;LClickBench$Part;)LClickBench$Part;"⟩, 2) := ⟨⟨by decide +kernel, by decide +kernel⟩, List.mem_of_getElem? (i := 250) (by decide +kernel), List.mem_of_getElem? (i := 319) (by decide +kernel), List.mem_of_getElem? (i := 320) (by decide +kernel)⟩
theorem lw_p12 : lw_okq (⟨"ClickBench$Page", "at", "(I)LClickBench$Part;"⟩, 2) := ⟨⟨by decide +kernel, by decide +kernel⟩, List.mem_of_getElem? (i := 250) (by decide +kernel), List.mem_of_getElem? (i := 328) (by decide +kernel), List.mem_of_getElem? (i := 329) (by decide +kernel)⟩
theorem lw_p13 : lw_okq (⟨"ClickBench$Reader", "move", "(II)Z"⟩, 6) := ⟨⟨by decide +kernel, by decide +kernel⟩, List.mem_of_getElem? (i := 41) (by decide +kernel), List.mem_of_getElem? (i := 431) (by decide +kernel), List.mem_of_getElem? (i := 432) (by decide +kernel)⟩
theorem lw_p14 : lw_okq (⟨"ClickBench$Reader", "takeText", "()Z"⟩, 6) := ⟨⟨by decide +kernel, by decide +kernel⟩, List.mem_of_getElem? (i := 41) (by decide +kernel), List.mem_of_getElem? (i := 435) (by decide +kernel), List.mem_of_getElem? (i := 436) (by decide +kernel)⟩
theorem lw_p15 : lw_okq (⟨"ClickBench$Reader", "takeHarm", "()Z"⟩, 6) := ⟨⟨by decide +kernel, by decide +kernel⟩, List.mem_of_getElem? (i := 41) (by decide +kernel), List.mem_of_getElem? (i := 439) (by decide +kernel), List.mem_of_getElem? (i := 440) (by decide +kernel)⟩
def lw_privs_1 : List (MethodName × Nat) := [(⟨"ClickBench$Tape", "append", "(I)V"⟩, 2), (⟨"ClickBench$Reader", "readPage", "()LClickBench$Page;"⟩, 6), (⟨"ClickBench$Tokens", "rewind", "()V"⟩, 8), (⟨"ClickBench$Tokens", "advance", "()V"⟩, 8), (⟨"ClickBench$Tape", "byteAt", "(I)I"⟩, 2), (⟨"ClickBench$Tokens", "takeWord", "()V"⟩, 8), (⟨"ClickBench$Tokens", "takeText", "()V"⟩, 8), (⟨"ClickBench$Tokens", "putTextByte", "(I)V"⟩, 8), (⟨"ClickBench$Reader", "takeToken", "(LClickBench$Page;)Z"⟩, 6), (⟨"ClickBench$Reader", "takeName", "()Z"⟩, 6), (⟨"ClickBench$Reader", "takeKind", "(LClickBench$Page;)Z"⟩, 6), (⟨"ClickBench$Page", "add", "(JLClickBench$Part;LClickBench$Part;)LClickBench$Part;"⟩, 2), (⟨"ClickBench$Page", "at", "(I)LClickBench$Part;"⟩, 2), (⟨"ClickBench$Reader", "move", "(II)Z"⟩, 6), (⟨"ClickBench$Reader", "takeText", "()Z"⟩, 6), (⟨"ClickBench$Reader", "takeHarm", "()Z"⟩, 6)]
theorem lw_r1 : ∀ q ∈ lw_privs_1, lw_okq q := List.forall_mem_cons.mpr ⟨lw_p0, List.forall_mem_cons.mpr ⟨lw_p1, List.forall_mem_cons.mpr ⟨lw_p2, List.forall_mem_cons.mpr ⟨lw_p3, List.forall_mem_cons.mpr ⟨lw_p4, List.forall_mem_cons.mpr ⟨lw_p5, List.forall_mem_cons.mpr ⟨lw_p6, List.forall_mem_cons.mpr ⟨lw_p7, List.forall_mem_cons.mpr ⟨lw_p8, List.forall_mem_cons.mpr ⟨lw_p9, List.forall_mem_cons.mpr ⟨lw_p10, List.forall_mem_cons.mpr ⟨lw_p11, List.forall_mem_cons.mpr ⟨lw_p12, List.forall_mem_cons.mpr ⟨lw_p13, List.forall_mem_cons.mpr ⟨lw_p14, List.forall_mem_cons.mpr ⟨lw_p15, fun _ h => absurd h List.not_mem_nil⟩⟩⟩⟩⟩⟩⟩⟩⟩⟩⟩⟩⟩⟩⟩⟩
theorem lw_p16 : lw_okq (⟨"ClickBench$Reader", "goDown", "()Z"⟩, 6) := ⟨⟨by decide +kernel, by decide +kernel⟩, List.mem_of_getElem? (i := 41) (by decide +kernel), List.mem_of_getElem? (i := 443) (by decide +kernel), List.mem_of_getElem? (i := 444) (by decide +kernel)⟩
theorem lw_p17 : lw_okq (⟨"ClickBench$Reader", "goUp", "()Z"⟩, 6) := ⟨⟨by decide +kernel, by decide +kernel⟩, List.mem_of_getElem? (i := 41) (by decide +kernel), List.mem_of_getElem? (i := 447) (by decide +kernel), List.mem_of_getElem? (i := 448) (by decide +kernel)⟩
theorem lw_p18 : lw_okq (⟨"ClickBench", "partOn", "(II)LClickBench$Part;"⟩, 13) := ⟨⟨by decide +kernel, by decide +kernel⟩, List.mem_of_getElem? (i := 17) (by decide +kernel), List.mem_of_getElem? (i := 459) (by decide +kernel), List.mem_of_getElem? (i := 460) (by decide +kernel)⟩
theorem lw_p19 : lw_okq (⟨"ClickBench", "pageOn", "(I)LClickBench$Page;"⟩, 13) := ⟨⟨by decide +kernel, by decide +kernel⟩, List.mem_of_getElem? (i := 17) (by decide +kernel), List.mem_of_getElem? (i := 463) (by decide +kernel), List.mem_of_getElem? (i := 464) (by decide +kernel)⟩
theorem lw_p20 : lw_okq (⟨"ClickBench$Part", "textByte", "(I)I"⟩, 17) := ⟨⟨by decide +kernel, by decide +kernel⟩, List.mem_of_getElem? (i := 322) (by decide +kernel), List.mem_of_getElem? (i := 478) (by decide +kernel), List.mem_of_getElem? (i := 479) (by decide +kernel)⟩
theorem lw_p21 : lw_okq (⟨"ClickBench", "likenessFor", "(LClickBench$Part;LClickBench$Page;)LClickBench$Likeness;"⟩, 13) := ⟨⟨by decide +kernel, by decide +kernel⟩, List.mem_of_getElem? (i := 17) (by decide +kernel), List.mem_of_getElem? (i := 486) (by decide +kernel), List.mem_of_getElem? (i := 487) (by decide +kernel)⟩
theorem lw_p22 : lw_okq (⟨"ClickBench", "oldestTable", "()LClickBench$Likeness;"⟩, 13) := ⟨⟨by decide +kernel, by decide +kernel⟩, List.mem_of_getElem? (i := 17) (by decide +kernel), List.mem_of_getElem? (i := 490) (by decide +kernel), List.mem_of_getElem? (i := 491) (by decide +kernel)⟩
theorem lw_p23 : lw_okq (⟨"ClickBench$Likeness", "begin", "(LClickBench$Page;LClickBench$Page;)V"⟩, 5) := ⟨⟨by decide +kernel, by decide +kernel⟩, List.mem_of_getElem? (i := 493) (by decide +kernel), List.mem_of_getElem? (i := 517) (by decide +kernel), List.mem_of_getElem? (i := 518) (by decide +kernel)⟩
theorem lw_p24 : lw_okq (⟨"ClickBench$Likeness", "measure", "(LClickBench$Part;)V"⟩, 5) := ⟨⟨by decide +kernel, by decide +kernel⟩, List.mem_of_getElem? (i := 493) (by decide +kernel), List.mem_of_getElem? (i := 521) (by decide +kernel), List.mem_of_getElem? (i := 522) (by decide +kernel)⟩
theorem lw_p25 : lw_okq (⟨"ClickBench$Likeness", "measureKey", "(LClickBench$Part;)V"⟩, 5) := ⟨⟨by decide +kernel, by decide +kernel⟩, List.mem_of_getElem? (i := 493) (by decide +kernel), List.mem_of_getElem? (i := 526) (by decide +kernel), List.mem_of_getElem? (i := 527) (by decide +kernel)⟩
theorem lw_p26 : lw_okq (⟨"ClickBench$Likeness", "measureForests", "(LClickBench$Part;LClickBench$Part;)V"⟩, 5) := ⟨⟨by decide +kernel, by decide +kernel⟩, List.mem_of_getElem? (i := 493) (by decide +kernel), List.mem_of_getElem? (i := 530) (by decide +kernel), List.mem_of_getElem? (i := 531) (by decide +kernel)⟩
theorem lw_p27 : lw_okq (⟨"ClickBench$Part", "hasTextOf", "(LClickBench$Part;)Z"⟩, 17) := ⟨⟨by decide +kernel, by decide +kernel⟩, List.mem_of_getElem? (i := 322) (by decide +kernel), List.mem_of_getElem? (i := 540) (by decide +kernel), List.mem_of_getElem? (i := 541) (by decide +kernel)⟩
theorem lw_p28 : lw_okq (⟨"ClickBench$Likeness", "farOf", "(LClickBench$Part;LClickBench$Part;)I"⟩, 5) := ⟨⟨by decide +kernel, by decide +kernel⟩, List.mem_of_getElem? (i := 493) (by decide +kernel), List.mem_of_getElem? (i := 544) (by decide +kernel), List.mem_of_getElem? (i := 545) (by decide +kernel)⟩
theorem lw_p29 : lw_okq (⟨"ClickBench$Likeness", "costOf", "(LClickBench$Part;LClickBench$Part;)I"⟩, 5) := ⟨⟨by decide +kernel, by decide +kernel⟩, List.mem_of_getElem? (i := 493) (by decide +kernel), List.mem_of_getElem? (i := 552) (by decide +kernel), List.mem_of_getElem? (i := 553) (by decide +kernel)⟩
theorem lw_p30 : lw_okq (⟨"ClickBench$Finding", "look", "(LClickBench$Part;LClickBench$Page;LClickBench$Likeness;I)I"⟩, 4) := ⟨⟨by decide +kernel, by decide +kernel⟩, List.mem_of_getElem? (i := 109) (by decide +kernel), List.mem_of_getElem? (i := 568) (by decide +kernel), List.mem_of_getElem? (i := 569) (by decide +kernel)⟩
theorem lw_p31 : lw_okq (⟨"ClickBench$Page", "countFitting", "(LClickBench$Part;I)I"⟩, 2) := ⟨⟨by decide +kernel, by decide +kernel⟩, List.mem_of_getElem? (i := 250) (by decide +kernel), List.mem_of_getElem? (i := 585) (by decide +kernel), List.mem_of_getElem? (i := 586) (by decide +kernel)⟩
def lw_privs_2 : List (MethodName × Nat) := [(⟨"ClickBench$Reader", "goDown", "()Z"⟩, 6), (⟨"ClickBench$Reader", "goUp", "()Z"⟩, 6), (⟨"ClickBench", "partOn", "(II)LClickBench$Part;"⟩, 13), (⟨"ClickBench", "pageOn", "(I)LClickBench$Page;"⟩, 13), (⟨"ClickBench$Part", "textByte", "(I)I"⟩, 17), (⟨"ClickBench", "likenessFor", "(LClickBench$Part;LClickBench$Page;)LClickBench$Likeness;"⟩, 13), (⟨"ClickBench", "oldestTable", "()LClickBench$Likeness;"⟩, 13), (⟨"ClickBench$Likeness", "begin", "(LClickBench$Page;LClickBench$Page;)V"⟩, 5), (⟨"ClickBench$Likeness", "measure", "(LClickBench$Part;)V"⟩, 5), (⟨"ClickBench$Likeness", "measureKey", "(LClickBench$Part;)V"⟩, 5), (⟨"ClickBench$Likeness", "measureForests", "(LClickBench$Part;LClickBench$Part;)V"⟩, 5), (⟨"ClickBench$Part", "hasTextOf", "(LClickBench$Part;)Z"⟩, 17), (⟨"ClickBench$Likeness", "farOf", "(LClickBench$Part;LClickBench$Part;)I"⟩, 5), (⟨"ClickBench$Likeness", "costOf", "(LClickBench$Part;LClickBench$Part;)I"⟩, 5), (⟨"ClickBench$Finding", "look", "(LClickBench$Part;LClickBench$Page;LClickBench$Likeness;I)I"⟩, 4), (⟨"ClickBench$Page", "countFitting", "(LClickBench$Part;I)I"⟩, 2)]
theorem lw_r2 : ∀ q ∈ lw_privs_2, lw_okq q := List.forall_mem_cons.mpr ⟨lw_p16, List.forall_mem_cons.mpr ⟨lw_p17, List.forall_mem_cons.mpr ⟨lw_p18, List.forall_mem_cons.mpr ⟨lw_p19, List.forall_mem_cons.mpr ⟨lw_p20, List.forall_mem_cons.mpr ⟨lw_p21, List.forall_mem_cons.mpr ⟨lw_p22, List.forall_mem_cons.mpr ⟨lw_p23, List.forall_mem_cons.mpr ⟨lw_p24, List.forall_mem_cons.mpr ⟨lw_p25, List.forall_mem_cons.mpr ⟨lw_p26, List.forall_mem_cons.mpr ⟨lw_p27, List.forall_mem_cons.mpr ⟨lw_p28, List.forall_mem_cons.mpr ⟨lw_p29, List.forall_mem_cons.mpr ⟨lw_p30, List.forall_mem_cons.mpr ⟨lw_p31, fun _ h => absurd h List.not_mem_nil⟩⟩⟩⟩⟩⟩⟩⟩⟩⟩⟩⟩⟩⟩⟩⟩
theorem lw_p32 : lw_okq (⟨"ClickBench$Part", "fitsMarksOf", "(LClickBench$Part;I)Z"⟩, 17) := ⟨⟨by decide +kernel, by decide +kernel⟩, List.mem_of_getElem? (i := 322) (by decide +kernel), List.mem_of_getElem? (i := 590) (by decide +kernel), List.mem_of_getElem? (i := 591) (by decide +kernel)⟩
theorem lw_p33 : lw_okq (⟨"ClickBench$Part", "marksSharedWith", "(LClickBench$Part;)I"⟩, 17) := ⟨⟨by decide +kernel, by decide +kernel⟩, List.mem_of_getElem? (i := 322) (by decide +kernel), List.mem_of_getElem? (i := 594) (by decide +kernel), List.mem_of_getElem? (i := 595) (by decide +kernel)⟩
theorem lw_p34 : lw_okq (⟨"ClickBench$Part", "hasPathOf", "(LClickBench$Part;II)Z"⟩, 17) := ⟨⟨by decide +kernel, by decide +kernel⟩, List.mem_of_getElem? (i := 322) (by decide +kernel), List.mem_of_getElem? (i := 608) (by decide +kernel), List.mem_of_getElem? (i := 609) (by decide +kernel)⟩
theorem lw_p35 : lw_okq (⟨"ClickBench$Page", "fitting", "(LClickBench$Part;II)LClickBench$Part;"⟩, 2) := ⟨⟨by decide +kernel, by decide +kernel⟩, List.mem_of_getElem? (i := 250) (by decide +kernel), List.mem_of_getElem? (i := 616) (by decide +kernel), List.mem_of_getElem? (i := 617) (by decide +kernel)⟩
theorem lw_p36 : lw_okq (⟨"ClickBench$Samples", "add", "(LClickBench$Part;)V"⟩, 4) := ⟨⟨by decide +kernel, by decide +kernel⟩, List.mem_of_getElem? (i := 133) (by decide +kernel), List.mem_of_getElem? (i := 624) (by decide +kernel), List.mem_of_getElem? (i := 625) (by decide +kernel)⟩
theorem lw_p37 : lw_okq (⟨"ClickBench$Samples", "first", "()LClickBench$Part;"⟩, 4) := ⟨⟨by decide +kernel, by decide +kernel⟩, List.mem_of_getElem? (i := 133) (by decide +kernel), List.mem_of_getElem? (i := 628) (by decide +kernel), List.mem_of_getElem? (i := 629) (by decide +kernel)⟩
theorem lw_p38 : lw_okq (⟨"ClickBench$Samples", "noteShared", "(I)V"⟩, 4) := ⟨⟨by decide +kernel, by decide +kernel⟩, List.mem_of_getElem? (i := 133) (by decide +kernel), List.mem_of_getElem? (i := 634) (by decide +kernel), List.mem_of_getElem? (i := 635) (by decide +kernel)⟩
theorem lw_p39 : lw_okq (⟨"ClickBench$Samples", "dropAll", "()V"⟩, 4) := ⟨⟨by decide +kernel, by decide +kernel⟩, List.mem_of_getElem? (i := 133) (by decide +kernel), List.mem_of_getElem? (i := 642) (by decide +kernel), List.mem_of_getElem? (i := 643) (by decide +kernel)⟩
theorem lw_p40 : lw_okq (⟨"ClickBench$Samples", "leastMarks", "()I"⟩, 4) := ⟨⟨by decide +kernel, by decide +kernel⟩, List.mem_of_getElem? (i := 133) (by decide +kernel), List.mem_of_getElem? (i := 654) (by decide +kernel), List.mem_of_getElem? (i := 655) (by decide +kernel)⟩
theorem lw_p41 : lw_okq (⟨"ClickBench", "loopOn", "(III)LClickBench$Loop;"⟩, 13) := ⟨⟨by decide +kernel, by decide +kernel⟩, List.mem_of_getElem? (i := 17) (by decide +kernel), List.mem_of_getElem? (i := 673) (by decide +kernel), List.mem_of_getElem? (i := 674) (by decide +kernel)⟩
theorem lw_p42 : lw_okq (⟨"ClickBench$Loop", "countRows", "(LClickBench$Page;)I"⟩, 4) := ⟨⟨by decide +kernel, by decide +kernel⟩, List.mem_of_getElem? (i := 681) (by decide +kernel), List.mem_of_getElem? (i := 704) (by decide +kernel), List.mem_of_getElem? (i := 705) (by decide +kernel)⟩
theorem lw_p43 : lw_okq (⟨"ClickBench$Loop", "stepOn", "(LClickBench$Page;I)LClickBench$Part;"⟩, 4) := ⟨⟨by decide +kernel, by decide +kernel⟩, List.mem_of_getElem? (i := 681) (by decide +kernel), List.mem_of_getElem? (i := 708) (by decide +kernel), List.mem_of_getElem? (i := 709) (by decide +kernel)⟩
theorem lw_p44 : lw_okq (⟨"ClickBench$Loop", "rowOn", "(LClickBench$Page;I)LClickBench$Part;"⟩, 4) := ⟨⟨by decide +kernel, by decide +kernel⟩, List.mem_of_getElem? (i := 681) (by decide +kernel), List.mem_of_getElem? (i := 718) (by decide +kernel), List.mem_of_getElem? (i := 719) (by decide +kernel)⟩
theorem lw_p45 : lw_okq (⟨"ClickBench", "tell", "(ZLClickBench$Part;LClickBench$Loop;)I"⟩, 13) := ⟨⟨by decide +kernel, by decide +kernel⟩, List.mem_of_getElem? (i := 17) (by decide +kernel), List.mem_of_getElem? (i := 726) (by decide +kernel), List.mem_of_getElem? (i := 727) (by decide +kernel)⟩
theorem lw_p46 : lw_okq (⟨"ClickBench$Run", "begin", "()V"⟩, 6) := ⟨⟨by decide +kernel, by decide +kernel⟩, List.mem_of_getElem? (i := 159) (by decide +kernel), List.mem_of_getElem? (i := 760) (by decide +kernel), List.mem_of_getElem? (i := 761) (by decide +kernel)⟩
theorem lw_p47 : lw_okq (⟨"ClickBench", "perform", "(LClickBench$Act;LClickBench$Page;)Z"⟩, 13) := ⟨⟨by decide +kernel, by decide +kernel⟩, List.mem_of_getElem? (i := 17) (by decide +kernel), List.mem_of_getElem? (i := 764) (by decide +kernel), List.mem_of_getElem? (i := 765) (by decide +kernel)⟩
def lw_privs_3 : List (MethodName × Nat) := [(⟨"ClickBench$Part", "fitsMarksOf", "(LClickBench$Part;I)Z"⟩, 17), (⟨"ClickBench$Part", "marksSharedWith", "(LClickBench$Part;)I"⟩, 17), (⟨"ClickBench$Part", "hasPathOf", "(LClickBench$Part;II)Z"⟩, 17), (⟨"ClickBench$Page", "fitting", "(LClickBench$Part;II)LClickBench$Part;"⟩, 2), (⟨"ClickBench$Samples", "add", "(LClickBench$Part;)V"⟩, 4), (⟨"ClickBench$Samples", "first", "()LClickBench$Part;"⟩, 4), (⟨"ClickBench$Samples", "noteShared", "(I)V"⟩, 4), (⟨"ClickBench$Samples", "dropAll", "()V"⟩, 4), (⟨"ClickBench$Samples", "leastMarks", "()I"⟩, 4), (⟨"ClickBench", "loopOn", "(III)LClickBench$Loop;"⟩, 13), (⟨"ClickBench$Loop", "countRows", "(LClickBench$Page;)I"⟩, 4), (⟨"ClickBench$Loop", "stepOn", "(LClickBench$Page;I)LClickBench$Part;"⟩, 4), (⟨"ClickBench$Loop", "rowOn", "(LClickBench$Page;I)LClickBench$Part;"⟩, 4), (⟨"ClickBench", "tell", "(ZLClickBench$Part;LClickBench$Loop;)I"⟩, 13), (⟨"ClickBench$Run", "begin", "()V"⟩, 6), (⟨"ClickBench", "perform", "(LClickBench$Act;LClickBench$Page;)Z"⟩, 13)]
theorem lw_r3 : ∀ q ∈ lw_privs_3, lw_okq q := List.forall_mem_cons.mpr ⟨lw_p32, List.forall_mem_cons.mpr ⟨lw_p33, List.forall_mem_cons.mpr ⟨lw_p34, List.forall_mem_cons.mpr ⟨lw_p35, List.forall_mem_cons.mpr ⟨lw_p36, List.forall_mem_cons.mpr ⟨lw_p37, List.forall_mem_cons.mpr ⟨lw_p38, List.forall_mem_cons.mpr ⟨lw_p39, List.forall_mem_cons.mpr ⟨lw_p40, List.forall_mem_cons.mpr ⟨lw_p41, List.forall_mem_cons.mpr ⟨lw_p42, List.forall_mem_cons.mpr ⟨lw_p43, List.forall_mem_cons.mpr ⟨lw_p44, List.forall_mem_cons.mpr ⟨lw_p45, List.forall_mem_cons.mpr ⟨lw_p46, List.forall_mem_cons.mpr ⟨lw_p47, fun _ h => absurd h List.not_mem_nil⟩⟩⟩⟩⟩⟩⟩⟩⟩⟩⟩⟩⟩⟩⟩⟩
theorem lw_p48 : lw_okq (⟨"ClickBench", "performRows", "(LClickBench$Loop;ZLClickBench$Page;)Z"⟩, 13) := ⟨⟨by decide +kernel, by decide +kernel⟩, List.mem_of_getElem? (i := 17) (by decide +kernel), List.mem_of_getElem? (i := 768) (by decide +kernel), List.mem_of_getElem? (i := 769) (by decide +kernel)⟩
theorem lw_p49 : lw_okq (⟨"ClickBench$Run", "take", "(LClickBench$Part;Z)Z"⟩, 6) := ⟨⟨by decide +kernel, by decide +kernel⟩, List.mem_of_getElem? (i := 159) (by decide +kernel), List.mem_of_getElem? (i := 773) (by decide +kernel), List.mem_of_getElem? (i := 774) (by decide +kernel)⟩
theorem lw_p50 : lw_okq (⟨"ClickBench$Run", "keep", "(LClickBench$Part;)V"⟩, 6) := ⟨⟨by decide +kernel, by decide +kernel⟩, List.mem_of_getElem? (i := 159) (by decide +kernel), List.mem_of_getElem? (i := 777) (by decide +kernel), List.mem_of_getElem? (i := 778) (by decide +kernel)⟩
theorem lw_p51 : lw_okq (⟨"ClickBench$Part", "isHarmful", "()Z"⟩, 17) := ⟨⟨by decide +kernel, by decide +kernel⟩, List.mem_of_getElem? (i := 322) (by decide +kernel), List.mem_of_getElem? (i := 781) (by decide +kernel), List.mem_of_getElem? (i := 782) (by decide +kernel)⟩
theorem lw_p52 : lw_okq (⟨"ClickBench$Run", "stop", "(ILClickBench$Part;)Z"⟩, 6) := ⟨⟨by decide +kernel, by decide +kernel⟩, List.mem_of_getElem? (i := 159) (by decide +kernel), List.mem_of_getElem? (i := 785) (by decide +kernel), List.mem_of_getElem? (i := 786) (by decide +kernel)⟩
theorem lw_p53 : lw_okq (⟨"ClickBench$Run", "keptAt", "(I)LClickBench$Part;"⟩, 6) := ⟨⟨by decide +kernel, by decide +kernel⟩, List.mem_of_getElem? (i := 159) (by decide +kernel), List.mem_of_getElem? (i := 798) (by decide +kernel), List.mem_of_getElem? (i := 799) (by decide +kernel)⟩
theorem lw_p54 : lw_okq (⟨"ClickBenchModel", "readPage", "()V"⟩, 57) := ⟨⟨by decide +kernel, by decide +kernel⟩, List.mem_of_getElem? (i := 806) (by decide +kernel), List.mem_of_getElem? (i := 992) (by decide +kernel), List.mem_of_getElem? (i := 993) (by decide +kernel)⟩
theorem lw_p55 : lw_okq (⟨"ClickBenchModel", "next", "()V"⟩, 57) := ⟨⟨by decide +kernel, by decide +kernel⟩, List.mem_of_getElem? (i := 806) (by decide +kernel), List.mem_of_getElem? (i := 996) (by decide +kernel), List.mem_of_getElem? (i := 997) (by decide +kernel)⟩
theorem lw_p56 : lw_okq (⟨"ClickBenchModel", "sign", "(I)I"⟩, 57) := ⟨⟨by decide +kernel, by decide +kernel⟩, List.mem_of_getElem? (i := 806) (by decide +kernel), List.mem_of_getElem? (i := 1000) (by decide +kernel), List.mem_of_getElem? (i := 1001) (by decide +kernel)⟩
theorem lw_p57 : lw_okq (⟨"ClickBenchModel", "readPart", "()V"⟩, 57) := ⟨⟨by decide +kernel, by decide +kernel⟩, List.mem_of_getElem? (i := 806) (by decide +kernel), List.mem_of_getElem? (i := 1007) (by decide +kernel), List.mem_of_getElem? (i := 1008) (by decide +kernel)⟩
theorem lw_p58 : lw_okq (⟨"ClickBenchModel", "wrong", "()V"⟩, 57) := ⟨⟨by decide +kernel, by decide +kernel⟩, List.mem_of_getElem? (i := 806) (by decide +kernel), List.mem_of_getElem? (i := 1011) (by decide +kernel), List.mem_of_getElem? (i := 1012) (by decide +kernel)⟩
theorem lw_p59 : lw_okq (⟨"ClickBenchModel", "fails", "(II)V"⟩, 57) := ⟨⟨by decide +kernel, by decide +kernel⟩, List.mem_of_getElem? (i := 806) (by decide +kernel), List.mem_of_getElem? (i := 1015) (by decide +kernel), List.mem_of_getElem? (i := 1016) (by decide +kernel)⟩
theorem lw_p60 : lw_okq (⟨"ClickBenchModel", "isGood", "()Z"⟩, 57) := ⟨⟨by decide +kernel, by decide +kernel⟩, List.mem_of_getElem? (i := 806) (by decide +kernel), List.mem_of_getElem? (i := 1019) (by decide +kernel), List.mem_of_getElem? (i := 1020) (by decide +kernel)⟩
theorem lw_p61 : lw_okq (⟨"ClickBenchModel", "is", "(I)Z"⟩, 57) := ⟨⟨by decide +kernel, by decide +kernel⟩, List.mem_of_getElem? (i := 806) (by decide +kernel), List.mem_of_getElem? (i := 1026) (by decide +kernel), List.mem_of_getElem? (i := 1027) (by decide +kernel)⟩
theorem lw_p62 : lw_okq (⟨"ClickBenchModel", "measure", "()V"⟩, 57) := ⟨⟨by decide +kernel, by decide +kernel⟩, List.mem_of_getElem? (i := 806) (by decide +kernel), List.mem_of_getElem? (i := 1030) (by decide +kernel), List.mem_of_getElem? (i := 1031) (by decide +kernel)⟩
theorem lw_p63 : lw_okq (⟨"ClickBenchModel", "isUnder", "(III)Z"⟩, 57) := ⟨⟨by decide +kernel, by decide +kernel⟩, List.mem_of_getElem? (i := 806) (by decide +kernel), List.mem_of_getElem? (i := 1034) (by decide +kernel), List.mem_of_getElem? (i := 1035) (by decide +kernel)⟩
def lw_privs_4 : List (MethodName × Nat) := [(⟨"ClickBench", "performRows", "(LClickBench$Loop;ZLClickBench$Page;)Z"⟩, 13), (⟨"ClickBench$Run", "take", "(LClickBench$Part;Z)Z"⟩, 6), (⟨"ClickBench$Run", "keep", "(LClickBench$Part;)V"⟩, 6), (⟨"ClickBench$Part", "isHarmful", "()Z"⟩, 17), (⟨"ClickBench$Run", "stop", "(ILClickBench$Part;)Z"⟩, 6), (⟨"ClickBench$Run", "keptAt", "(I)LClickBench$Part;"⟩, 6), (⟨"ClickBenchModel", "readPage", "()V"⟩, 57), (⟨"ClickBenchModel", "next", "()V"⟩, 57), (⟨"ClickBenchModel", "sign", "(I)I"⟩, 57), (⟨"ClickBenchModel", "readPart", "()V"⟩, 57), (⟨"ClickBenchModel", "wrong", "()V"⟩, 57), (⟨"ClickBenchModel", "fails", "(II)V"⟩, 57), (⟨"ClickBenchModel", "isGood", "()Z"⟩, 57), (⟨"ClickBenchModel", "is", "(I)Z"⟩, 57), (⟨"ClickBenchModel", "measure", "()V"⟩, 57), (⟨"ClickBenchModel", "isUnder", "(III)Z"⟩, 57)]
theorem lw_r4 : ∀ q ∈ lw_privs_4, lw_okq q := List.forall_mem_cons.mpr ⟨lw_p48, List.forall_mem_cons.mpr ⟨lw_p49, List.forall_mem_cons.mpr ⟨lw_p50, List.forall_mem_cons.mpr ⟨lw_p51, List.forall_mem_cons.mpr ⟨lw_p52, List.forall_mem_cons.mpr ⟨lw_p53, List.forall_mem_cons.mpr ⟨lw_p54, List.forall_mem_cons.mpr ⟨lw_p55, List.forall_mem_cons.mpr ⟨lw_p56, List.forall_mem_cons.mpr ⟨lw_p57, List.forall_mem_cons.mpr ⟨lw_p58, List.forall_mem_cons.mpr ⟨lw_p59, List.forall_mem_cons.mpr ⟨lw_p60, List.forall_mem_cons.mpr ⟨lw_p61, List.forall_mem_cons.mpr ⟨lw_p62, List.forall_mem_cons.mpr ⟨lw_p63, fun _ h => absurd h List.not_mem_nil⟩⟩⟩⟩⟩⟩⟩⟩⟩⟩⟩⟩⟩⟩⟩⟩
theorem lw_p64 : lw_okq (⟨"ClickBenchModel", "copyPage", "(II)V"⟩, 57) := ⟨⟨by decide +kernel, by decide +kernel⟩, List.mem_of_getElem? (i := 806) (by decide +kernel), List.mem_of_getElem? (i := 1038) (by decide +kernel), List.mem_of_getElem? (i := 1039) (by decide +kernel)⟩
theorem lw_p65 : lw_okq (⟨"ClickBenchModel", "isPart", "(II)Z"⟩, 57) := ⟨⟨by decide +kernel, by decide +kernel⟩, List.mem_of_getElem? (i := 806) (by decide +kernel), List.mem_of_getElem? (i := 1050) (by decide +kernel), List.mem_of_getElem? (i := 1051) (by decide +kernel)⟩
theorem lw_p66 : lw_okq (⟨"ClickBenchModel", "left", "(II)I"⟩, 57) := ⟨⟨by decide +kernel, by decide +kernel⟩, List.mem_of_getElem? (i := 806) (by decide +kernel), List.mem_of_getElem? (i := 1054) (by decide +kernel), List.mem_of_getElem? (i := 1055) (by decide +kernel)⟩
theorem lw_p67 : lw_okq (⟨"ClickBenchModel", "right", "(II)I"⟩, 57) := ⟨⟨by decide +kernel, by decide +kernel⟩, List.mem_of_getElem? (i := 806) (by decide +kernel), List.mem_of_getElem? (i := 1058) (by decide +kernel), List.mem_of_getElem? (i := 1059) (by decide +kernel)⟩
theorem lw_p68 : lw_okq (⟨"ClickBenchModel", "label", "(II)I"⟩, 57) := ⟨⟨by decide +kernel, by decide +kernel⟩, List.mem_of_getElem? (i := 806) (by decide +kernel), List.mem_of_getElem? (i := 1062) (by decide +kernel), List.mem_of_getElem? (i := 1063) (by decide +kernel)⟩
theorem lw_p69 : lw_okq (⟨"ClickBenchModel", "measureAll", "(II)V"⟩, 57) := ⟨⟨by decide +kernel, by decide +kernel⟩, List.mem_of_getElem? (i := 806) (by decide +kernel), List.mem_of_getElem? (i := 1079) (by decide +kernel), List.mem_of_getElem? (i := 1080) (by decide +kernel)⟩
theorem lw_p70 : lw_okq (⟨"ClickBenchModel", "measureOne", "(IIII)I"⟩, 57) := ⟨⟨by decide +kernel, by decide +kernel⟩, List.mem_of_getElem? (i := 806) (by decide +kernel), List.mem_of_getElem? (i := 1083) (by decide +kernel), List.mem_of_getElem? (i := 1084) (by decide +kernel)⟩
theorem lw_p71 : lw_okq (⟨"ClickBenchModel", "change", "(II)I"⟩, 57) := ⟨⟨by decide +kernel, by decide +kernel⟩, List.mem_of_getElem? (i := 806) (by decide +kernel), List.mem_of_getElem? (i := 1087) (by decide +kernel), List.mem_of_getElem? (i := 1088) (by decide +kernel)⟩
theorem lw_p72 : lw_okq (⟨"ClickBenchModel", "areSameWords", "(II)Z"⟩, 57) := ⟨⟨by decide +kernel, by decide +kernel⟩, List.mem_of_getElem? (i := 806) (by decide +kernel), List.mem_of_getElem? (i := 1091) (by decide +kernel), List.mem_of_getElem? (i := 1092) (by decide +kernel)⟩
theorem lw_p73 : lw_okq (⟨"ClickBenchModel", "costOf", "(IIII)I"⟩, 57) := ⟨⟨by decide +kernel, by decide +kernel⟩, List.mem_of_getElem? (i := 806) (by decide +kernel), List.mem_of_getElem? (i := 1099) (by decide +kernel), List.mem_of_getElem? (i := 1100) (by decide +kernel)⟩
theorem lw_p74 : lw_okq (⟨"ClickBenchModel", "beside", "(IIII)I"⟩, 57) := ⟨⟨by decide +kernel, by decide +kernel⟩, List.mem_of_getElem? (i := 806) (by decide +kernel), List.mem_of_getElem? (i := 1103) (by decide +kernel), List.mem_of_getElem? (i := 1104) (by decide +kernel)⟩
theorem lw_p75 : lw_okq (⟨"ClickBenchModel", "hasPage", "(I)Z"⟩, 57) := ⟨⟨by decide +kernel, by decide +kernel⟩, List.mem_of_getElem? (i := 806) (by decide +kernel), List.mem_of_getElem? (i := 1115) (by decide +kernel), List.mem_of_getElem? (i := 1116) (by decide +kernel)⟩
theorem lw_p76 : lw_okq (⟨"ClickBenchModel", "seek", "(III)I"⟩, 57) := ⟨⟨by decide +kernel, by decide +kernel⟩, List.mem_of_getElem? (i := 806) (by decide +kernel), List.mem_of_getElem? (i := 1119) (by decide +kernel), List.mem_of_getElem? (i := 1120) (by decide +kernel)⟩
theorem lw_p77 : lw_okq (⟨"ClickBenchModel", "alike", "(IIII)I"⟩, 57) := ⟨⟨by decide +kernel, by decide +kernel⟩, List.mem_of_getElem? (i := 806) (by decide +kernel), List.mem_of_getElem? (i := 1131) (by decide +kernel), List.mem_of_getElem? (i := 1132) (by decide +kernel)⟩
theorem lw_p78 : lw_okq (⟨"ClickBenchModel", "kindAbove", "(II)J"⟩, 57) := ⟨⟨by decide +kernel, by decide +kernel⟩, List.mem_of_getElem? (i := 806) (by decide +kernel), List.mem_of_getElem? (i := 1135) (by decide +kernel), List.mem_of_getElem? (i := 1136) (by decide +kernel)⟩
theorem lw_p79 : lw_okq (⟨"ClickBenchModel", "titleAbove", "(II)J"⟩, 57) := ⟨⟨by decide +kernel, by decide +kernel⟩, List.mem_of_getElem? (i := 806) (by decide +kernel), List.mem_of_getElem? (i := 1139) (by decide +kernel), List.mem_of_getElem? (i := 1140) (by decide +kernel)⟩
def lw_privs_5 : List (MethodName × Nat) := [(⟨"ClickBenchModel", "copyPage", "(II)V"⟩, 57), (⟨"ClickBenchModel", "isPart", "(II)Z"⟩, 57), (⟨"ClickBenchModel", "left", "(II)I"⟩, 57), (⟨"ClickBenchModel", "right", "(II)I"⟩, 57), (⟨"ClickBenchModel", "label", "(II)I"⟩, 57), (⟨"ClickBenchModel", "measureAll", "(II)V"⟩, 57), (⟨"ClickBenchModel", "measureOne", "(IIII)I"⟩, 57), (⟨"ClickBenchModel", "change", "(II)I"⟩, 57), (⟨"ClickBenchModel", "areSameWords", "(II)Z"⟩, 57), (⟨"ClickBenchModel", "costOf", "(IIII)I"⟩, 57), (⟨"ClickBenchModel", "beside", "(IIII)I"⟩, 57), (⟨"ClickBenchModel", "hasPage", "(I)Z"⟩, 57), (⟨"ClickBenchModel", "seek", "(III)I"⟩, 57), (⟨"ClickBenchModel", "alike", "(IIII)I"⟩, 57), (⟨"ClickBenchModel", "kindAbove", "(II)J"⟩, 57), (⟨"ClickBenchModel", "titleAbove", "(II)J"⟩, 57)]
theorem lw_r5 : ∀ q ∈ lw_privs_5, lw_okq q := List.forall_mem_cons.mpr ⟨lw_p64, List.forall_mem_cons.mpr ⟨lw_p65, List.forall_mem_cons.mpr ⟨lw_p66, List.forall_mem_cons.mpr ⟨lw_p67, List.forall_mem_cons.mpr ⟨lw_p68, List.forall_mem_cons.mpr ⟨lw_p69, List.forall_mem_cons.mpr ⟨lw_p70, List.forall_mem_cons.mpr ⟨lw_p71, List.forall_mem_cons.mpr ⟨lw_p72, List.forall_mem_cons.mpr ⟨lw_p73, List.forall_mem_cons.mpr ⟨lw_p74, List.forall_mem_cons.mpr ⟨lw_p75, List.forall_mem_cons.mpr ⟨lw_p76, List.forall_mem_cons.mpr ⟨lw_p77, List.forall_mem_cons.mpr ⟨lw_p78, List.forall_mem_cons.mpr ⟨lw_p79, fun _ h => absurd h List.not_mem_nil⟩⟩⟩⟩⟩⟩⟩⟩⟩⟩⟩⟩⟩⟩⟩⟩
theorem lw_p80 : lw_okq (⟨"ClickBenchModel", "areLabels", "(IIII)Z"⟩, 57) := ⟨⟨by decide +kernel, by decide +kernel⟩, List.mem_of_getElem? (i := 806) (by decide +kernel), List.mem_of_getElem? (i := 1143) (by decide +kernel), List.mem_of_getElem? (i := 1144) (by decide +kernel)⟩
theorem lw_p81 : lw_okq (⟨"ClickBenchModel", "arePaths", "(IIII)Z"⟩, 57) := ⟨⟨by decide +kernel, by decide +kernel⟩, List.mem_of_getElem? (i := 806) (by decide +kernel), List.mem_of_getElem? (i := 1147) (by decide +kernel), List.mem_of_getElem? (i := 1148) (by decide +kernel)⟩
theorem lw_p82 : lw_okq (⟨"ClickBenchModel", "lookAtSamples", "()V"⟩, 57) := ⟨⟨by decide +kernel, by decide +kernel⟩, List.mem_of_getElem? (i := 806) (by decide +kernel), List.mem_of_getElem? (i := 1172) (by decide +kernel), List.mem_of_getElem? (i := 1173) (by decide +kernel)⟩
theorem lw_p83 : lw_okq (⟨"ClickBenchModel", "tells", "(I)Z"⟩, 57) := ⟨⟨by decide +kernel, by decide +kernel⟩, List.mem_of_getElem? (i := 806) (by decide +kernel), List.mem_of_getElem? (i := 1179) (by decide +kernel), List.mem_of_getElem? (i := 1180) (by decide +kernel)⟩
theorem lw_p84 : lw_okq (⟨"ClickBenchModel", "lay", "(IIII)Z"⟩, 57) := ⟨⟨by decide +kernel, by decide +kernel⟩, List.mem_of_getElem? (i := 806) (by decide +kernel), List.mem_of_getElem? (i := 1192) (by decide +kernel), List.mem_of_getElem? (i := 1193) (by decide +kernel)⟩
theorem lw_p85 : lw_okq (⟨"ClickBenchModel", "rowsOf", "(II)I"⟩, 57) := ⟨⟨by decide +kernel, by decide +kernel⟩, List.mem_of_getElem? (i := 806) (by decide +kernel), List.mem_of_getElem? (i := 1196) (by decide +kernel), List.mem_of_getElem? (i := 1197) (by decide +kernel)⟩
theorem lw_p86 : lw_okq (⟨"ClickBenchModel", "rowOf", "(III)I"⟩, 57) := ⟨⟨by decide +kernel, by decide +kernel⟩, List.mem_of_getElem? (i := 806) (by decide +kernel), List.mem_of_getElem? (i := 1200) (by decide +kernel), List.mem_of_getElem? (i := 1201) (by decide +kernel)⟩
theorem lw_p87 : lw_okq (⟨"ClickBenchModel", "child", "(IIJI)I"⟩, 57) := ⟨⟨by decide +kernel, by decide +kernel⟩, List.mem_of_getElem? (i := 806) (by decide +kernel), List.mem_of_getElem? (i := 1204) (by decide +kernel), List.mem_of_getElem? (i := 1205) (by decide +kernel)⟩
theorem lw_p88 : lw_okq (⟨"ClickBenchModel", "goes", "(II)Z"⟩, 57) := ⟨⟨by decide +kernel, by decide +kernel⟩, List.mem_of_getElem? (i := 806) (by decide +kernel), List.mem_of_getElem? (i := 1229) (by decide +kernel), List.mem_of_getElem? (i := 1230) (by decide +kernel)⟩
theorem lw_p89 : lw_okq (⟨"ClickBenchModel", "does", "(III)Z"⟩, 57) := ⟨⟨by decide +kernel, by decide +kernel⟩, List.mem_of_getElem? (i := 806) (by decide +kernel), List.mem_of_getElem? (i := 1233) (by decide +kernel), List.mem_of_getElem? (i := 1234) (by decide +kernel)⟩
theorem lw_p90 : lw_okq (⟨"ClickBenchModel", "isInHarm", "(II)Z"⟩, 57) := ⟨⟨by decide +kernel, by decide +kernel⟩, List.mem_of_getElem? (i := 806) (by decide +kernel), List.mem_of_getElem? (i := 1237) (by decide +kernel), List.mem_of_getElem? (i := 1238) (by decide +kernel)⟩
def lw_privs_6 : List (MethodName × Nat) := [(⟨"ClickBenchModel", "areLabels", "(IIII)Z"⟩, 57), (⟨"ClickBenchModel", "arePaths", "(IIII)Z"⟩, 57), (⟨"ClickBenchModel", "lookAtSamples", "()V"⟩, 57), (⟨"ClickBenchModel", "tells", "(I)Z"⟩, 57), (⟨"ClickBenchModel", "lay", "(IIII)Z"⟩, 57), (⟨"ClickBenchModel", "rowsOf", "(II)I"⟩, 57), (⟨"ClickBenchModel", "rowOf", "(III)I"⟩, 57), (⟨"ClickBenchModel", "child", "(IIJI)I"⟩, 57), (⟨"ClickBenchModel", "goes", "(II)Z"⟩, 57), (⟨"ClickBenchModel", "does", "(III)Z"⟩, 57), (⟨"ClickBenchModel", "isInHarm", "(II)Z"⟩, 57)]
theorem lw_r6 : ∀ q ∈ lw_privs_6, lw_okq q := List.forall_mem_cons.mpr ⟨lw_p80, List.forall_mem_cons.mpr ⟨lw_p81, List.forall_mem_cons.mpr ⟨lw_p82, List.forall_mem_cons.mpr ⟨lw_p83, List.forall_mem_cons.mpr ⟨lw_p84, List.forall_mem_cons.mpr ⟨lw_p85, List.forall_mem_cons.mpr ⟨lw_p86, List.forall_mem_cons.mpr ⟨lw_p87, List.forall_mem_cons.mpr ⟨lw_p88, List.forall_mem_cons.mpr ⟨lw_p89, List.forall_mem_cons.mpr ⟨lw_p90, fun _ h => absurd h List.not_mem_nil⟩⟩⟩⟩⟩⟩⟩⟩⟩⟩⟩
def lw_privs : List (MethodName × Nat) := lw_privs_1 ++ (lw_privs_2 ++ (lw_privs_3 ++ (lw_privs_4 ++ (lw_privs_5 ++ (lw_privs_6)))))
def lw_tbl : List Cond := k2_sels lw_privs ++ tables_1
theorem lw_privs_ok : ∀ q ∈ lw_privs, lw_okq q := by
  show ∀ q ∈ lw_privs_1 ++ (lw_privs_2 ++ (lw_privs_3 ++ (lw_privs_4 ++ (lw_privs_5 ++ (lw_privs_6))))), lw_okq q
  exact List.forall_mem_append.mpr ⟨lw_r1, List.forall_mem_append.mpr ⟨lw_r2, List.forall_mem_append.mpr ⟨lw_r3, List.forall_mem_append.mpr ⟨lw_r4, List.forall_mem_append.mpr ⟨lw_r5, lw_r6⟩⟩⟩⟩⟩
def RX0 : String := "ClickBench$Act"
def TX0 : u_T := fun k => match k with
  | 0 => ("ClickBench$Act", "click", "Z", true)
  | 1 => ("ClickBench$Act", "part", "LClickBench$Part;", true)
  | _ => ("ClickBench$Act", "rows", "LClickBench$Loop;", true)
def tyX0 : Nat → FieldType := fun k => match k with
  | 0 => .boolean
  | 1 => .object "ClickBench$Part"
  | _ => .object "ClickBench$Loop"
abbrev wsX00 : List Cond := u_ws RX0 TX0 3
theorem nmX0 : ∀ a, a < 3 → ∀ b, b < 3 → a ≠ b → (TX0 a).2.1 ≠ (TX0 b).2.1 := by decide +kernel
theorem tyX0_ok : ∀ k, k < 3 → parseFieldDescriptor (TX0 k).2.2.1 = some (tyX0 k) := by decide +kernel
abbrev cX0_init : ByteArray := prog_2_method_1_code
def yX0_init : MethodName := ⟨RX0, "<init>", "(ZLClickBench$Part;LClickBench$Loop;)V"⟩
def RX1 : String := "ClickBench$Finding"
def TX1 : u_T := fun k => match k with
  | 0 => ("ClickBench$Finding", "best", "LClickBench$Part;", false)
  | 1 => ("ClickBench$Finding", "next", "LClickBench$Part;", false)
  | 2 => ("ClickBench$Finding", "bestCost", "I", false)
  | _ => ("ClickBench$Finding", "nextCost", "I", false)
def tyX1 : Nat → FieldType := fun k => match k with
  | 0 => .object "ClickBench$Part"
  | 1 => .object "ClickBench$Part"
  | 2 => .int
  | _ => .int
abbrev wsX10 : List Cond := u_ws RX1 TX1 4
theorem nmX1 : ∀ a, a < 4 → ∀ b, b < 4 → a ≠ b → (TX1 a).2.1 ≠ (TX1 b).2.1 := by decide +kernel
theorem tyX1_ok : ∀ k, k < 4 → parseFieldDescriptor (TX1 k).2.2.1 = some (tyX1 k) := by decide +kernel
abbrev cX1_init : ByteArray := prog_3_method_1_code
def yX1_init : MethodName := ⟨RX1, "<init>", "()V"⟩
abbrev cX1_look : ByteArray := prog_3_method_2_code
def yX1_look : MethodName := ⟨RX1, "look", "(LClickBench$Part;LClickBench$Page;LClickBench$Likeness;I)I"⟩
def RX2 : String := "ClickBench$Likeness"
def TX2 : u_T := fun k => match k with
  | 0 => ("ClickBench$Likeness", "forests", "[I", true)
  | 1 => ("ClickBench$Likeness", "fars", "[I", true)
  | 2 => ("ClickBench$Likeness", "known", "[Z", true)
  | 3 => ("ClickBench$Likeness", "from", "LClickBench$Page;", false)
  | _ => ("ClickBench$Likeness", "to", "LClickBench$Page;", false)
def tyX2 : Nat → FieldType := fun k => match k with
  | 0 => .array .int
  | 1 => .array .int
  | 2 => .array .boolean
  | 3 => .object "ClickBench$Page"
  | _ => .object "ClickBench$Page"
abbrev wsX20 : List Cond := u_ws RX2 TX2 5
theorem nmX2 : ∀ a, a < 5 → ∀ b, b < 5 → a ≠ b → (TX2 a).2.1 ≠ (TX2 b).2.1 := by decide +kernel
theorem tyX2_ok : ∀ k, k < 5 → parseFieldDescriptor (TX2 k).2.2.1 = some (tyX2 k) := by decide +kernel
abbrev cX2_init : ByteArray := prog_4_method_1_code
def yX2_init : MethodName := ⟨RX2, "<init>", "([I)V"⟩
abbrev cX2_begin : ByteArray := prog_4_method_2_code
def yX2_begin : MethodName := ⟨RX2, "begin", "(LClickBench$Page;LClickBench$Page;)V"⟩
abbrev cX2_costOf : ByteArray := prog_4_method_3_code
def yX2_costOf : MethodName := ⟨RX2, "costOf", "(LClickBench$Part;LClickBench$Part;)I"⟩
abbrev cX2_farOf : ByteArray := prog_4_method_4_code
def yX2_farOf : MethodName := ⟨RX2, "farOf", "(LClickBench$Part;LClickBench$Part;)I"⟩
abbrev cX2_measure : ByteArray := prog_4_method_5_code
def yX2_measure : MethodName := ⟨RX2, "measure", "(LClickBench$Part;)V"⟩
abbrev cX2_measureKey : ByteArray := prog_4_method_6_code
def yX2_measureKey : MethodName := ⟨RX2, "measureKey", "(LClickBench$Part;)V"⟩
abbrev cX2_measureForests : ByteArray := prog_4_method_7_code
def yX2_measureForests : MethodName := ⟨RX2, "measureForests", "(LClickBench$Part;LClickBench$Part;)V"⟩
abbrev cX2_change : ByteArray := prog_4_method_8_code
def yX2_change : MethodName := ⟨RX2, "change", "(LClickBench$Part;LClickBench$Part;)I"⟩
abbrev cX2_changeAlone : ByteArray := prog_4_method_9_code
def yX2_changeAlone : MethodName := ⟨RX2, "changeAlone", "(LClickBench$Part;LClickBench$Part;)I"⟩
def RX3 : String := "ClickBench$Loop"
def TX3 : u_T := fun k => match k with
  | 0 => ("ClickBench$Loop", "shown", "LClickBench$Part;", true)
  | 1 => ("ClickBench$Loop", "level", "I", true)
  | 2 => ("ClickBench$Loop", "firstTurn", "I", true)
  | _ => ("ClickBench$Loop", "step", "I", true)
def tyX3 : Nat → FieldType := fun k => match k with
  | 0 => .object "ClickBench$Part"
  | 1 => .int
  | 2 => .int
  | _ => .int
abbrev wsX30 : List Cond := u_ws RX3 TX3 4
theorem nmX3 : ∀ a, a < 4 → ∀ b, b < 4 → a ≠ b → (TX3 a).2.1 ≠ (TX3 b).2.1 := by decide +kernel
theorem tyX3_ok : ∀ k, k < 4 → parseFieldDescriptor (TX3 k).2.2.1 = some (tyX3 k) := by decide +kernel
abbrev cX3_init : ByteArray := prog_5_method_1_code
def yX3_init : MethodName := ⟨RX3, "<init>", "(LClickBench$Part;III)V"⟩
abbrev cX3_of : ByteArray := prog_5_method_2_code
def yX3_of : MethodName := ⟨RX3, "of", "(LClickBench$Part;LClickBench$Part;)LClickBench$Loop;"⟩
abbrev cX3_stepOn : ByteArray := prog_5_method_3_code
def yX3_stepOn : MethodName := ⟨RX3, "stepOn", "(LClickBench$Page;I)LClickBench$Part;"⟩
abbrev cX3_countRows : ByteArray := prog_5_method_4_code
def yX3_countRows : MethodName := ⟨RX3, "countRows", "(LClickBench$Page;)I"⟩
abbrev cX3_rowOn : ByteArray := prog_5_method_5_code
def yX3_rowOn : MethodName := ⟨RX3, "rowOn", "(LClickBench$Page;I)LClickBench$Part;"⟩
def RX4 : String := "ClickBench$Page"
def TX4 : u_T := fun k => match k with
  | 0 => ("ClickBench$Page", "parts", "[LClickBench$Part;", true)
  | _ => ("ClickBench$Page", "count", "I", false)
def tyX4 : Nat → FieldType := fun k => match k with
  | 0 => .array (.object "ClickBench$Part")
  | _ => .int
abbrev wsX40 : List Cond := u_ws RX4 TX4 2
theorem nmX4 : ∀ a, a < 2 → ∀ b, b < 2 → a ≠ b → (TX4 a).2.1 ≠ (TX4 b).2.1 := by decide +kernel
theorem tyX4_ok : ∀ k, k < 2 → parseFieldDescriptor (TX4 k).2.2.1 = some (tyX4 k) := by decide +kernel
abbrev cX4_init : ByteArray := prog_6_method_1_code
def yX4_init : MethodName := ⟨RX4, "<init>", "()V"⟩
abbrev cX4_at : ByteArray := prog_6_method_2_code
def yX4_at : MethodName := ⟨RX4, "at", "(I)LClickBench$Part;"⟩
abbrev cX4_add : ByteArray := prog_6_method_3_code
def yX4_add : MethodName := ⟨RX4, "add", "(JLClickBench$Part;LClickBench$Part;)LClickBench$Part;"⟩
abbrev cX4_countFitting : ByteArray := prog_6_method_4_code
def yX4_countFitting : MethodName := ⟨RX4, "countFitting", "(LClickBench$Part;I)I"⟩
abbrev cX4_fitting : ByteArray := prog_6_method_5_code
def yX4_fitting : MethodName := ⟨RX4, "fitting", "(LClickBench$Part;II)LClickBench$Part;"⟩
def RX5 : String := "ClickBench$Part"
def TX5 : u_T := fun k => match k with
  | 0 => ("ClickBench$Part", "page", "LClickBench$Page;", true)
  | 1 => ("ClickBench$Part", "number", "I", true)
  | 2 => ("ClickBench$Part", "kind", "J", true)
  | 3 => ("ClickBench$Part", "parent", "LClickBench$Part;", true)
  | 4 => ("ClickBench$Part", "left", "LClickBench$Part;", true)
  | 5 => ("ClickBench$Part", "label", "LClickBench$Part;", true)
  | 6 => ("ClickBench$Part", "turn", "I", true)
  | 7 => ("ClickBench$Part", "above", "I", true)
  | 8 => ("ClickBench$Part", "right", "LClickBench$Part;", false)
  | 9 => ("ClickBench$Part", "under", "I", false)
  | 10 => ("ClickBench$Part", "name", "J", false)
  | 11 => ("ClickBench$Part", "textHead", "J", false)
  | 12 => ("ClickBench$Part", "textTail", "J", false)
  | 13 => ("ClickBench$Part", "textLength", "I", false)
  | 14 => ("ClickBench$Part", "harm", "Z", false)
  | 15 => ("ClickBench$Part", "clicks", "I", false)
  | _ => ("ClickBench$Part", "clickedInRun", "I", false)
def tyX5 : Nat → FieldType := fun k => match k with
  | 0 => .object "ClickBench$Page"
  | 1 => .int
  | 2 => .long
  | 3 => .object "ClickBench$Part"
  | 4 => .object "ClickBench$Part"
  | 5 => .object "ClickBench$Part"
  | 6 => .int
  | 7 => .int
  | 8 => .object "ClickBench$Part"
  | 9 => .int
  | 10 => .long
  | 11 => .long
  | 12 => .long
  | 13 => .int
  | 14 => .boolean
  | 15 => .int
  | _ => .int
abbrev wsX50 : List Cond := u_ws RX5 TX5 17
theorem nmX5 : ∀ a, a < 17 → ∀ b, b < 17 → a ≠ b → (TX5 a).2.1 ≠ (TX5 b).2.1 := by decide +kernel
theorem tyX5_ok : ∀ k, k < 17 → parseFieldDescriptor (TX5 k).2.2.1 = some (tyX5 k) := by decide +kernel
abbrev cX5_init : ByteArray := prog_7_method_1_code
def yX5_init : MethodName := ⟨RX5, "<init>", "(LClickBench$Page;JLClickBench$Part;LClickBench$Part;)V"⟩
abbrev cX5_labelBehind : ByteArray := prog_7_method_2_code
def yX5_labelBehind : MethodName := ⟨RX5, "labelBehind", "(LClickBench$Part;)LClickBench$Part;"⟩
abbrev cX5_turnBehind : ByteArray := prog_7_method_3_code
def yX5_turnBehind : MethodName := ⟨RX5, "turnBehind", "(LClickBench$Part;J)I"⟩
abbrev cX5_textByte : ByteArray := prog_7_method_4_code
def yX5_textByte : MethodName := ⟨RX5, "textByte", "(I)I"⟩
abbrev cX5_isHarmful : ByteArray := prog_7_method_5_code
def yX5_isHarmful : MethodName := ⟨RX5, "isHarmful", "()Z"⟩
abbrev cX5_hasTextOf : ByteArray := prog_7_method_6_code
def yX5_hasTextOf : MethodName := ⟨RX5, "hasTextOf", "(LClickBench$Part;)Z"⟩
abbrev cX5_hasPathOf : ByteArray := prog_7_method_7_code
def yX5_hasPathOf : MethodName := ⟨RX5, "hasPathOf", "(LClickBench$Part;II)Z"⟩
abbrev cX5_marksSharedWith : ByteArray := prog_7_method_8_code
def yX5_marksSharedWith : MethodName := ⟨RX5, "marksSharedWith", "(LClickBench$Part;)I"⟩
abbrev cX5_fitsMarksOf : ByteArray := prog_7_method_9_code
def yX5_fitsMarksOf : MethodName := ⟨RX5, "fitsMarksOf", "(LClickBench$Part;I)Z"⟩
abbrev cX5_kindOf : ByteArray := prog_7_method_10_code
def yX5_kindOf : MethodName := ⟨RX5, "kindOf", "(LClickBench$Part;)J"⟩
abbrev cX5_nameOf : ByteArray := prog_7_method_11_code
def yX5_nameOf : MethodName := ⟨RX5, "nameOf", "(LClickBench$Part;)J"⟩
abbrev cX5_sameLabel : ByteArray := prog_7_method_12_code
def yX5_sameLabel : MethodName := ⟨RX5, "sameLabel", "(LClickBench$Part;LClickBench$Part;)Z"⟩
def RX6 : String := "ClickBench$Reader"
def TX6 : u_T := fun k => match k with
  | 0 => ("ClickBench$Reader", "tokens", "LClickBench$Tokens;", true)
  | 1 => ("ClickBench$Reader", "faultKind", "I", false)
  | 2 => ("ClickBench$Reader", "faultPlace", "I", false)
  | 3 => ("ClickBench$Reader", "stage", "I", false)
  | 4 => ("ClickBench$Reader", "open", "LClickBench$Part;", false)
  | _ => ("ClickBench$Reader", "latest", "LClickBench$Part;", false)
def tyX6 : Nat → FieldType := fun k => match k with
  | 0 => .object "ClickBench$Tokens"
  | 1 => .int
  | 2 => .int
  | 3 => .int
  | 4 => .object "ClickBench$Part"
  | _ => .object "ClickBench$Part"
abbrev wsX60 : List Cond := u_ws RX6 TX6 6
theorem nmX6 : ∀ a, a < 6 → ∀ b, b < 6 → a ≠ b → (TX6 a).2.1 ≠ (TX6 b).2.1 := by decide +kernel
theorem tyX6_ok : ∀ k, k < 6 → parseFieldDescriptor (TX6 k).2.2.1 = some (tyX6 k) := by decide +kernel
abbrev cX6_init : ByteArray := prog_8_method_1_code
def yX6_init : MethodName := ⟨RX6, "<init>", "(LClickBench$Tape;)V"⟩
abbrev cX6_readPage : ByteArray := prog_8_method_2_code
def yX6_readPage : MethodName := ⟨RX6, "readPage", "()LClickBench$Page;"⟩
abbrev cX6_takeToken : ByteArray := prog_8_method_3_code
def yX6_takeToken : MethodName := ⟨RX6, "takeToken", "(LClickBench$Page;)Z"⟩
abbrev cX6_move : ByteArray := prog_8_method_4_code
def yX6_move : MethodName := ⟨RX6, "move", "(II)Z"⟩
abbrev cX6_takeKind : ByteArray := prog_8_method_5_code
def yX6_takeKind : MethodName := ⟨RX6, "takeKind", "(LClickBench$Page;)Z"⟩
abbrev cX6_takeName : ByteArray := prog_8_method_6_code
def yX6_takeName : MethodName := ⟨RX6, "takeName", "()Z"⟩
abbrev cX6_takeText : ByteArray := prog_8_method_7_code
def yX6_takeText : MethodName := ⟨RX6, "takeText", "()Z"⟩
abbrev cX6_takeHarm : ByteArray := prog_8_method_8_code
def yX6_takeHarm : MethodName := ⟨RX6, "takeHarm", "()Z"⟩
abbrev cX6_goDown : ByteArray := prog_8_method_9_code
def yX6_goDown : MethodName := ⟨RX6, "goDown", "()Z"⟩
abbrev cX6_goUp : ByteArray := prog_8_method_10_code
def yX6_goUp : MethodName := ⟨RX6, "goUp", "()Z"⟩
def RX7 : String := "ClickBench$Run"
def TX7 : u_T := fun k => match k with
  | 0 => ("ClickBench$Run", "kept", "[LClickBench$Part;", true)
  | 1 => ("ClickBench$Run", "serial", "I", false)
  | 2 => ("ClickBench$Run", "reason", "I", false)
  | 3 => ("ClickBench$Run", "stoppedAt", "LClickBench$Part;", false)
  | 4 => ("ClickBench$Run", "clicks", "I", false)
  | _ => ("ClickBench$Run", "reads", "I", false)
def tyX7 : Nat → FieldType := fun k => match k with
  | 0 => .array (.object "ClickBench$Part")
  | 1 => .int
  | 2 => .int
  | 3 => .object "ClickBench$Part"
  | 4 => .int
  | _ => .int
abbrev wsX70 : List Cond := u_ws RX7 TX7 6
theorem nmX7 : ∀ a, a < 6 → ∀ b, b < 6 → a ≠ b → (TX7 a).2.1 ≠ (TX7 b).2.1 := by decide +kernel
theorem tyX7_ok : ∀ k, k < 6 → parseFieldDescriptor (TX7 k).2.2.1 = some (tyX7 k) := by decide +kernel
abbrev cX7_init : ByteArray := prog_9_method_1_code
def yX7_init : MethodName := ⟨RX7, "<init>", "()V"⟩
abbrev cX7_begin : ByteArray := prog_9_method_2_code
def yX7_begin : MethodName := ⟨RX7, "begin", "()V"⟩
abbrev cX7_stop : ByteArray := prog_9_method_3_code
def yX7_stop : MethodName := ⟨RX7, "stop", "(ILClickBench$Part;)Z"⟩
abbrev cX7_take : ByteArray := prog_9_method_4_code
def yX7_take : MethodName := ⟨RX7, "take", "(LClickBench$Part;Z)Z"⟩
abbrev cX7_keep : ByteArray := prog_9_method_5_code
def yX7_keep : MethodName := ⟨RX7, "keep", "(LClickBench$Part;)V"⟩
abbrev cX7_keptAt : ByteArray := prog_9_method_6_code
def yX7_keptAt : MethodName := ⟨RX7, "keptAt", "(I)LClickBench$Part;"⟩
def RX8 : String := "ClickBench$Samples"
def TX8 : u_T := fun k => match k with
  | 0 => ("ClickBench$Samples", "told", "[LClickBench$Part;", true)
  | 1 => ("ClickBench$Samples", "shared", "[Z", true)
  | 2 => ("ClickBench$Samples", "count", "I", false)
  | _ => ("ClickBench$Samples", "steadyMarks", "I", false)
def tyX8 : Nat → FieldType := fun k => match k with
  | 0 => .array (.object "ClickBench$Part")
  | 1 => .array .boolean
  | 2 => .int
  | _ => .int
abbrev wsX80 : List Cond := u_ws RX8 TX8 4
theorem nmX8 : ∀ a, a < 4 → ∀ b, b < 4 → a ≠ b → (TX8 a).2.1 ≠ (TX8 b).2.1 := by decide +kernel
theorem tyX8_ok : ∀ k, k < 4 → parseFieldDescriptor (TX8 k).2.2.1 = some (tyX8 k) := by decide +kernel
abbrev cX8_init : ByteArray := prog_10_method_1_code
def yX8_init : MethodName := ⟨RX8, "<init>", "()V"⟩
abbrev cX8_first : ByteArray := prog_10_method_2_code
def yX8_first : MethodName := ⟨RX8, "first", "()LClickBench$Part;"⟩
abbrev cX8_add : ByteArray := prog_10_method_3_code
def yX8_add : MethodName := ⟨RX8, "add", "(LClickBench$Part;)V"⟩
abbrev cX8_noteShared : ByteArray := prog_10_method_4_code
def yX8_noteShared : MethodName := ⟨RX8, "noteShared", "(I)V"⟩
abbrev cX8_dropAll : ByteArray := prog_10_method_5_code
def yX8_dropAll : MethodName := ⟨RX8, "dropAll", "()V"⟩
abbrev cX8_leastMarks : ByteArray := prog_10_method_6_code
def yX8_leastMarks : MethodName := ⟨RX8, "leastMarks", "()I"⟩
def RX9 : String := "ClickBench$Tape"
def TX9 : u_T := fun k => match k with
  | 0 => ("ClickBench$Tape", "bytes", "[B", true)
  | _ => ("ClickBench$Tape", "length", "I", false)
def tyX9 : Nat → FieldType := fun k => match k with
  | 0 => .array .byte
  | _ => .int
abbrev wsX90 : List Cond := u_ws RX9 TX9 2
theorem nmX9 : ∀ a, a < 2 → ∀ b, b < 2 → a ≠ b → (TX9 a).2.1 ≠ (TX9 b).2.1 := by decide +kernel
theorem tyX9_ok : ∀ k, k < 2 → parseFieldDescriptor (TX9 k).2.2.1 = some (tyX9 k) := by decide +kernel
abbrev cX9_init : ByteArray := prog_11_method_1_code
def yX9_init : MethodName := ⟨RX9, "<init>", "()V"⟩
abbrev cX9_append : ByteArray := prog_11_method_2_code
def yX9_append : MethodName := ⟨RX9, "append", "(I)V"⟩
abbrev cX9_byteAt : ByteArray := prog_11_method_3_code
def yX9_byteAt : MethodName := ⟨RX9, "byteAt", "(I)I"⟩
def RX10 : String := "ClickBench$Tokens"
def TX10 : u_T := fun k => match k with
  | 0 => ("ClickBench$Tokens", "tape", "LClickBench$Tape;", true)
  | 1 => ("ClickBench$Tokens", "at", "I", false)
  | 2 => ("ClickBench$Tokens", "token", "I", false)
  | 3 => ("ClickBench$Tokens", "place", "I", false)
  | 4 => ("ClickBench$Tokens", "word", "J", false)
  | 5 => ("ClickBench$Tokens", "textHead", "J", false)
  | 6 => ("ClickBench$Tokens", "textTail", "J", false)
  | _ => ("ClickBench$Tokens", "textLength", "I", false)
def tyX10 : Nat → FieldType := fun k => match k with
  | 0 => .object "ClickBench$Tape"
  | 1 => .int
  | 2 => .int
  | 3 => .int
  | 4 => .long
  | 5 => .long
  | 6 => .long
  | _ => .int
abbrev wsX100 : List Cond := u_ws RX10 TX10 8
theorem nmX10 : ∀ a, a < 8 → ∀ b, b < 8 → a ≠ b → (TX10 a).2.1 ≠ (TX10 b).2.1 := by decide +kernel
theorem tyX10_ok : ∀ k, k < 8 → parseFieldDescriptor (TX10 k).2.2.1 = some (tyX10 k) := by decide +kernel
abbrev cX10_init : ByteArray := prog_12_method_1_code
def yX10_init : MethodName := ⟨RX10, "<init>", "(LClickBench$Tape;)V"⟩
abbrev cX10_rewind : ByteArray := prog_12_method_2_code
def yX10_rewind : MethodName := ⟨RX10, "rewind", "()V"⟩
abbrev cX10_advance : ByteArray := prog_12_method_3_code
def yX10_advance : MethodName := ⟨RX10, "advance", "()V"⟩
abbrev cX10_takeWord : ByteArray := prog_12_method_4_code
def yX10_takeWord : MethodName := ⟨RX10, "takeWord", "()V"⟩
abbrev cX10_takeText : ByteArray := prog_12_method_5_code
def yX10_takeText : MethodName := ⟨RX10, "takeText", "()V"⟩
abbrev cX10_putTextByte : ByteArray := prog_12_method_6_code
def yX10_putTextByte : MethodName := ⟨RX10, "putTextByte", "(I)V"⟩
abbrev cX10_signToken : ByteArray := prog_12_method_7_code
def yX10_signToken : MethodName := ⟨RX10, "signToken", "(I)I"⟩
abbrev cX10_isBlank : ByteArray := prog_12_method_8_code
def yX10_isBlank : MethodName := ⟨RX10, "isBlank", "(I)Z"⟩
abbrev cX10_isLetter : ByteArray := prog_12_method_9_code
def yX10_isLetter : MethodName := ⟨RX10, "isLetter", "(I)Z"⟩
abbrev cX10_isTextByte : ByteArray := prog_12_method_10_code
def yX10_isTextByte : MethodName := ⟨RX10, "isTextByte", "(I)Z"⟩
def RX11 : String := "ClickBench"
def TX11 : u_T := fun k => match k with
  | 0 => ("ClickBench", "tape", "LClickBench$Tape;", true)
  | 1 => ("ClickBench", "reader", "LClickBench$Reader;", true)
  | 2 => ("ClickBench", "shelves", "[LClickBench$Page;", true)
  | 3 => ("ClickBench", "likenesses", "[LClickBench$Likeness;", true)
  | 4 => ("ClickBench", "forests", "[I", true)
  | 5 => ("ClickBench", "latestFind", "LClickBench$Finding;", true)
  | 6 => ("ClickBench", "findingOfRun", "LClickBench$Finding;", true)
  | 7 => ("ClickBench", "samples", "LClickBench$Samples;", true)
  | 8 => ("ClickBench", "acts", "[LClickBench$Act;", true)
  | 9 => ("ClickBench", "latestRun", "LClickBench$Run;", true)
  | 10 => ("ClickBench", "actCount", "I", false)
  | 11 => ("ClickBench", "oldestLikeness", "I", false)
  | _ => ("ClickBench", "leastGap", "I", false)
def tyX11 : Nat → FieldType := fun k => match k with
  | 0 => .object "ClickBench$Tape"
  | 1 => .object "ClickBench$Reader"
  | 2 => .array (.object "ClickBench$Page")
  | 3 => .array (.object "ClickBench$Likeness")
  | 4 => .array .int
  | 5 => .object "ClickBench$Finding"
  | 6 => .object "ClickBench$Finding"
  | 7 => .object "ClickBench$Samples"
  | 8 => .array (.object "ClickBench$Act")
  | 9 => .object "ClickBench$Run"
  | 10 => .int
  | 11 => .int
  | _ => .int
abbrev wsX110 : List Cond := u_ws RX11 TX11 13
theorem nmX11 : ∀ a, a < 13 → ∀ b, b < 13 → a ≠ b → (TX11 a).2.1 ≠ (TX11 b).2.1 := by decide +kernel
theorem tyX11_ok : ∀ k, k < 13 → parseFieldDescriptor (TX11 k).2.2.1 = some (tyX11 k) := by decide +kernel
abbrev cX11_init : ByteArray := prog_1_method_1_code
def yX11_init : MethodName := ⟨RX11, "<init>", "()V"⟩
abbrev cX11_feed : ByteArray := prog_1_method_2_code
def yX11_feed : MethodName := ⟨RX11, "feed", "(IIIII)I"⟩
abbrev cX11_end : ByteArray := prog_1_method_3_code
def yX11_end : MethodName := ⟨RX11, "end", "(I)I"⟩
abbrev cX11_page : ByteArray := prog_1_method_4_code
def yX11_page : MethodName := ⟨RX11, "page", "(I)I"⟩
abbrev cX11_fault : ByteArray := prog_1_method_5_code
def yX11_fault : MethodName := ⟨RX11, "fault", "(I)I"⟩
abbrev cX11_part : ByteArray := prog_1_method_6_code
def yX11_part : MethodName := ⟨RX11, "part", "(III)I"⟩
abbrev cX11_text : ByteArray := prog_1_method_7_code
def yX11_text : MethodName := ⟨RX11, "text", "(IIII)I"⟩
abbrev cX11_far : ByteArray := prog_1_method_8_code
def yX11_far : MethodName := ⟨RX11, "far", "(IIII)I"⟩
abbrev cX11_cost : ByteArray := prog_1_method_9_code
def yX11_cost : MethodName := ⟨RX11, "cost", "(IIII)I"⟩
abbrev cX11_gap : ByteArray := prog_1_method_10_code
def yX11_gap : MethodName := ⟨RX11, "gap", "(I)Z"⟩
abbrev cX11_find : ByteArray := prog_1_method_11_code
def yX11_find : MethodName := ⟨RX11, "find", "(III)I"⟩
abbrev cX11_found : ByteArray := prog_1_method_12_code
def yX11_found : MethodName := ⟨RX11, "found", "(I)I"⟩
abbrev cX11_fits : ByteArray := prog_1_method_13_code
def yX11_fits : MethodName := ⟨RX11, "fits", "(IIII)I"⟩
abbrev cX11_fit : ByteArray := prog_1_method_14_code
def yX11_fit : MethodName := ⟨RX11, "fit", "(IIIII)I"⟩
abbrev cX11_sample : ByteArray := prog_1_method_15_code
def yX11_sample : MethodName := ⟨RX11, "sample", "(II)I"⟩
abbrev cX11_forget : ByteArray := prog_1_method_16_code
def yX11_forget : MethodName := ⟨RX11, "forget", "()I"⟩
abbrev cX11_stays : ByteArray := prog_1_method_17_code
def yX11_stays : MethodName := ⟨RX11, "stays", "()I"⟩
abbrev cX11_learnt : ByteArray := prog_1_method_18_code
def yX11_learnt : MethodName := ⟨RX11, "learnt", "()I"⟩
abbrev cX11_seen : ByteArray := prog_1_method_19_code
def yX11_seen : MethodName := ⟨RX11, "seen", "(I)I"⟩
abbrev cX11_rows : ByteArray := prog_1_method_20_code
def yX11_rows : MethodName := ⟨RX11, "rows", "(IIII)I"⟩
abbrev cX11_row : ByteArray := prog_1_method_21_code
def yX11_row : MethodName := ⟨RX11, "row", "(IIIII)I"⟩
abbrev cX11_act : ByteArray := prog_1_method_22_code
def yX11_act : MethodName := ⟨RX11, "act", "(ZII)I"⟩
abbrev cX11_loop : ByteArray := prog_1_method_23_code
def yX11_loop : MethodName := ⟨RX11, "loop", "(ZIII)I"⟩
abbrev cX11_clear : ByteArray := prog_1_method_24_code
def yX11_clear : MethodName := ⟨RX11, "clear", "()I"⟩
abbrev cX11_run : ByteArray := prog_1_method_25_code
def yX11_run : MethodName := ⟨RX11, "run", "(I)I"⟩
abbrev cX11_ran : ByteArray := prog_1_method_26_code
def yX11_ran : MethodName := ⟨RX11, "ran", "(I)I"⟩
abbrev cX11_read : ByteArray := prog_1_method_27_code
def yX11_read : MethodName := ⟨RX11, "read", "(II)I"⟩
abbrev cX11_about : ByteArray := prog_1_method_28_code
def yX11_about : MethodName := ⟨RX11, "about", "(I)I"⟩
abbrev cX11_pageOn : ByteArray := prog_1_method_29_code
def yX11_pageOn : MethodName := ⟨RX11, "pageOn", "(I)LClickBench$Page;"⟩
abbrev cX11_partOn : ByteArray := prog_1_method_30_code
def yX11_partOn : MethodName := ⟨RX11, "partOn", "(II)LClickBench$Part;"⟩
abbrev cX11_loopOn : ByteArray := prog_1_method_31_code
def yX11_loopOn : MethodName := ⟨RX11, "loopOn", "(III)LClickBench$Loop;"⟩
abbrev cX11_likenessFor : ByteArray := prog_1_method_32_code
def yX11_likenessFor : MethodName := ⟨RX11, "likenessFor", "(LClickBench$Part;LClickBench$Page;)LClickBench$Likeness;"⟩
abbrev cX11_oldestTable : ByteArray := prog_1_method_33_code
def yX11_oldestTable : MethodName := ⟨RX11, "oldestTable", "()LClickBench$Likeness;"⟩
abbrev cX11_tell : ByteArray := prog_1_method_34_code
def yX11_tell : MethodName := ⟨RX11, "tell", "(ZLClickBench$Part;LClickBench$Loop;)I"⟩
abbrev cX11_perform : ByteArray := prog_1_method_35_code
def yX11_perform : MethodName := ⟨RX11, "perform", "(LClickBench$Act;LClickBench$Page;)Z"⟩
abbrev cX11_performRows : ByteArray := prog_1_method_36_code
def yX11_performRows : MethodName := ⟨RX11, "performRows", "(LClickBench$Loop;ZLClickBench$Page;)Z"⟩
abbrev cX11_areMarks : ByteArray := prog_1_method_37_code
def yX11_areMarks : MethodName := ⟨RX11, "areMarks", "(I)Z"⟩
abbrev cX11_numberOf : ByteArray := prog_1_method_38_code
def yX11_numberOf : MethodName := ⟨RX11, "numberOf", "(LClickBench$Part;)I"⟩
abbrev cX11_letterOf : ByteArray := prog_1_method_39_code
def yX11_letterOf : MethodName := ⟨RX11, "letterOf", "(JI)I"⟩
def RX12 : String := "ClickBenchModel"
def TX12 : u_T := fun k => match k with
  | 0 => ("ClickBenchModel", "tape", "[B", true)
  | 1 => ("ClickBenchModel", "text", "[B", true)
  | 2 => ("ClickBenchModel", "taped", "I", false)
  | 3 => ("ClickBenchModel", "size", "I", false)
  | 4 => ("ClickBenchModel", "faultKind", "I", false)
  | 5 => ("ClickBenchModel", "faultPlace", "I", false)
  | 6 => ("ClickBenchModel", "at", "I", false)
  | 7 => ("ClickBenchModel", "end", "I", false)
  | 8 => ("ClickBenchModel", "token", "I", false)
  | 9 => ("ClickBenchModel", "name", "J", false)
  | 10 => ("ClickBenchModel", "many", "[I", true)
  | 11 => ("ClickBenchModel", "parent", "[I", true)
  | 12 => ("ClickBenchModel", "all", "[I", true)
  | 13 => ("ClickBenchModel", "turn", "[I", true)
  | 14 => ("ClickBenchModel", "deep", "[I", true)
  | 15 => ("ClickBenchModel", "words", "[I", true)
  | 16 => ("ClickBenchModel", "clicks", "[I", true)
  | 17 => ("ClickBenchModel", "kind", "[J", true)
  | 18 => ("ClickBenchModel", "title", "[J", true)
  | 19 => ("ClickBenchModel", "isHarm", "[Z", true)
  | 20 => ("ClickBenchModel", "letters", "[B", true)
  | 21 => ("ClickBenchModel", "open", "[I", true)
  | 22 => ("ClickBenchModel", "opened", "I", false)
  | 23 => ("ClickBenchModel", "trees", "[I", true)
  | 24 => ("ClickBenchModel", "behind", "[I", true)
  | 25 => ("ClickBenchModel", "gap", "I", false)
  | 26 => ("ClickBenchModel", "best", "I", false)
  | 27 => ("ClickBenchModel", "following", "I", false)
  | 28 => ("ClickBenchModel", "bestCost", "I", false)
  | 29 => ("ClickBenchModel", "followingCost", "I", false)
  | 30 => ("ClickBenchModel", "hasFound", "Z", false)
  | 31 => ("ClickBenchModel", "toldBest", "I", false)
  | 32 => ("ClickBenchModel", "toldNext", "I", false)
  | 33 => ("ClickBenchModel", "toldCost", "I", false)
  | 34 => ("ClickBenchModel", "toldNextCost", "I", false)
  | 35 => ("ClickBenchModel", "samplePart", "[I", true)
  | 36 => ("ClickBenchModel", "samples", "I", false)
  | 37 => ("ClickBenchModel", "others", "[I", true)
  | 38 => ("ClickBenchModel", "otherMany", "I", false)
  | 39 => ("ClickBenchModel", "pathKind", "[J", true)
  | 40 => ("ClickBenchModel", "pathTurn", "[I", true)
  | 41 => ("ClickBenchModel", "pathSize", "[I", true)
  | 42 => ("ClickBenchModel", "pathPlace", "[I", true)
  | 43 => ("ClickBenchModel", "pathFrom", "[I", true)
  | 44 => ("ClickBenchModel", "pathStep", "[I", true)
  | 45 => ("ClickBenchModel", "isClick", "[Z", true)
  | 46 => ("ClickBenchModel", "isLoop", "[Z", true)
  | 47 => ("ClickBenchModel", "wasClicked", "[Z", true)
  | 48 => ("ClickBenchModel", "actPart", "[I", true)
  | 49 => ("ClickBenchModel", "readSize", "[I", true)
  | 50 => ("ClickBenchModel", "readLetters", "[B", true)
  | 51 => ("ClickBenchModel", "acts", "I", false)
  | 52 => ("ClickBenchModel", "why", "I", false)
  | 53 => ("ClickBenchModel", "stopped", "I", false)
  | 54 => ("ClickBenchModel", "clicksMade", "I", false)
  | 55 => ("ClickBenchModel", "reads", "I", false)
  | _ => ("ClickBenchModel", "hasRun", "Z", false)
def tyX12 : Nat → FieldType := fun k => match k with
  | 0 => .array .byte
  | 1 => .array .byte
  | 2 => .int
  | 3 => .int
  | 4 => .int
  | 5 => .int
  | 6 => .int
  | 7 => .int
  | 8 => .int
  | 9 => .long
  | 10 => .array .int
  | 11 => .array .int
  | 12 => .array .int
  | 13 => .array .int
  | 14 => .array .int
  | 15 => .array .int
  | 16 => .array .int
  | 17 => .array .long
  | 18 => .array .long
  | 19 => .array .boolean
  | 20 => .array .byte
  | 21 => .array .int
  | 22 => .int
  | 23 => .array .int
  | 24 => .array .int
  | 25 => .int
  | 26 => .int
  | 27 => .int
  | 28 => .int
  | 29 => .int
  | 30 => .boolean
  | 31 => .int
  | 32 => .int
  | 33 => .int
  | 34 => .int
  | 35 => .array .int
  | 36 => .int
  | 37 => .array .int
  | 38 => .int
  | 39 => .array .long
  | 40 => .array .int
  | 41 => .array .int
  | 42 => .array .int
  | 43 => .array .int
  | 44 => .array .int
  | 45 => .array .boolean
  | 46 => .array .boolean
  | 47 => .array .boolean
  | 48 => .array .int
  | 49 => .array .int
  | 50 => .array .byte
  | 51 => .int
  | 52 => .int
  | 53 => .int
  | 54 => .int
  | 55 => .int
  | _ => .boolean
abbrev wsX120 : List Cond := u_ws RX12 TX12 57
theorem nmX12 : ∀ a, a < 57 → ∀ b, b < 57 → a ≠ b → (TX12 a).2.1 ≠ (TX12 b).2.1 := by decide +kernel
theorem tyX12_ok : ∀ k, k < 57 → parseFieldDescriptor (TX12 k).2.2.1 = some (tyX12 k) := by decide +kernel
abbrev cX12_init : ByteArray := prog_14_method_1_code
def yX12_init : MethodName := ⟨RX12, "<init>", "()V"⟩
abbrev cX12_sign : ByteArray := prog_14_method_2_code
def yX12_sign : MethodName := ⟨RX12, "sign", "(I)I"⟩
abbrev cX12_isLetter : ByteArray := prog_14_method_3_code
def yX12_isLetter : MethodName := ⟨RX12, "isLetter", "(I)Z"⟩
abbrev cX12_fails : ByteArray := prog_14_method_4_code
def yX12_fails : MethodName := ⟨RX12, "fails", "(II)V"⟩
abbrev cX12_isGood : ByteArray := prog_14_method_5_code
def yX12_isGood : MethodName := ⟨RX12, "isGood", "()Z"⟩
abbrev cX12_next : ByteArray := prog_14_method_6_code
def yX12_next : MethodName := ⟨RX12, "next", "()V"⟩
abbrev cX12_is : ByteArray := prog_14_method_7_code
def yX12_is : MethodName := ⟨RX12, "is", "(I)Z"⟩
abbrev cX12_wrong : ByteArray := prog_14_method_8_code
def yX12_wrong : MethodName := ⟨RX12, "wrong", "()V"⟩
abbrev cX12_spot : ByteArray := prog_14_method_9_code
def yX12_spot : MethodName := ⟨RX12, "spot", "(II)I"⟩
abbrev cX12_readPart : ByteArray := prog_14_method_10_code
def yX12_readPart : MethodName := ⟨RX12, "readPart", "()V"⟩
abbrev cX12_readPage : ByteArray := prog_14_method_11_code
def yX12_readPage : MethodName := ⟨RX12, "readPage", "()V"⟩
abbrev cX12_measure : ByteArray := prog_14_method_12_code
def yX12_measure : MethodName := ⟨RX12, "measure", "()V"⟩
abbrev cX12_isUnder : ByteArray := prog_14_method_13_code
def yX12_isUnder : MethodName := ⟨RX12, "isUnder", "(III)Z"⟩
abbrev cX12_copyPage : ByteArray := prog_14_method_14_code
def yX12_copyPage : MethodName := ⟨RX12, "copyPage", "(II)V"⟩
abbrev cX12_isShelf : ByteArray := prog_14_method_15_code
def yX12_isShelf : MethodName := ⟨RX12, "isShelf", "(I)Z"⟩
abbrev cX12_page : ByteArray := prog_14_method_16_code
def yX12_page : MethodName := ⟨RX12, "page", "(I)I"⟩
abbrev cX12_fault : ByteArray := prog_14_method_17_code
def yX12_fault : MethodName := ⟨RX12, "fault", "(I)I"⟩
abbrev cX12_isPart : ByteArray := prog_14_method_18_code
def yX12_isPart : MethodName := ⟨RX12, "isPart", "(II)Z"⟩
abbrev cX12_hasPage : ByteArray := prog_14_method_19_code
def yX12_hasPage : MethodName := ⟨RX12, "hasPage", "(I)Z"⟩
abbrev cX12_left : ByteArray := prog_14_method_20_code
def yX12_left : MethodName := ⟨RX12, "left", "(II)I"⟩
abbrev cX12_right : ByteArray := prog_14_method_21_code
def yX12_right : MethodName := ⟨RX12, "right", "(II)I"⟩
abbrev cX12_label : ByteArray := prog_14_method_22_code
def yX12_label : MethodName := ⟨RX12, "label", "(II)I"⟩
abbrev cX12_part : ByteArray := prog_14_method_23_code
def yX12_part : MethodName := ⟨RX12, "part", "(III)I"⟩
abbrev cX12_sizeOf : ByteArray := prog_14_method_24_code
def yX12_sizeOf : MethodName := ⟨RX12, "sizeOf", "(J)I"⟩
abbrev cX12_text : ByteArray := prog_14_method_25_code
def yX12_text : MethodName := ⟨RX12, "text", "(IIII)I"⟩
abbrev cX12_areSameWords : ByteArray := prog_14_method_26_code
def yX12_areSameWords : MethodName := ⟨RX12, "areSameWords", "(II)Z"⟩
abbrev cX12_change : ByteArray := prog_14_method_27_code
def yX12_change : MethodName := ⟨RX12, "change", "(II)I"⟩
abbrev cX12_measureAll : ByteArray := prog_14_method_28_code
def yX12_measureAll : MethodName := ⟨RX12, "measureAll", "(II)V"⟩
abbrev cX12_measureOne : ByteArray := prog_14_method_29_code
def yX12_measureOne : MethodName := ⟨RX12, "measureOne", "(IIII)I"⟩
abbrev cX12_far : ByteArray := prog_14_method_30_code
def yX12_far : MethodName := ⟨RX12, "far", "(IIII)I"⟩
abbrev cX12_beside : ByteArray := prog_14_method_31_code
def yX12_beside : MethodName := ⟨RX12, "beside", "(IIII)I"⟩
abbrev cX12_costOf : ByteArray := prog_14_method_32_code
def yX12_costOf : MethodName := ⟨RX12, "costOf", "(IIII)I"⟩
abbrev cX12_cost : ByteArray := prog_14_method_33_code
def yX12_cost : MethodName := ⟨RX12, "cost", "(IIII)I"⟩
abbrev cX12_gap : ByteArray := prog_14_method_34_code
def yX12_gap : MethodName := ⟨RX12, "gap", "(I)Z"⟩
abbrev cX12_seek : ByteArray := prog_14_method_35_code
def yX12_seek : MethodName := ⟨RX12, "seek", "(III)I"⟩
abbrev cX12_find : ByteArray := prog_14_method_36_code
def yX12_find : MethodName := ⟨RX12, "find", "(III)I"⟩
abbrev cX12_found : ByteArray := prog_14_method_37_code
def yX12_found : MethodName := ⟨RX12, "found", "(I)I"⟩
abbrev cX12_arePaths : ByteArray := prog_14_method_38_code
def yX12_arePaths : MethodName := ⟨RX12, "arePaths", "(IIII)Z"⟩
abbrev cX12_areLabels : ByteArray := prog_14_method_39_code
def yX12_areLabels : MethodName := ⟨RX12, "areLabels", "(IIII)Z"⟩
abbrev cX12_kindAbove : ByteArray := prog_14_method_40_code
def yX12_kindAbove : MethodName := ⟨RX12, "kindAbove", "(II)J"⟩
abbrev cX12_titleAbove : ByteArray := prog_14_method_41_code
def yX12_titleAbove : MethodName := ⟨RX12, "titleAbove", "(II)J"⟩
abbrev cX12_alike : ByteArray := prog_14_method_42_code
def yX12_alike : MethodName := ⟨RX12, "alike", "(IIII)I"⟩
abbrev cX12_fits : ByteArray := prog_14_method_43_code
def yX12_fits : MethodName := ⟨RX12, "fits", "(IIII)I"⟩
abbrev cX12_fit : ByteArray := prog_14_method_44_code
def yX12_fit : MethodName := ⟨RX12, "fit", "(IIIII)I"⟩
abbrev cX12_sample : ByteArray := prog_14_method_45_code
def yX12_sample : MethodName := ⟨RX12, "sample", "(II)I"⟩
abbrev cX12_forget : ByteArray := prog_14_method_46_code
def yX12_forget : MethodName := ⟨RX12, "forget", "()I"⟩
abbrev cX12_stays : ByteArray := prog_14_method_47_code
def yX12_stays : MethodName := ⟨RX12, "stays", "()I"⟩
abbrev cX12_bitsOf : ByteArray := prog_14_method_48_code
def yX12_bitsOf : MethodName := ⟨RX12, "bitsOf", "(I)I"⟩
abbrev cX12_lookAtSamples : ByteArray := prog_14_method_49_code
def yX12_lookAtSamples : MethodName := ⟨RX12, "lookAtSamples", "()V"⟩
abbrev cX12_tells : ByteArray := prog_14_method_50_code
def yX12_tells : MethodName := ⟨RX12, "tells", "(I)Z"⟩
abbrev cX12_learnt : ByteArray := prog_14_method_51_code
def yX12_learnt : MethodName := ⟨RX12, "learnt", "()I"⟩
abbrev cX12_seen : ByteArray := prog_14_method_52_code
def yX12_seen : MethodName := ⟨RX12, "seen", "(I)I"⟩
abbrev cX12_lay : ByteArray := prog_14_method_53_code
def yX12_lay : MethodName := ⟨RX12, "lay", "(IIII)Z"⟩
abbrev cX12_rowOf : ByteArray := prog_14_method_54_code
def yX12_rowOf : MethodName := ⟨RX12, "rowOf", "(III)I"⟩
abbrev cX12_child : ByteArray := prog_14_method_55_code
def yX12_child : MethodName := ⟨RX12, "child", "(IIJI)I"⟩
abbrev cX12_rowsOf : ByteArray := prog_14_method_56_code
def yX12_rowsOf : MethodName := ⟨RX12, "rowsOf", "(II)I"⟩
abbrev cX12_rows : ByteArray := prog_14_method_57_code
def yX12_rows : MethodName := ⟨RX12, "rows", "(IIII)I"⟩
abbrev cX12_row : ByteArray := prog_14_method_58_code
def yX12_row : MethodName := ⟨RX12, "row", "(IIIII)I"⟩
abbrev cX12_act : ByteArray := prog_14_method_59_code
def yX12_act : MethodName := ⟨RX12, "act", "(ZII)I"⟩
abbrev cX12_loop : ByteArray := prog_14_method_60_code
def yX12_loop : MethodName := ⟨RX12, "loop", "(ZIII)I"⟩
abbrev cX12_clear : ByteArray := prog_14_method_61_code
def yX12_clear : MethodName := ⟨RX12, "clear", "()I"⟩
abbrev cX12_isInHarm : ByteArray := prog_14_method_62_code
def yX12_isInHarm : MethodName := ⟨RX12, "isInHarm", "(II)Z"⟩
abbrev cX12_does : ByteArray := prog_14_method_63_code
def yX12_does : MethodName := ⟨RX12, "does", "(III)Z"⟩
abbrev cX12_goes : ByteArray := prog_14_method_64_code
def yX12_goes : MethodName := ⟨RX12, "goes", "(II)Z"⟩
abbrev cX12_run : ByteArray := prog_14_method_65_code
def yX12_run : MethodName := ⟨RX12, "run", "(I)I"⟩
abbrev cX12_ran : ByteArray := prog_14_method_66_code
def yX12_ran : MethodName := ⟨RX12, "ran", "(I)I"⟩
abbrev cX12_read : ByteArray := prog_14_method_67_code
def yX12_read : MethodName := ⟨RX12, "read", "(II)I"⟩
abbrev cX12_about : ByteArray := prog_14_method_68_code
def yX12_about : MethodName := ⟨RX12, "about", "(I)I"⟩
abbrev cX12_feed : ByteArray := prog_14_method_69_code
def yX12_feed : MethodName := ⟨RX12, "feed", "(IIIII)I"⟩
abbrev cX12_end : ByteArray := prog_14_method_70_code
def yX12_end : MethodName := ⟨RX12, "end", "(I)I"⟩
def RJ6 : String := "java/lang/Integer"
abbrev cJ6_bitCount_0f7a4 : ByteArray := prog_15_method_49_code
def yJ6_bitCount_0f7a4 : MethodName := ⟨RJ6, "bitCount", "(I)I"⟩
def RJ9 : String := "java/lang/Math"
abbrev cJ9_abs_0f7a4 : ByteArray := prog_16_method_59_code
def yJ9_abs_0f7a4 : MethodName := ⟨RJ9, "abs", "(I)I"⟩
abbrev cJ9_min_7cf53 : ByteArray := prog_16_method_69_code
def yJ9_min_7cf53 : MethodName := ⟨RJ9, "min", "(II)I"⟩
def RL : String := "ClickBenchLaw"
abbrev cL_law : ByteArray := code
def yL_law : MethodName := ⟨RL, "law", "([I)Z"⟩
abbrev vwCl : List vw_C := [(RX0, TX0, 3), (RX1, TX1, 4), (RX2, TX2, 5), (RX3, TX3, 4), (RX4, TX4, 2), (RX5, TX5, 17), (RX6, TX6, 6), (RX7, TX7, 6), (RX8, TX8, 4), (RX9, TX9, 2), (RX10, TX10, 8), (RX11, TX11, 13), (RX12, TX12, 57)]
end
section
/-! ===== the words that may be carried into every method ===== -/
def gT : List Cond := lw_tbl.filter goodWord
theorem gT_good : GoodIn gT gT := fun w h => ⟨h, good_of_word (List.mem_filter.mp h).2⟩
theorem gT_of {w : Cond} (h : w ∈ tables_1) (hg : goodWord w = true) : w ∈ gT := List.mem_filter.mpr ⟨List.mem_append_right _ h, hg⟩
theorem gT_p {q : MethodName × Nat} (h : q ∈ lw_privs) : Cond.selects q.1.cls q.1 q.1 ∈ gT := List.mem_filter.mpr ⟨List.mem_append_left _ (List.mem_map.mpr ⟨q, h, rfl⟩), rfl⟩
theorem tm1 {w : Cond} (i : Nat) (h : tables_1_1[i]? = some w) : w ∈ tables_1 := List.mem_append_left _ (List.mem_of_getElem? h)
theorem tm2 {w : Cond} (i : Nat) (h : tables_1_2[i]? = some w) : w ∈ tables_1 := List.mem_append_right _ (List.mem_append_left _ (List.mem_of_getElem? h))
theorem tm3 {w : Cond} (i : Nat) (h : tables_1_3[i]? = some w) : w ∈ tables_1 := List.mem_append_right _ (List.mem_append_right _ (List.mem_append_left _ (List.mem_of_getElem? h)))
theorem tm4 {w : Cond} (i : Nat) (h : tables_1_4[i]? = some w) : w ∈ tables_1 := List.mem_append_right _ (List.mem_append_right _ (List.mem_append_right _ (List.mem_append_left _ (List.mem_of_getElem? h))))
theorem tm5 {w : Cond} (i : Nat) (h : tables_1_5[i]? = some w) : w ∈ tables_1 := List.mem_append_right _ (List.mem_append_right _ (List.mem_append_right _ (List.mem_append_right _ (List.mem_append_left _ (List.mem_of_getElem? h)))))
theorem tm6 {w : Cond} (i : Nat) (h : tables_1_6[i]? = some w) : w ∈ tables_1 := List.mem_append_right _ (List.mem_append_right _ (List.mem_append_right _ (List.mem_append_right _ (List.mem_append_right _ (List.mem_of_getElem? h)))))
/-- links to a nest mate's private members -/
def gisN : Cond → Bool
  | .fieldLinkNest .. => true
  | .methodLinkNest .. => true
  | _ => false
def gNW (U : State) : Prop := ∀ w ∈ tables_1, gisN w = true → va_Nw w U
theorem gNW.warm {s U : State} (hW : s.WarmedH U.vm) (h : gNW s) : gNW U := by
  intro w hw hn
  have h1 := h w hw hn
  cases w <;> first | (simp [gisN] at hn; done) | exact va_Nw.warmF hW h1 | exact va_Nw.warmM hW h1
theorem gNW.same {u U : State} (hv : u.vm = U.vm) (h : gNW u) : gNW U := by
  intro w hw hn
  have h1 := h w hw hn
  cases w <;> first | (simp [gisN] at hn; done) | exact va_Nw.same rfl hv h1
/-! ===== the memory: fields and array elements as functions of addresses ===== -/
abbrev Mem : Type := (Nat → Nat) × (Nat → Nat → Int32) × (Nat → Nat → Int64) × (Nat → Nat → Option Nat) × (Nat → Nat) × (Nat → Nat → Int32) × (Nat → Nat → Int64) × (Nat → Nat → Option Nat)
abbrev mK (S : Mem) : Nat → Nat := S.1
abbrev mI (S : Mem) : Nat → Nat → Int32 := S.2.1
abbrev mL (S : Mem) : Nat → Nat → Int64 := S.2.2.1
abbrev mR (S : Mem) : Nat → Nat → Option Nat := S.2.2.2.1
abbrev mN (S : Mem) : Nat → Nat := S.2.2.2.2.1
abbrev aI (S : Mem) : Nat → Nat → Int32 := S.2.2.2.2.2.1
abbrev aL (S : Mem) : Nat → Nat → Int64 := S.2.2.2.2.2.2.1
abbrev aR (S : Mem) : Nat → Nat → Option Nat := S.2.2.2.2.2.2.2
def up2 {α : Type} (F : Nat → Nat → α) (f a : Nat) (v : α) : Nat → Nat → α := fun g b => if g = f ∧ b = a then v else F g b
def cl2 {α : Type} (F : Nat → Nat → α) (a : Nat) (v : α) : Nat → Nat → α := fun g b => if b = a then v else F g b
def cl1 {α : Type} (F : Nat → Nat → α) (a : Nat) (v : α) : Nat → Nat → α := fun b j => if b = a then v else F b j
abbrev pI (S : Mem) (f a : Nat) (v : Int32) : Mem := (S.1, up2 S.2.1 f a v, S.2.2)
abbrev pL (S : Mem) (f a : Nat) (v : Int64) : Mem := (S.1, S.2.1, up2 S.2.2.1 f a v, S.2.2.2)
abbrev pR (S : Mem) (f a : Nat) (v : Option Nat) : Mem := (S.1, S.2.1, S.2.2.1, up2 S.2.2.2.1 f a v, S.2.2.2.2)
abbrev qI (S : Mem) (a i : Nat) (v : Int32) : Mem := (S.1, S.2.1, S.2.2.1, S.2.2.2.1, S.2.2.2.2.1, up2 S.2.2.2.2.2.1 a i v, S.2.2.2.2.2.2)
abbrev qL (S : Mem) (a i : Nat) (v : Int64) : Mem := (S.1, S.2.1, S.2.2.1, S.2.2.2.1, S.2.2.2.2.1, S.2.2.2.2.2.1, up2 S.2.2.2.2.2.2.1 a i v, S.2.2.2.2.2.2.2)
abbrev qR (S : Mem) (a i : Nat) (v : Option Nat) : Mem := (S.1, S.2.1, S.2.2.1, S.2.2.2.1, S.2.2.2.2.1, S.2.2.2.2.2.1, S.2.2.2.2.2.2.1, up2 S.2.2.2.2.2.2.2 a i v)
abbrev nO (S : Mem) (a ci : Nat) : Mem := (va_up S.1 a (ci + 1), cl2 S.2.1 a 0, cl2 S.2.2.1 a 0, cl2 S.2.2.2.1 a none, S.2.2.2.2)
abbrev nA (S : Mem) (a t n : Nat) : Mem := (va_up S.1 a (t + 21), S.2.1, S.2.2.1, S.2.2.2.1, va_up S.2.2.2.2.1 a n, cl1 S.2.2.2.2.2.1 a 0, cl1 S.2.2.2.2.2.2.1 a 0, cl1 S.2.2.2.2.2.2.2 a none)
def tyOf (ci k : Nat) : FieldType := match ci with
  | 0 => tyX0 k
  | 1 => tyX1 k
  | 2 => tyX2 k
  | 3 => tyX3 k
  | 4 => tyX4 k
  | 5 => tyX5 k
  | 6 => tyX6 k
  | 7 => tyX7 k
  | 8 => tyX8 k
  | 9 => tyX9 k
  | 10 => tyX10 k
  | 11 => tyX11 k
  | _ => tyX12 k
/-- a field's shape: 0 a number of 32 bits, 1 of 64, 2 a reference -/
def shp (ci k : Nat) : Nat := match tyOf ci k with
  | .long => 1
  | .object _ => 2
  | .array _ => 2
  | _ => 0
def sval (ci k : Nat) (S : Mem) (a : Nat) : Value := match shp ci k with
  | 0 => .int (mI S (100 * ci + k) a)
  | 1 => .long (mL S (100 * ci + k) a)
  | _ => va_rf (mR S (100 * ci + k) a)
def marr (t : Nat) (S : Mem) (a : Nat) : (Nat → Int32) ⊕ (Nat → Int64) ⊕ (Nat → UInt32) ⊕ (Nat → UInt64) ⊕ (Nat → Option Nat) := match t with
  | 0 => .inl (aI S a)
  | 1 => .inr (.inl (aL S a))
  | 2 => .inl (aI S a)
  | 3 => .inl (aI S a)
  | _ => .inr (.inr (.inr (.inr (aR S a))))
abbrev gD : Type := (Nat → ClassId) × (Nat → Nat → Nat) × (Nat → ClassId)
def gtys (dA : Nat → ClassId) : List (ClassId × FieldType) := [(dA 0, .int), (dA 1, .long), (dA 2, .byte), (dA 3, .boolean), (dA 4, .object RX5), (dA 5, .object RX4), (dA 6, .object RX2), (dA 7, .object RX0)]
def gAO (U : State) : Prop := va_AO RX5 U ∧ va_AO RX4 U ∧ va_AO RX2 U ∧ va_AO RX0 U
def gK (D : gD) (U : State) : Prop := va_K (D.1, D.2.1) vwCl (gtys D.2.2) U ∧ gAO U
theorem gK.moved {D : gD} {u U : State} (hv : u.vm.Alike U.vm) (h : gK D u) : gK D U := ⟨va_K.moved hv h.1, h.2.1.moved hv, h.2.2.1.moved hv, h.2.2.2.1.moved hv, h.2.2.2.2.moved hv⟩
/-- the cell at a is what the memory says -/
def mOK (D : gD) (S : Mem) (a : Nat) (H : Heap) : Prop :=
  (∀ (ci : Nat) (r : vw_C), mK S a = ci + 1 → vwCl[ci]? = some r → t_OB a (D.1 ci) r.2.2 (D.2.1 ci) H (fun k => sval ci k S a)) ∧
  (∀ t : Nat, mK S a = t + 21 → t < 8 → H[a]? = some (vp_cell (D.2.2 t) (mN S a, marr t S a)))
def nSl (H0 H : Heap) : Nat := ((H.toList.drop H0.size).map (fun c => c.slots.size)).sum
/-- the heap holds the memory; below H0's end it is H0; k cells of n slots are new since H0; what was written lies behind H0 -/
def mH (D : gD) (H0 : Heap) (S : Mem) (k n : Nat) (H : Heap) (locs : List Loc) : Prop :=
  (∀ a, mK S a ≠ 0 → H0.size ≤ a ∧ a < H.size ∧ mOK D S a H) ∧ (∀ q, q < H0.size → H[q]? = H0[q]?) ∧ H.size = H0.size + k ∧ nSl H0 H = n ∧ ∀ l ∈ locs, H0.size ≤ l.base
theorem mH.fresh {D : gD} {H0 H : Heap} {S : Mem} {k n : Nat} {locs : List Loc} (h : mH D H0 S k n H locs) {a : Nat} (ha : H.size ≤ a) : mK S a = 0 := by
  cases hz : mK S a with
  | zero => rfl
  | succ j => exact absurd (h.1 a (by rw [hz]; exact Nat.succ_ne_zero j)).2.1 (Nat.not_lt.mpr ha)
theorem mH.locs {D : gD} {H0 H : Heap} {S : Mem} {k n : Nat} {locs l2 : List Loc} (h : mH D H0 S k n H locs) (h2 : ∀ l ∈ l2, H0.size ≤ l.base) : mH D H0 S k n H l2 := ⟨h.1, h.2.1, h.2.2.1, h.2.2.2.1, h2⟩
theorem mOK.kept {D : gD} {S : Mem} {a : Nat} {H H1 : Heap} (h : mOK D S a H) (hq : H1[a]? = H[a]?) : mOK D S a H1 :=
  ⟨fun ci r h1 h2 => (h.1 ci r h1 h2).kept hq, fun t h1 h2 => hq.trans (h.2 t h1 h2)⟩
/-- the memories say the same of the cell at b -/
def mSame (S S1 : Mem) (b : Nat) : Prop := mK S1 b = mK S b ∧ (∀ ci k, sval ci k S1 b = sval ci k S b) ∧ mN S1 b = mN S b ∧ ∀ t, marr t S1 b = marr t S b
theorem mOK.same {D : gD} {S S1 : Mem} {b : Nat} {H : Heap} (h : mOK D S b H) (hs : mSame S S1 b) : mOK D S1 b H := by
  obtain ⟨e1, e2, e3, e4⟩ := hs
  refine ⟨fun ci r h1 h2 => (h.1 ci r (e1 ▸ h1) h2).to (fun k _ => (e2 ci k).symm), fun t h1 h2 => ?_⟩
  rw [e3, e4]
  exact h.2 t (e1 ▸ h1) h2
/-- one cell of the heap was written, its slots as many as before -/
theorem mH.write {D : gD} {H0 H H1 : Heap} {S S1 : Mem} {k n a i : Nat} {locs : List Loc} {cell cell1 : Cell} (h : mH D H0 S k n H locs) (ha : mK S a ≠ 0) (hk : ∀ b, mK S1 b = mK S b) (hc : H[a]? = some cell) (hc1 : H1[a]? = some cell1) (hsz : cell1.slots.size = cell.slots.size)
    (z : H1.size = H.size) (oq : ∀ q, q ≠ a → H1[q]? = H[q]?) (hs : ∀ b, b ≠ a → mSame S S1 b) (hok : mOK D S1 a H1) : mH D H0 S1 k n H1 (locs ++ [⟨a, i⟩]) := by
  have hba : H0.size ≤ a := (h.1 a ha).1
  refine ⟨fun b hb => ?_, fun q hq => ?_, z.trans h.2.2.1, ?_, fun l hl => ?_⟩
  · rw [hk] at hb
    obtain ⟨g1, g2, g3⟩ := h.1 b hb
    refine ⟨g1, by rw [z]; exact g2, ?_⟩
    by_cases e : b = a
    · rw [e]; exact hok
    · exact (g3.kept (oq b e)).same (hs b e)
  · rw [oq q (by omega)]; exact h.2.1 q hq
  · rw [← h.2.2.2.1]
    have hm : H1.toList.map (fun c => c.slots.size) = H.toList.map (fun c => c.slots.size) := by
      apply List.ext_getElem?
      intro q
      rw [List.getElem?_map, List.getElem?_map, Array.getElem?_toList, Array.getElem?_toList]
      by_cases e : q = a
      · subst e; rw [hc, hc1]; simp [hsz]
      · rw [oq q e]
    show ((H1.toList.drop H0.size).map (fun c => c.slots.size)).sum = ((H.toList.drop H0.size).map (fun c => c.slots.size)).sum
    rw [List.map_drop, List.map_drop, hm]
  · rcases List.mem_append.mp hl with h1 | h1
    · exact h.2.2.2.2 l h1
    · rw [List.mem_singleton.mp h1]; exact hba
/-- a cell came -/
theorem mH.push {D : gD} {H0 H H1 : Heap} {S S1 : Mem} {k n w : Nat} {locs : List Loc} {cell : Cell} (h : mH D H0 S k n H locs) (hc : H1[H.size]? = some cell) (hw : cell.slots.size = w) (z : H1.size = H.size + 1) (oq : ∀ q, q < H.size → H1[q]? = H[q]?)
    (hs : ∀ b, b ≠ H.size → mSame S S1 b) (hok : mOK D S1 H.size H1) : mH D H0 S1 (k + 1) (n + w) H1 locs := by
  have hle : H0.size ≤ H.size := by rw [h.2.2.1]; omega
  refine ⟨fun b hb => ?_, fun q hq => ?_, by rw [z, h.2.2.1]; omega, ?_, h.2.2.2.2⟩
  · by_cases e : b = H.size
    · rw [e]; exact ⟨hle, by omega, hok⟩
    · have hb' : mK S b ≠ 0 := by rw [← (hs b e).1]; exact hb
      obtain ⟨g1, g2, g3⟩ := h.1 b hb'
      exact ⟨g1, by omega, (g3.kept (oq b g2)).same (hs b e)⟩
  · rw [oq q (by omega)]; exact h.2.1 q hq
  · have hl : H1.toList = H.toList ++ [cell] := by
      apply List.ext_getElem?
      intro q
      rw [Array.getElem?_toList]
      rcases Nat.lt_trichotomy q H.size with e | e | e
      · rw [oq q e, List.getElem?_append_left (by simpa using e), Array.getElem?_toList]
      · subst e; rw [hc, List.getElem?_append_right (by simp)]; simp
      · rw [List.getElem?_append_right (by simp; omega)]
        have h1 : H1[q]? = none := by rw [Array.getElem?_eq_none_iff, z]; omega
        rw [h1]
        symm
        rw [List.getElem?_eq_none_iff]
        simp; omega
    show ((H1.toList.drop H0.size).map (fun c => c.slots.size)).sum = n + w
    rw [hl, List.drop_append_of_le_length (by simpa using hle), List.map_append, List.sum_append, ← h.2.2.2.1, ← hw]
    simp [nSl]
theorem mSame.rf {S : Mem} {b : Nat} : mSame S S b := ⟨rfl, fun _ _ => rfl, rfl, fun _ => rfl⟩
theorem up2_ne {α : Type} {F : Nat → Nat → α} {f a g b : Nat} {v : α} (h : ¬ (g = f ∧ b = a)) : up2 F f a v g b = F g b := by simp [up2, h]
theorem up2_eq {α : Type} {F : Nat → Nat → α} {f a : Nat} {v : α} : up2 F f a v f a = v := by simp [up2]
theorem sval_pI {S : Mem} {f a b : Nat} {v : Int32} (h : b ≠ a) (ci k : Nat) : sval ci k (pI S f a v) b = sval ci k S b := by
  unfold sval
  split <;> simp [mI, mL, mR, up2, h]
theorem sval_pL {S : Mem} {f a b : Nat} {v : Int64} (h : b ≠ a) (ci k : Nat) : sval ci k (pL S f a v) b = sval ci k S b := by
  unfold sval
  split <;> simp [mI, mL, mR, up2, h]
theorem sval_pR {S : Mem} {f a b : Nat} {v : Option Nat} (h : b ≠ a) (ci k : Nat) : sval ci k (pR S f a v) b = sval ci k S b := by
  unfold sval
  split <;> simp [mI, mL, mR, up2, h]
theorem marr_q {S S1 : Mem} {b : Nat} (h1 : aI S1 b = aI S b) (h2 : aL S1 b = aL S b) (h3 : aR S1 b = aR S b) (t : Nat) : marr t S1 b = marr t S b := by
  unfold marr
  split <;> simp [h1, h2, h3]
theorem inT0 : ∀ w ∈ wsX00, w ∈ gT := by decide +kernel
theorem inT1 : ∀ w ∈ wsX10, w ∈ gT := by decide +kernel
theorem inT2 : ∀ w ∈ wsX20, w ∈ gT := by decide +kernel
theorem inT3 : ∀ w ∈ wsX30, w ∈ gT := by decide +kernel
theorem inT4 : ∀ w ∈ wsX40, w ∈ gT := by decide +kernel
theorem inT5 : ∀ w ∈ wsX50, w ∈ gT := by decide +kernel
theorem inT6 : ∀ w ∈ wsX60, w ∈ gT := by decide +kernel
theorem inT7 : ∀ w ∈ wsX70, w ∈ gT := by decide +kernel
theorem inT8 : ∀ w ∈ wsX80, w ∈ gT := by decide +kernel
theorem inT9 : ∀ w ∈ wsX90, w ∈ gT := by decide +kernel
theorem inT10 : ∀ w ∈ wsX100, w ∈ gT := by decide +kernel
theorem inT11 : ∀ w ∈ wsX110, w ∈ gT := by decide +kernel
theorem inT12 : ∀ w ∈ wsX120, w ∈ gT := by decide +kernel
/-- what holds of each class's fields -/
theorem cls_ok (ci : Nat) (r : vw_C) (h : vwCl[ci]? = some r) : ci < 13 ∧ (∀ w ∈ u_ws r.1 r.2.1 r.2.2, w ∈ gT) ∧ (∀ k, k < r.2.2 → parseFieldDescriptor (r.2.1 k).2.2.1 = some (tyOf ci k)) ∧ (∀ a, a < r.2.2 → ∀ b, b < r.2.2 → a ≠ b → (r.2.1 a).2.1 ≠ (r.2.1 b).2.1) ∧ r.2.2 < 100 := by
  match ci, h with
  | 0, h => cases h; exact ⟨by decide, inT0, tyX0_ok, nmX0, by decide⟩
  | 1, h => cases h; exact ⟨by decide, inT1, tyX1_ok, nmX1, by decide⟩
  | 2, h => cases h; exact ⟨by decide, inT2, tyX2_ok, nmX2, by decide⟩
  | 3, h => cases h; exact ⟨by decide, inT3, tyX3_ok, nmX3, by decide⟩
  | 4, h => cases h; exact ⟨by decide, inT4, tyX4_ok, nmX4, by decide⟩
  | 5, h => cases h; exact ⟨by decide, inT5, tyX5_ok, nmX5, by decide⟩
  | 6, h => cases h; exact ⟨by decide, inT6, tyX6_ok, nmX6, by decide⟩
  | 7, h => cases h; exact ⟨by decide, inT7, tyX7_ok, nmX7, by decide⟩
  | 8, h => cases h; exact ⟨by decide, inT8, tyX8_ok, nmX8, by decide⟩
  | 9, h => cases h; exact ⟨by decide, inT9, tyX9_ok, nmX9, by decide⟩
  | 10, h => cases h; exact ⟨by decide, inT10, tyX10_ok, nmX10, by decide⟩
  | 11, h => cases h; exact ⟨by decide, inT11, tyX11_ok, nmX11, by decide⟩
  | 12, h => cases h; exact ⟨by decide, inT12, tyX12_ok, nmX12, by decide⟩
  | n + 13, h => exact absurd (List.getElem?_eq_some_iff.mp h).1 (by simp [vwCl])
end
section
/-- what a method's body has at hand -/
def Cx (D : gD) (p : Program) (s : State) (m : MethodId) (args : Array Value) (c : Code) (cc : ByteArray) (nL : Nat) (own : String) : Prop :=
  p.tables.exec = Jvm.exec ∧ c.code = cc ∧ c.maxLocals = nL ∧ s.vm.findClass own = some m.cls ∧ (∀ w ∈ gT, w.before args s = true) ∧ gK D s ∧ gNW s
/-- the field k of the class ci under the number index of the class own -/
def fl (own : String) (index ci k : Nat) : Prop := ∃ r : vw_C, vwCl[ci]? = some r ∧ k < r.2.2 ∧ Cond.fieldLink own index (r.2.1 k).1 (r.2.1 k).2.1 (r.2.1 k).2.2.1 ∈ gT
def fn (own : String) (index ci k : Nat) : Prop := ∃ (r : vw_C) (host : String), vwCl[ci]? = some r ∧ k < r.2.2 ∧ Cond.fieldLinkNest own index (r.2.1 k).1 (r.2.1 k).2.1 (r.2.1 k).2.2.1 host ∈ tables_1
section Rows
variable {p : Program} {l : Launch} {e : Env} {R : Room} {s : State} {m : MethodId} {args : Array Value} {below : List Frame} {meth : Method} {c : Code} {H : Heap} {locs : List Loc} {cells slots : Nat} {Q : State → Prop}
variable {cc : ByteArray} {pc nL : Nat} {own : String} {ls : Array Slot} {rest : List Value} {D : gD} {H0 : Heap} {S S1 : Mem} {kc ns a : Nat}
theorem r_get {ci k index : Nat} {v : Value} (C : Cx D p s m args c cc nL own) (hM : mH D H0 S kc ns H locs) (hk : mK S a = ci + 1) (hf : fl own index ci k) (hv : sval ci k S a = v) (hdg : decode cc pc = .ok (.getfield index, 3))
    (kk : W p l e R s m args below meth c H locs cells slots Q (F0 m (pc + 3) ls (v :: rest))) : W p l e R s m args below meth c H locs cells slots Q (F0 m pc ls (.ref a :: rest)) := by
  obtain ⟨hx, hb, -, hown, hts, hK, -⟩ := C
  obtain ⟨r, hr, hkN, hw⟩ := hf
  obtain ⟨cell, q1, q2, q3, q4⟩ := (hM.1 a (by rw [hk]; omega)).2.2.1 ci r hk hr
  obtain ⟨hS, hfc, kC, hkC, hkind⟩ := hK.1.1 ci _ hr
  obtain ⟨cf, kf, fi, f, hi, hsl⟩ := hS k hkN
  refine W.getf hx hb hown (hts _ hw) hi (u_facts hfc hkC (u_lays hts (cls_ok ci r hr).2.1 hkN) hi).1 q1 (by rw [q3]; exact fun h => by cases h) (v := v) ?_ rfl rfl hdg kk
  rw [hsl, q4 k hkN, ← hv]
theorem r_getN {ci k index : Nat} {v : Value} (C : Cx D p s m args c cc nL own) (hM : mH D H0 S kc ns H locs) (hk : mK S a = ci + 1) (hf : fn own index ci k) (hv : sval ci k S a = v) (hdg : decode cc pc = .ok (.getfield index, 3))
    (kk : W p l e R s m args below meth c H locs cells slots Q (F0 m (pc + 3) ls (v :: rest))) : W p l e R s m args below meth c H locs cells slots Q (F0 m pc ls (.ref a :: rest)) := by
  obtain ⟨hx, hb, -, hown, hts, hK, hN⟩ := C
  obtain ⟨r, host, hr, hkN, hw⟩ := hf
  obtain ⟨cell, q1, q2, q3, q4⟩ := (hM.1 a (by rw [hk]; omega)).2.2.1 ci r hk hr
  obtain ⟨hS, hfc, kC, hkC, hkind⟩ := hK.1.1 ci _ hr
  obtain ⟨cf, kf, fi, f, hi, hsl⟩ := hS k hkN
  refine va_Wgetf hx hb hown (va_Nw.use rfl (hN _ hw rfl)) hi (u_facts hfc hkC (u_lays hts (cls_ok ci r hr).2.1 hkN) hi).1 q1 (by rw [q3]; exact fun h => by cases h) (v := v) ?_ rfl rfl hdg kk
  rw [hsl, q4 k hkN, ← hv]
theorem sval_cg {S S1 : Mem} {ci j a : Nat} (h1 : mI S1 (100 * ci + j) a = mI S (100 * ci + j) a) (h2 : mL S1 (100 * ci + j) a = mL S (100 * ci + j) a) (h3 : mR S1 (100 * ci + j) a = mR S (100 * ci + j) a) : sval ci j S1 a = sval ci j S a := by
  unfold sval
  rw [h1, h2, h3]
/-- the memory with one field of one object written -/
def mPut (S S1 : Mem) (ci k a : Nat) (v : Value) : Prop := (∀ b, mK S1 b = mK S b) ∧ (∀ b, b ≠ a → mSame S S1 b) ∧ ∀ j, j < 100 → sval ci j S1 a = updV (fun j => sval ci j S a) k v j
theorem mPut.I {S : Mem} {ci k a : Nat} {x : Int32} (h : shp ci k = 0) : mPut S (pI S (100 * ci + k) a x) ci k a (.int x) := by
  refine ⟨fun _ => rfl, fun b hb => ⟨rfl, fun ci' k' => sval_pI hb ci' k', rfl, fun _ => rfl⟩, fun j hj => ?_⟩
  unfold updV
  by_cases e : j = k
  · subst e
    unfold sval
    rw [h]
    simp [mI, up2]
  · rw [if_neg e]
    exact sval_cg (by simp [mI, up2, e]) (by simp [mL, up2, e]) (by simp [mR, up2, e])
theorem mPut.L {S : Mem} {ci k a : Nat} {x : Int64} (h : shp ci k = 1) : mPut S (pL S (100 * ci + k) a x) ci k a (.long x) := by
  refine ⟨fun _ => rfl, fun b hb => ⟨rfl, fun ci' k' => sval_pL hb ci' k', rfl, fun _ => rfl⟩, fun j hj => ?_⟩
  unfold updV
  by_cases e : j = k
  · subst e
    unfold sval
    rw [h]
    simp [mL, up2]
  · rw [if_neg e]
    exact sval_cg (by simp [mI, up2, e]) (by simp [mL, up2, e]) (by simp [mR, up2, e])
theorem mPut.Rf {S : Mem} {ci k a : Nat} {x : Option Nat} (h : shp ci k = 2) : mPut S (pR S (100 * ci + k) a x) ci k a (va_rf x) := by
  refine ⟨fun _ => rfl, fun b hb => ⟨rfl, fun ci' k' => sval_pR hb ci' k', rfl, fun _ => rfl⟩, fun j hj => ?_⟩
  unfold updV
  by_cases e : j = k
  · subst e
    unfold sval
    rw [h]
    simp [mR, up2]
  · rw [if_neg e]
    exact sval_cg (by simp [mI, up2, e]) (by simp [mL, up2, e]) (by simp [mR, up2, e])
theorem mPut.done {ci k i : Nat} {r : vw_C} {v : Value} {cell : Cell} {H1 : Heap} {Ts : List Cond} (hts : ∀ w ∈ Ts, w.before args s = true) (hin : ∀ w ∈ u_ws r.1 r.2.1 r.2.2, w ∈ Ts) (hK : gK D s) (hM : mH D H0 S kc ns H locs) (hk : mK S a = ci + 1) (hr : vwCl[ci]? = some r) (hkN : k < r.2.2) (hp : mPut S S1 ci k a v) (q1 : H[a]? = some cell) (q2 : cell.cls = D.1 ci) (q3 : cell.vm = .none) (q4 : ∀ j, j < r.2.2 → cell.slots[D.2.1 ci j]? = some (sval ci j S a))
    (e1 : H1[a]? = some (cell.setSlot (D.2.1 ci k) v)) (e2 : H1.size = H.size) (e3 : ∀ q, q ≠ a → H1[q]? = H[q]?) : mH D H0 S1 kc ns H1 (locs ++ [⟨a, i⟩]) := by
  obtain ⟨hci, -, hty, hnm, h100⟩ := cls_ok ci r hr
  obtain ⟨h1, h2, h3⟩ := hp
  have hap := va_apart (own := "") (C := r.1) (T := r.2.1) (N := r.2.2) (ci := ci) hts hin (tyOf ci) hty hnm hK.1 hr
  refine hM.write (by rw [hk]; omega) h1 q1 e1 (by simp [Cell.setSlot]) e2 e3 h2 ⟨fun ci' r' hk' hr' => ?_, fun t ht htl => ?_⟩
  · rw [h1, hk] at hk'
    have hc : ci' = ci := by omega
    subst hc
    have hr2 : r' = r := Option.some.inj (hr'.symm.trans hr)
    subst hr2
    exact t_OB.to (V := updV (fun j => sval ci' j S a) k v) ⟨_, e1, q2, q3, t_set q4 hap hkN v⟩ (fun j hj => (h3 j (by omega)).symm)
  · rw [h1, hk] at ht
    omega
theorem r_put {ci k index : Nat} {v : Value} (C : Cx D p s m args c cc nL own) (hM : mH D H0 S kc ns H locs) (hk : mK S a = ci + 1) (hf : fl own index ci k) (hfin : ∀ r : vw_C, vwCl[ci]? = some r → (r.2.1 k).2.2.2 = false) (hn : narrow (tyOf ci k) v = v) (hfit : fits (tyOf ci k) v = true) (hp : mPut S S1 ci k a v) (hdg : decode cc pc = .ok (.putfield index, 3))
    (kk : ∀ (H1 : Heap) (locs1 : List Loc), mH D H0 S1 kc ns H1 locs1 → W p l e R s m args below meth c H1 locs1 cells slots Q (F0 m (pc + 3) ls rest)) : W p l e R s m args below meth c H locs cells slots Q (F0 m pc ls (v :: .ref a :: rest)) := by
  obtain ⟨hx, hb, -, hown, hts, hK, -⟩ := C
  obtain ⟨r, hr, hkN, hw⟩ := hf
  obtain ⟨cell, q1, q2, q3, q4⟩ := (hM.1 a (by rw [hk]; omega)).2.2.1 ci r hk hr
  obtain ⟨hci, hin, hty, hnm, h100⟩ := cls_ok ci r hr
  obtain ⟨hS, hfc, kC, hkC, hkind⟩ := hK.1.1 ci _ hr
  obtain ⟨cf, kf, fi, f, hi, hsl⟩ := hS k hkN
  have hlay := hts _ (hin _ (u_in_lay hkN))
  unfold u_lay at hlay
  rw [if_neg (by rw [hfin r hr]; decide)] at hlay
  have hst := (u_facts hfc hkC (u_lays hts hin hkN) hi).1
  have h6 := u_store hfc hkC hkind hlay hi (hty k hkN) hn hfit
  refine W.putK hx hb (f := f) ⟨hown, hts _ hw, ⟨_, _, _, hi⟩, hst⟩ (by rw [q2]; exact h6) q1 q3 (by rw [hsl]; exact k2_hasslot (q4 k hkN)) rfl rfl hdg fun H' e1 e2 e3 => ?_
  rw [hsl] at e1 ⊢
  exact kk H' _ (hp.done hts hin hK hM hk hr hkN q1 q2 q3 q4 e1 e2 e3)
theorem r_putN {ci k index : Nat} {v : Value} (C : Cx D p s m args c cc nL own) (hM : mH D H0 S kc ns H locs) (hk : mK S a = ci + 1) (hf : fn own index ci k) (hfin : ∀ r : vw_C, vwCl[ci]? = some r → (r.2.1 k).2.2.2 = false) (hn : narrow (tyOf ci k) v = v) (hfit : fits (tyOf ci k) v = true) (hp : mPut S S1 ci k a v) (hdg : decode cc pc = .ok (.putfield index, 3))
    (kk : ∀ (H1 : Heap) (locs1 : List Loc), mH D H0 S1 kc ns H1 locs1 → W p l e R s m args below meth c H1 locs1 cells slots Q (F0 m (pc + 3) ls rest)) : W p l e R s m args below meth c H locs cells slots Q (F0 m pc ls (v :: .ref a :: rest)) := by
  obtain ⟨hx, hb, -, hown, hts, hK, hN⟩ := C
  obtain ⟨r, host, hr, hkN, hw⟩ := hf
  obtain ⟨cell, q1, q2, q3, q4⟩ := (hM.1 a (by rw [hk]; omega)).2.2.1 ci r hk hr
  obtain ⟨hci, hin, hty, hnm, h100⟩ := cls_ok ci r hr
  obtain ⟨hS, hfc, kC, hkC, hkind⟩ := hK.1.1 ci _ hr
  obtain ⟨cf, kf, fi, f, hi, hsl⟩ := hS k hkN
  have hlay := hts _ (hin _ (u_in_lay hkN))
  unfold u_lay at hlay
  rw [if_neg (by rw [hfin r hr]; decide)] at hlay
  have hst := (u_facts hfc hkC (u_lays hts hin hkN) hi).1
  have h6 := u_store hfc hkC hkind hlay hi (hty k hkN) hn hfit
  refine va_WputK hx hb (f := f) hown (va_Nw.use rfl (hN _ hw rfl)) hi hst (by rw [q2]; exact h6) q1 q3 (by rw [hsl]; exact k2_hasslot (q4 k hkN)) rfl rfl hdg fun H' e1 e2 e3 => ?_
  rw [hsl] at e1 ⊢
  exact kk H' _ (hp.done hts hin hK hM hk hr hkN q1 q2 q3 q4 e1 e2 e3)
theorem r_putF {ci k index : Nat} {v : Value} (C : Cx D p s m args c cc nL own) (hM : mH D H0 S kc ns H locs) (hk : mK S a = ci + 1) (hf : fl own index ci k) (hfin : ∀ r : vw_C, vwCl[ci]? = some r → (r.2.1 k).2.2.2 = true ∧ (r.2.1 k).1 = own) (hin2 : meth.name = "<init>") (hn : narrow (tyOf ci k) v = v) (hfit : fits (tyOf ci k) v = true) (hp : mPut S S1 ci k a v) (hdg : decode cc pc = .ok (.putfield index, 3))
    (kk : ∀ (H1 : Heap) (locs1 : List Loc), mH D H0 S1 kc ns H1 locs1 → W p l e R s m args below meth c H1 locs1 cells slots Q (F0 m (pc + 3) ls rest)) : W p l e R s m args below meth c H locs cells slots Q (F0 m pc ls (v :: .ref a :: rest)) := by
  obtain ⟨hx, hb, -, hown, hts, hK, -⟩ := C
  obtain ⟨r, hr, hkN, hw⟩ := hf
  obtain ⟨cell, q1, q2, q3, q4⟩ := (hM.1 a (by rw [hk]; omega)).2.2.1 ci r hk hr
  obtain ⟨hci, hin, hty, hnm, h100⟩ := cls_ok ci r hr
  obtain ⟨hS, hfc, kC, hkC, hkind⟩ := hK.1.1 ci _ hr
  obtain ⟨cf, kf, fi, f, hi, hsl⟩ := hS k hkN
  have hlay := hts _ (hin _ (u_in_lay hkN))
  unfold u_lay at hlay
  rw [if_pos (hfin r hr).1] at hlay
  have hst := (u_facts hfc hkC (u_lays hts hin hkN) hi).1
  have hcf : m.cls = cf := by
    obtain ⟨_, _, c', _, _, _, -, -, hf', -, -, -, hown2, -⟩ := Cond.laysFinal_spec hlay
    have e1 : c' = cf := by have := hi.symm.trans hf'; simp at this; exact this.1.symm
    rw [(hfin r hr).2] at hown2
    rw [← e1]; exact Option.some.inj (hown.symm.trans hown2)
  have h6 := u_fits hfc hkC hkind (Or.inr hlay) hi (hty k hkN) hn hfit
  refine W.putFinK hx hb hown (hts _ hw) hi hst hcf hin2 (by rw [q2]; exact h6) q1 q3 (by rw [hsl]; exact k2_hasslot (q4 k hkN)) rfl rfl hdg fun H' e1 e2 e3 => ?_
  rw [hsl] at e1 ⊢
  exact kk H' _ (hp.done hts hin hK hM hk hr hkN q1 q2 q3 q4 e1 e2 e3)
/-- arrays: t the type's number -/
theorem mH.arr {t : Nat} (hM : mH D H0 S kc ns H locs) (hk : mK S a = t + 21) (ht : t < 8) : H[a]? = some (vp_cell (D.2.2 t) (mN S a, marr t S a)) := (hM.1 a (by rw [hk]; omega)).2.2.2 t hk ht
theorem r_alen {t : Nat} {v : Int32} (C : Cx D p s m args c cc nL own) (hM : mH D H0 S kc ns H locs) (hk : mK S a = t + 21) (ht : t < 8) (hv : Int32.ofNat (mN S a) = v) (hdg : decode cc pc = .ok (.arraylength, 1))
    (kk : W p l e R s m args below meth c H locs cells slots Q (F0 m (pc + 1) ls (.int v :: rest))) : W p l e R s m args below meth c H locs cells slots Q (F0 m pc ls (.ref a :: rest)) := by
  obtain ⟨hx, hb, -, hown, hts, hK, -⟩ := C
  obtain ⟨ty, hty⟩ : ∃ ty, (gtys D.2.2)[t]? = some (D.2.2 t, ty) := by
    match t, ht with
    | 0, _ => exact ⟨_, rfl⟩
    | 1, _ => exact ⟨_, rfl⟩
    | 2, _ => exact ⟨_, rfl⟩
    | 3, _ => exact ⟨_, rfl⟩
    | 4, _ => exact ⟨_, rfl⟩
    | 5, _ => exact ⟨_, rfl⟩
    | 6, _ => exact ⟨_, rfl⟩
    | 7, _ => exact ⟨_, rfl⟩
    | n + 8, h => omega
  exact va_alen (D := (D.1, D.2.1)) (cl := vwCl) (ws := [(a, .inl (D.2.2 t, mN S a, marr t S a))]) hx hb hK.1 (fun k q h => by
    match k, h with
    | 0, h => cases h; exact hM.arr hk ht
    | n + 1, h => simp at h) 0 t rfl hty hv hdg kk
theorem va_P1 {D0 : va_G} {cl : List vw_C} {a : Nat} {x : ClassId × vp_A} {H : Heap} (h : H[a]? = some (vp_cell x.1 x.2)) : va_P D0 cl [(a, .inl x)] H := fun k q hq => by
  match k, hq with
  | 0, hq => cases hq; exact h
  | n + 1, hq => simp at hq
theorem r_iald {i : Int32} (C : Cx D p s m args c cc nL own) (hM : mH D H0 S kc ns H locs) (hk : mK S a = 21) (hin : vp_in i (mN S a)) (hdg : decode cc pc = .ok (.iaload, 1))
    (kk : W p l e R s m args below meth c H locs cells slots Q (F0 m (pc + 1) ls (.int (aI S a i.toNatClampNeg) :: rest))) : W p l e R s m args below meth c H locs cells slots Q (F0 m pc ls (.int i :: .ref a :: rest)) :=
  va_iald (D := (D.1, D.2.1)) (cl := vwCl) (n := mN S a) (f := aI S a) C.1 C.2.1 C.2.2.2.2.2.1.1 (va_P1 (hM.arr (t := 0) hk (by decide))) 0 0 rfl rfl hin hdg kk
theorem r_bald {i : Int32} (C : Cx D p s m args c cc nL own) (hM : mH D H0 S kc ns H locs) (hk : mK S a = 23) (hin : vp_in i (mN S a)) (hdg : decode cc pc = .ok (.baload, 1))
    (kk : W p l e R s m args below meth c H locs cells slots Q (F0 m (pc + 1) ls (.int (aI S a i.toNatClampNeg) :: rest))) : W p l e R s m args below meth c H locs cells slots Q (F0 m pc ls (.int i :: .ref a :: rest)) :=
  va_bald (D := (D.1, D.2.1)) (cl := vwCl) (n := mN S a) (f := aI S a) C.1 C.2.1 C.2.2.2.2.2.1.1 (va_P1 (hM.arr (t := 2) hk (by decide))) 0 2 rfl rfl hin hdg kk
theorem r_zald {i : Int32} (C : Cx D p s m args c cc nL own) (hM : mH D H0 S kc ns H locs) (hk : mK S a = 24) (hin : vp_in i (mN S a)) (hdg : decode cc pc = .ok (.baload, 1))
    (kk : W p l e R s m args below meth c H locs cells slots Q (F0 m (pc + 1) ls (.int (aI S a i.toNatClampNeg) :: rest))) : W p l e R s m args below meth c H locs cells slots Q (F0 m pc ls (.int i :: .ref a :: rest)) :=
  va_zald (D := (D.1, D.2.1)) (cl := vwCl) (n := mN S a) (f := aI S a) C.1 C.2.1 C.2.2.2.2.2.1.1 (va_P1 (hM.arr (t := 3) hk (by decide))) 0 3 rfl rfl hin hdg kk
theorem r_lald {i : Int32} (C : Cx D p s m args c cc nL own) (hM : mH D H0 S kc ns H locs) (hk : mK S a = 22) (hin : vp_in i (mN S a)) (hdg : decode cc pc = .ok (.laload, 1))
    (kk : W p l e R s m args below meth c H locs cells slots Q (F0 m (pc + 1) ls (.long (aL S a i.toNatClampNeg) :: rest))) : W p l e R s m args below meth c H locs cells slots Q (F0 m pc ls (.int i :: .ref a :: rest)) :=
  va_lald (D := (D.1, D.2.1)) (cl := vwCl) (n := mN S a) (f := aL S a) C.1 C.2.1 C.2.2.2.2.2.1.1 (va_P1 (hM.arr (t := 1) hk (by decide))) 0 1 rfl rfl hin hdg kk
theorem r_aald {t : Nat} {i : Int32} {nm : String} (C : Cx D p s m args c cc nL own) (hM : mH D H0 S kc ns H locs) (hk : mK S a = t + 25) (hty : (gtys D.2.2)[t + 4]? = some (D.2.2 (t + 4), .object nm)) (ht : t < 4) (hin : vp_in i (mN S a)) (hdg : decode cc pc = .ok (.aaload, 1))
    (kk : W p l e R s m args below meth c H locs cells slots Q (F0 m (pc + 1) ls (va_rf (aR S a i.toNatClampNeg) :: rest))) : W p l e R s m args below meth c H locs cells slots Q (F0 m pc ls (.int i :: .ref a :: rest)) :=
  va_aldq (D := (D.1, D.2.1)) (cl := vwCl) (n := mN S a) (f := aR S a) C.1 C.2.1 C.2.2.2.2.2.1.1 (va_P1 (hM.arr (t := t + 4) (by omega) (by omega))) 0 (t + 4) rfl hty hin hdg kk
theorem mOK.at {t : Nat} {H1 : Heap} (hk : mK S1 a = t + 21) (ht : t < 8) (h : H1[a]? = some (vp_cell (D.2.2 t) (mN S1 a, marr t S1 a))) : mOK D S1 a H1 := by
  refine ⟨fun ci r h1 h2 => ?_, fun t' h1 h2 => ?_⟩
  · have := (cls_ok ci r h2).1
    omega
  · have hc : t' = t := by omega
    subst hc
    exact h
end Rows
end
section
section Rows2
variable {p : Program} {l : Launch} {e : Env} {R : Room} {s : State} {m : MethodId} {args : Array Value} {below : List Frame} {meth : Method} {c : Code} {H : Heap} {locs : List Loc} {cells slots : Nat} {Q : State → Prop}
variable {cc : ByteArray} {pc nL : Nat} {own : String} {ls : Array Slot} {rest : List Value} {D : gD} {H0 : Heap} {S S1 : Mem} {kc ns a : Nat}
theorem mSame.qI {i : Nat} {x : Int32} {b : Nat} (h : b ≠ a) : mSame S (qI S a i x) b := ⟨rfl, fun _ _ => rfl, rfl, marr_q (by funext j; simp [aI, up2, h]) rfl rfl⟩
theorem mSame.qL {i : Nat} {x : Int64} {b : Nat} (h : b ≠ a) : mSame S (qL S a i x) b := ⟨rfl, fun _ _ => rfl, rfl, marr_q rfl (by funext j; simp [aL, up2, h]) rfl⟩
theorem mSame.qR {i : Nat} {x : Option Nat} {b : Nat} (h : b ≠ a) : mSame S (qR S a i x) b := ⟨rfl, fun _ _ => rfl, rfl, marr_q rfl rfl (by funext j; simp [aR, up2, h])⟩
theorem r_iast {i x : Int32} (C : Cx D p s m args c cc nL own) (hM : mH D H0 S kc ns H locs) (hk : mK S a = 21) (hin : vp_in i (mN S a)) (hdg : decode cc pc = .ok (.iastore, 1))
    (kk : ∀ (H1 : Heap) (locs1 : List Loc), mH D H0 (qI S a i.toNatClampNeg x) kc ns H1 locs1 → W p l e R s m args below meth c H1 locs1 cells slots Q (F0 m (pc + 1) ls rest)) : W p l e R s m args below meth c H locs cells slots Q (F0 m pc ls (.int x :: .int i :: .ref a :: rest)) := by
  have hc := hM.arr (t := 0) hk (by decide)
  refine W.iast C.1 C.2.1 hc ((C.2.2.2.2.2.1.1.2 0 _ rfl).1 (mN S a) (fun j => .int (aI S a j))) (fun q => by cases q) (by show ¬ (i < 0 ∨ (arrV _ _ _).slots.size ≤ _); rw [arrV_size]; exact hin) rfl rfl hdg fun H1 e1 z oq => ?_
  refine kk H1 _ (hM.write (by rw [hk]; decide) (fun _ => rfl) hc e1 (by simp [Cell.setSlot]) z oq (fun b hb => mSame.qI hb) (mOK.at (t := 0) hk (by decide) ?_))
  rw [e1]
  show some ((vp_cell _ (mN S a, .inl (aI S a))).setSlot _ _) = some (vp_cell _ (mN S a, .inl _))
  rw [vp_cell_i, vp_cell_i, arrV_store]
  congr 2
  funext q
  by_cases hq : q = i.toNatClampNeg <;> simp [updV, aI, up2, hq]
theorem r_bast {i x : Int32} (C : Cx D p s m args c cc nL own) (hM : mH D H0 S kc ns H locs) (hk : mK S a = 23) (hin : vp_in i (mN S a)) (hdg : decode cc pc = .ok (.bastore, 1))
    (kk : ∀ (H1 : Heap) (locs1 : List Loc), mH D H0 (qI S a i.toNatClampNeg (vp_nar .byte x)) kc ns H1 locs1 → W p l e R s m args below meth c H1 locs1 cells slots Q (F0 m (pc + 1) ls rest)) : W p l e R s m args below meth c H locs cells slots Q (F0 m pc ls (.int x :: .int i :: .ref a :: rest)) := by
  have hc := hM.arr (t := 2) hk (by decide)
  refine W.bast C.1 C.2.1 hc ((C.2.2.2.2.2.1.1.2 2 _ rfl).1 (mN S a) (fun j => .int (aI S a j))) (fun q => by cases q) (by show ¬ (i < 0 ∨ (arrV _ _ _).slots.size ≤ _); rw [arrV_size]; exact hin) rfl rfl hdg fun H1 e1 z oq => ?_
  refine kk H1 _ (hM.write (by rw [hk]; decide) (fun _ => rfl) hc e1 (by simp [Cell.setSlot]) z oq (fun b hb => mSame.qI hb) (mOK.at (t := 2) hk (by decide) ?_))
  rw [e1]
  show some ((vp_cell _ (mN S a, .inl (aI S a))).setSlot _ _) = some (vp_cell _ (mN S a, .inl _))
  rw [vp_cell_i, vp_cell_i, arrV_store]
  congr 2
  funext q
  by_cases hq : q = i.toNatClampNeg
  · subst hq
    simp [updV, aI, up2, vp_nar]
    try rfl
  · simp [updV, aI, up2, hq]
theorem r_zast {i x : Int32} (C : Cx D p s m args c cc nL own) (hM : mH D H0 S kc ns H locs) (hk : mK S a = 24) (hin : vp_in i (mN S a)) (hdg : decode cc pc = .ok (.bastore, 1))
    (kk : ∀ (H1 : Heap) (locs1 : List Loc), mH D H0 (qI S a i.toNatClampNeg (vp_nar .boolean x)) kc ns H1 locs1 → W p l e R s m args below meth c H1 locs1 cells slots Q (F0 m (pc + 1) ls rest)) : W p l e R s m args below meth c H locs cells slots Q (F0 m pc ls (.int x :: .int i :: .ref a :: rest)) := by
  have hc := hM.arr (t := 3) hk (by decide)
  refine W.zast C.1 C.2.1 hc ((C.2.2.2.2.2.1.1.2 3 _ rfl).1 (mN S a) (fun j => .int (aI S a j))) (fun q => by cases q) (by show ¬ (i < 0 ∨ (arrV _ _ _).slots.size ≤ _); rw [arrV_size]; exact hin) rfl rfl hdg fun H1 e1 z oq => ?_
  refine kk H1 _ (hM.write (by rw [hk]; decide) (fun _ => rfl) hc e1 (by simp [Cell.setSlot]) z oq (fun b hb => mSame.qI hb) (mOK.at (t := 3) hk (by decide) ?_))
  rw [e1]
  show some ((vp_cell _ (mN S a, .inl (aI S a))).setSlot _ _) = some (vp_cell _ (mN S a, .inl _))
  rw [vp_cell_i, vp_cell_i, arrV_store]
  congr 2
  funext q
  by_cases hq : q = i.toNatClampNeg
  · subst hq
    simp [updV, aI, up2, vp_nar]
    try rfl
  · simp [updV, aI, up2, hq]
theorem r_last {i : Int32} {x : Int64} (C : Cx D p s m args c cc nL own) (hM : mH D H0 S kc ns H locs) (hk : mK S a = 22) (hin : vp_in i (mN S a)) (hdg : decode cc pc = .ok (.lastore, 1))
    (kk : ∀ (H1 : Heap) (locs1 : List Loc), mH D H0 (qL S a i.toNatClampNeg x) kc ns H1 locs1 → W p l e R s m args below meth c H1 locs1 cells slots Q (F0 m (pc + 1) ls rest)) : W p l e R s m args below meth c H locs cells slots Q (F0 m pc ls (.long x :: .int i :: .ref a :: rest)) := by
  have hc := hM.arr (t := 1) hk (by decide)
  refine W.last C.1 C.2.1 hc ((C.2.2.2.2.2.1.1.2 1 _ rfl).1 (mN S a) (fun j => .long (aL S a j))) (fun q => by cases q) (by show ¬ (i < 0 ∨ (arrV _ _ _).slots.size ≤ _); rw [arrV_size]; exact hin) rfl rfl hdg fun H1 e1 z oq => ?_
  refine kk H1 _ (hM.write (by rw [hk]; decide) (fun _ => rfl) hc e1 (by simp [Cell.setSlot]) z oq (fun b hb => mSame.qL hb) (mOK.at (t := 1) hk (by decide) ?_))
  rw [e1]
  show some ((vp_cell _ (mN S a, .inr (.inl (aL S a)))).setSlot _ _) = some (vp_cell _ (mN S a, .inr (.inl _)))
  rw [vp_cell_l, vp_cell_l, arrV_store]
  congr 2
  funext q
  by_cases hq : q = i.toNatClampNeg <;> simp [updV, aL, up2, hq]
/-- an array of references takes null, or an object of its class -/
theorem r_aast {t ci : Nat} {i : Int32} {r : vw_C} {o : Option Nat} (C : Cx D p s m args c cc nL own) (hM : mH D H0 S kc ns H locs) (hk : mK S a = t + 25) (ht : t < 4) (hty : (gtys D.2.2)[t + 4]? = some (D.2.2 (t + 4), .object r.1)) (hc : vwCl[ci]? = some r) (ho : ∀ q, o = some q → mK S q = ci + 1) (hin : vp_in i (mN S a)) (hdg : decode cc pc = .ok (.aastore, 1))
    (kk : ∀ (H1 : Heap) (locs1 : List Loc), mH D H0 (qR S a i.toNatClampNeg o) kc ns H1 locs1 → W p l e R s m args below meth c H1 locs1 cells slots Q (F0 m (pc + 1) ls rest)) : W p l e R s m args below meth c H locs cells slots Q (F0 m pc ls (va_rf o :: .int i :: .ref a :: rest)) := by
  have hcell := hM.arr (t := t + 4) (by omega) (by omega)
  have hmarr : marr (t + 4) S a = .inr (.inr (.inr (.inr (aR S a)))) := rfl
  have hlt : i.toNatClampNeg < mN S a := Nat.not_le.mp fun q => hin (Or.inr q)
  have h0 : ¬ i < 0 := fun q => hin (Or.inl q)
  have key : ∀ H1 : Heap, H1[a]? = some ((vp_cell (D.2.2 (t + 4)) (mN S a, marr (t + 4) S a)).setSlot i.toNatClampNeg (va_rf o)) → H1.size = H.size → (∀ q, q ≠ a → H1[q]? = H[q]?) → mH D H0 (qR S a i.toNatClampNeg o) kc ns H1 (locs ++ [⟨a, i.toNatClampNeg⟩]) := by
    intro H1 e1 z oq
    refine hM.write (by rw [hk]; omega) (fun _ => rfl) hcell e1 (by simp [Cell.setSlot]) z oq (fun b hb => mSame.qR hb) (mOK.at (t := t + 4) (by show mK S a = _; omega) (by omega) ?_)
    rw [e1, hmarr]
    show some ((vp_cell _ (mN S a, .inr (.inr (.inr (.inr (aR S a)))))).setSlot _ _) = some (vp_cell _ (mN S a, .inr (.inr (.inr (.inr _)))))
    rw [vp_cell_q, vp_cell_q, arrV_store]
    congr 2
    funext q
    by_cases hq : q = i.toNatClampNeg <;> simp [updV, aR, up2, hq]
  rw [hmarr] at hcell key
  cases o with
  | none => exact va_WaastN (C := r.1) C.1 C.2.1 hcell ((C.2.2.2.2.2.1.1.2 (t + 4) _ hty).1 (mN S a) (fun j => va_rf (aR S a j))) (fun h => by cases h) (by show ¬ (i < 0 ∨ (arrV _ _ _).slots.size ≤ _); rw [arrV_size]; exact hin) rfl rfl hdg fun H1 e1 z oq => kk H1 _ (key H1 e1 z oq)
  | some v =>
    obtain ⟨cellV, g1, g2, g3, -⟩ := (hM.1 v (by rw [ho v rfl]; omega)).2.2.1 ci r (ho v rfl) hc
    have hcls := (C.2.2.2.2.2.1.1.1 ci r hc).2
    obtain ⟨kA, comp, k1, k2, k3, -⟩ := (C.2.2.2.2.2.1.1.2 (t + 4) _ hty).2
    have hcomp : comp = D.1 ci := Option.some.inj (k3.symm.trans hcls.1)
    subst hcomp
    obtain ⟨kC, hkC, -⟩ := hcls.2
    exact W.aast C.1 C.2.1 hcell (fun q h => by cases h) (fun h => by cases h) k1 k2 rfl hkC ⟨h0, by show _ < (arrV _ _ _).slots.size; rw [arrV_size]; exact hlt⟩ g1 (fun q h => by rw [g3] at h; cases h) (by rw [g2]; exact hkC) (by rw [g2]; exact va_assign hcls) rfl rfl hdg fun H1 e1 z oq => kk H1 _ (key H1 e1 z oq)
theorem mSame.nO {ci b : Nat} (h : b ≠ a) : mSame S (nO S a ci) b := by
  refine ⟨by simp [mK, va_up, h], fun ci' k' => ?_, rfl, fun _ => rfl⟩
  unfold sval
  split <;> simp [mI, mL, mR, cl2, h]
theorem mSame.nA {t n b : Nat} (h : b ≠ a) : mSame S (nA S a t n) b :=
  ⟨by simp [mK, va_up, h], fun _ _ => rfl, by simp [mN, va_up, h], marr_q (by funext j; simp [aI, cl1, h]) (by funext j; simp [aL, cl1, h]) (by funext j; simp [aR, cl1, h])⟩
theorem ty_nf (ci k : Nat) : tyOf ci k ≠ .float ∧ tyOf ci k ≠ .double := by
  unfold tyOf
  split <;> (first | unfold tyX0 | unfold tyX1 | unfold tyX2 | unfold tyX3 | unfold tyX4 | unfold tyX5 | unfold tyX6 | unfold tyX7 | unfold tyX8 | unfold tyX9 | unfold tyX10 | unfold tyX11 | unfold tyX12) <;> split <;> exact ⟨by simp, by simp⟩
theorem sval_nO {ci k : Nat} : sval ci k (nO S a ci) a = defaultValue (tyOf ci k) := by
  unfold sval shp
  have hf := ty_nf ci k
  cases h : tyOf ci k <;> first | exact absurd h hf.1 | exact absurd h hf.2 | simp [mI, mL, mR, cl2, defaultValue, va_rf]
theorem r_new {ci index : Nat} {r : vw_C} (C : Cx D p s m args c cc nL own) (hM : mH D H0 S kc ns H locs) (hr : vwCl[ci]? = some r) (hl : Cond.classLink own index r.1 ∈ gT) (hi : Cond.instantiable r.1 r.2.2 ∈ gT) (hini : Cond.initialized r.1 ∈ gT) (hcells : cells + 1 ≤ R.cells) (hslots : slots + r.2.2 ≤ R.slots) (hdg : decode cc pc = .ok (.new index, 3))
    (kk : ∀ (q : Nat) (H1 : Heap), mK S q = 0 → mH D H0 (nO S q ci) (kc + 1) (ns + r.2.2) H1 locs → W p l e R s m args below meth c H1 locs (cells + 1) (slots + r.2.2) Q (F0 m (pc + 3) ls (.ref q :: rest))) : W p l e R s m args below meth c H locs cells slots Q (F0 m pc ls rest) := by
  obtain ⟨hx, hb, -, hown, hts, hK, -⟩ := C
  obtain ⟨hci, hin, hty, hnm, h100⟩ := cls_ok ci r hr
  have hKn := hK.1.1 ci _ hr
  obtain ⟨cC9, kC9, hfc9, hkC9, hkd9, -, -, hsz9⟩ := Cond.instantiable_spec (hts _ hi)
  refine W.newcK hx hb hown (hts _ hl) (hts _ hi) (hts _ hini) rfl hdg hcells hslots hKn.2.1 rfl fun H1 kC hkC e1 z1 o1 => ?_
  refine kk H.size H1 (hM.fresh (Nat.le_refl _)) (hM.push (cell := blank (D.1 ci) kC) e1 ?_ z1 o1 (fun b hb => mSame.nO hb) ⟨fun ci' r' h1 h2 => ?_, fun t h1 h2 => ?_⟩)
  · have h9 : D.1 ci = cC9 := Option.some.inj (hKn.2.1.symm.trans hfc9)
    subst h9
    cases hkC.symm.trans hkC9
    simp [blank, hsz9]
  · have hc : ci' = ci := by simp [mK, va_up] at h1; omega
    subst hc
    have hr2 : r' = r := Option.some.inj (h2.symm.trans hr)
    subst hr2
    exact (u_born (tyOf ci') hts hin hKn hkC e1 hty).to (fun j hj => sval_nO.symm)
  · have : ci + 1 = t + 21 := by simpa [mK, va_up] using h1
    omega
theorem r_newa {t : Nat} {n : Int32} {N' : Nat} {ty : FieldType} {atype : ArrayType} (C : Cx D p s m args c cc nL own) (hM : mH D H0 S kc ns H locs) (ht : t < 4) (hty : (gtys D.2.2)[t]? = some (D.2.2 t, ty)) (hat : newarray.typeOf atype = ty) (hw : Cond.arrayClass ty ∈ gT) (hd : ∀ cA : ClassId, vp_cell cA (N', marr t (nA S H.size t N') H.size) = arrV cA N' (fun _ => defaultValue ty)) (hra : ∀ U cA, va_RA U cA ty = (U.vm.findClass ("[" ++ ty.toString) = some cA))
    (hn : ¬ n < 0) (hN : n.toNatClampNeg = N') (hbytes : N' * componentBytes ty ≤ 536870912) (hcells : cells + 1 ≤ R.cells) (hslots : slots + N' ≤ R.slots) (hdg : decode cc pc = .ok (.newarray atype, 2))
    (kk : ∀ (q : Nat) (H1 : Heap), mK S q = 0 → mH D H0 (nA S q t N') (kc + 1) (ns + N') H1 locs → W p l e R s m args below meth c H1 locs (cells + 1) (slots + N') Q (F0 m (pc + 2) ls (.ref q :: rest))) : W p l e R s m args below meth c H locs cells slots Q (F0 m pc ls (.int n :: rest)) := by
  obtain ⟨hx, hb, -, hown, hts, hK, -⟩ := C
  subst hat
  refine va_newaK hx hb (hts _ hw) rfl hdg rfl hn hN hbytes hcells hslots rfl fun H1 cA e1 z1 o1 hAr hNm => ?_
  have hA : D.2.2 t = cA := by
    have h2 := (hK.1.2 t _ hty).2
    rw [hra] at h2
    exact Option.some.inj (h2.symm.trans hNm)
  refine kk H.size H1 (hM.fresh (Nat.le_refl _)) (hM.push e1 (arrV_size _ _ _) z1 o1 (fun b hb => mSame.nA hb) (mOK.at (t := t) (by simp [mK, va_up]) (by omega) ?_))
  rw [e1, ← hd, hA]
  show _ = some (vp_cell cA (va_up _ _ _ _, _))
  rw [va_up_self]
theorem r_newI {n : Int32} {N' : Nat} (C : Cx D p s m args c cc nL own) (hM : mH D H0 S kc ns H locs) (hw : Cond.arrayClass .int ∈ gT) (hn : ¬ n < 0) (hN : n.toNatClampNeg = N') (hbytes : N' * componentBytes .int ≤ 536870912) (hcells : cells + 1 ≤ R.cells) (hslots : slots + N' ≤ R.slots) (hdg : decode cc pc = .ok (.newarray .int, 2))
    (kk : ∀ (q : Nat) (H1 : Heap), mK S q = 0 → mH D H0 (nA S q 0 N') (kc + 1) (ns + N') H1 locs → W p l e R s m args below meth c H1 locs (cells + 1) (slots + N') Q (F0 m (pc + 2) ls (.ref q :: rest))) : W p l e R s m args below meth c H locs cells slots Q (F0 m pc ls (.int n :: rest)) :=
  r_newa (t := 0) (ty := .int) C hM (by decide) rfl rfl hw (fun cA => by show vp_cell cA (N', .inl _) = _; rw [vp_cell_i]; congr 1; funext j; simp [aI, cl1, defaultValue]) (fun _ _ => rfl) hn hN hbytes hcells hslots hdg kk
theorem r_newJ {n : Int32} {N' : Nat} (C : Cx D p s m args c cc nL own) (hM : mH D H0 S kc ns H locs) (hw : Cond.arrayClass .long ∈ gT) (hn : ¬ n < 0) (hN : n.toNatClampNeg = N') (hbytes : N' * componentBytes .long ≤ 536870912) (hcells : cells + 1 ≤ R.cells) (hslots : slots + N' ≤ R.slots) (hdg : decode cc pc = .ok (.newarray .long, 2))
    (kk : ∀ (q : Nat) (H1 : Heap), mK S q = 0 → mH D H0 (nA S q 1 N') (kc + 1) (ns + N') H1 locs → W p l e R s m args below meth c H1 locs (cells + 1) (slots + N') Q (F0 m (pc + 2) ls (.ref q :: rest))) : W p l e R s m args below meth c H locs cells slots Q (F0 m pc ls (.int n :: rest)) :=
  r_newa (t := 1) (ty := .long) C hM (by decide) rfl rfl hw (fun cA => by show vp_cell cA (N', .inr (.inl _)) = _; rw [vp_cell_l]; congr 1; funext j; simp [aL, cl1, defaultValue]) (fun _ _ => rfl) hn hN hbytes hcells hslots hdg kk
theorem r_newB {n : Int32} {N' : Nat} (C : Cx D p s m args c cc nL own) (hM : mH D H0 S kc ns H locs) (hw : Cond.arrayClass .byte ∈ gT) (hn : ¬ n < 0) (hN : n.toNatClampNeg = N') (hbytes : N' * componentBytes .byte ≤ 536870912) (hcells : cells + 1 ≤ R.cells) (hslots : slots + N' ≤ R.slots) (hdg : decode cc pc = .ok (.newarray .byte, 2))
    (kk : ∀ (q : Nat) (H1 : Heap), mK S q = 0 → mH D H0 (nA S q 2 N') (kc + 1) (ns + N') H1 locs → W p l e R s m args below meth c H1 locs (cells + 1) (slots + N') Q (F0 m (pc + 2) ls (.ref q :: rest))) : W p l e R s m args below meth c H locs cells slots Q (F0 m pc ls (.int n :: rest)) :=
  r_newa (t := 2) (ty := .byte) C hM (by decide) rfl rfl hw (fun cA => by show vp_cell cA (N', .inl _) = _; rw [vp_cell_i]; congr 1; funext j; simp [aI, cl1, defaultValue]) (fun _ _ => rfl) hn hN hbytes hcells hslots hdg kk
theorem r_newZ {n : Int32} {N' : Nat} (C : Cx D p s m args c cc nL own) (hM : mH D H0 S kc ns H locs) (hw : Cond.arrayClass .boolean ∈ gT) (hn : ¬ n < 0) (hN : n.toNatClampNeg = N') (hbytes : N' * componentBytes .boolean ≤ 536870912) (hcells : cells + 1 ≤ R.cells) (hslots : slots + N' ≤ R.slots) (hdg : decode cc pc = .ok (.newarray .boolean, 2))
    (kk : ∀ (q : Nat) (H1 : Heap), mK S q = 0 → mH D H0 (nA S q 3 N') (kc + 1) (ns + N') H1 locs → W p l e R s m args below meth c H1 locs (cells + 1) (slots + N') Q (F0 m (pc + 2) ls (.ref q :: rest))) : W p l e R s m args below meth c H locs cells slots Q (F0 m pc ls (.int n :: rest)) :=
  r_newa (t := 3) (ty := .boolean) C hM (by decide) rfl rfl hw (fun cA => by show vp_cell cA (N', .inl _) = _; rw [vp_cell_i]; congr 1; funext j; simp [aI, cl1, defaultValue]) (fun _ _ => rfl) hn hN hbytes hcells hslots hdg kk
theorem r_newq {t index : Nat} {n : Int32} {N' : Nat} {nm : String} (C : Cx D p s m args c cc nL own) (hM : mH D H0 S kc ns H locs) (ht : t < 4) (hty : (gtys D.2.2)[t + 4]? = some (D.2.2 (t + 4), .object nm)) (hl : Cond.classLink own index nm ∈ gT) (hao : va_AO nm s) (hn : ¬ n < 0) (hN : n.toNatClampNeg = N') (hbytes : N' * 4 ≤ 536870912) (hcells : cells + 1 ≤ R.cells) (hslots : slots + N' ≤ R.slots) (hdg : decode cc pc = .ok (.anewarray index, 3))
    (kk : ∀ (q : Nat) (H1 : Heap), mK S q = 0 → mH D H0 (nA S q (t + 4) N') (kc + 1) (ns + N') H1 locs → W p l e R s m args below meth c H1 locs (cells + 1) (slots + N') Q (F0 m (pc + 3) ls (.ref q :: rest))) : W p l e R s m args below meth c H locs cells slots Q (F0 m pc ls (.int n :: rest)) := by
  obtain ⟨hx, hb, -, hown, hts, hK, -⟩ := C
  subst hN
  refine W.anew hx hb hown (hts _ hl) (va_AO.use hao) rfl hdg rfl hn hbytes hcells hslots fun cA kA comp f1 f2 f3 f4 => ?_
  have hA : D.2.2 (t + 4) = cA := by
    obtain ⟨_, _, _, _, _, h4⟩ := (hK.1.2 (t + 4) _ hty).2
    exact Option.some.inj (h4.symm.trans f1)
  generalize hH1 : H.push ({ cls := cA, slots := Array.replicate n.toNatClampNeg .null, vm := .none } : Cell) = H1
  have z1 : H1.size = H.size + 1 := by rw [← hH1, Array.size_push]
  have e1 : H1[H.size]? = some (arrV cA n.toNatClampNeg (fun _ => .null)) := by rw [← hH1, Array.getElem?_push_size, ← arrV_new]
  have o1 : ∀ q : Nat, q < H.size → H1[q]? = H[q]? := fun q hq => by rw [← hH1, Array.getElem?_push, if_neg (Nat.ne_of_lt hq)]
  refine kk H.size H1 (hM.fresh (Nat.le_refl _)) (hM.push e1 (arrV_size _ _ _) z1 o1 (fun b hb => mSame.nA hb) (mOK.at (t := t + 4) (by simp [mK, va_up]) (by omega) ?_))
  rw [e1, hA]
  show _ = some (vp_cell cA (va_up _ _ _ _, .inr (.inr (.inr (.inr _)))))
  rw [va_up_self, vp_cell_q]
  congr 2
  funext j
  simp [aR, cl1, va_rf]
end Rows2
end
section
abbrev mF (H0 : Heap) : Addr → Prop := fun q => H0.size ≤ q
def mP (D : gD) (H0 : Heap) (S : Mem) (k n : Nat) (av : List Value) : Array Value → State → Prop := fun v U => v = av.toArray ∧ mH D H0 S k n U.heap [] ∧ gK D U ∧ gNW U
def mQ {α : Type} (D : gD) (H0 : Heap) (inj : α → Option Value) (post : α → Mem → Nat → Nat → Prop) : Array Value → State → Outcome → State → Prop := fun _ _ oc t => ∃ (x : α) (S1 : Mem) (k1 n1 : Nat), oc = .returned (inj x) ∧ post x S1 k1 n1 ∧ mH D H0 S1 k1 n1 t.heap []
abbrev gI (x : Int32) : Option Value := some (.int x)
abbrev gL (x : Int64) : Option Value := some (.long x)
abbrev gR (x : Option Nat) : Option Value := some (va_rf x)
abbrev gV (_ : Unit) : Option Value := none
def wsU (y : MethodName) (b : ByteArray) (ml : Nat) (ret : Option FieldType) : List Cond := .code y b ml ret :: gT
theorem mP.blind {D : gD} {H0 : Heap} {S : Mem} {k n : Nat} {av : List Value} : FrameBlind (mP D H0 S k n av) := fun a U g mk h => ⟨h.1, h.2.1, gK.moved (u := U) (U := U.calling g mk a) (Vm.Alike.refl U.vm) h.2.2.1, gNW.same (u := U) (U := U.calling g mk a) rfl h.2.2.2⟩
def miB (y : MethodName) (b : ByteArray) (ml : Nat) (ret : Option FieldType) (n : Nat) : Prop := Cond.code y b ml ret ∈ gT ∧ Cond.initialized y.cls ∈ gT ∧ (y.cls ≠ "java/lang/invoke/MethodHandle" ∧ y.cls ≠ "java/lang/invoke/VarHandle" ∧ (parseMethodDescriptor y.desc).map (fun d => d.parameters.length) = some n)
def miV (y : MethodName) (b : ByteArray) (ml : Nat) (ret : Option FieldType) (n : Nat) : Prop := miB y b ml ret n ∧ Cond.instanceMethod y ∈ gT ∧ Cond.selects y.cls y y ∈ gT
def miS (y : MethodName) (b : ByteArray) (ml : Nat) (ret : Option FieldType) (n : Nat) : Prop := miB y b ml ret n ∧ Cond.static y ∈ gT
def miI (y : MethodName) (b : ByteArray) (ml : Nat) (n : Nat) : Prop := miB y b ml none n ∧ Cond.instanceMethod y ∈ gT ∧ y.name = "<init>"
theorem wsU_good {y : MethodName} {b : ByteArray} {ml : Nat} {ret : Option FieldType} {n : Nat} (h : miB y b ml ret n) : GoodIn gT (wsU y b ml ret) := fun w hw => gT_good w ((List.mem_cons.mp hw).elim (fun e => e ▸ h.1) id)
theorem rf_or (v : Option Nat) : va_rf v = .null ∨ ∃ a, va_rf v = .ref a := by
  cases v with
  | none => exact Or.inl rfl
  | some a => exact Or.inr ⟨a, rfl⟩
section Calls9
variable {p : Program} {l : Launch} {e : Env} {R : Room} {s : State} {m : MethodId} {args : Array Value} {below : List Frame} {meth : Method} {c : Code} {H : Heap} {locs : List Loc} {cells slots : Nat} {Q : State → Prop}
variable {cc : ByteArray} {pc nL : Nat} {own : String} {ls : Array Slot} {rest st0 : List Value} {D : gD} {H0 : Heap} {S S1 : Mem} {kc ns a : Nat}
variable {α : Type} {inj : α → Option Value} {post : α → Mem → Nat → Nat → Prop} {y : MethodName} {b : ByteArray} {ml n index : Nat} {ret : Option FieldType} {rm : Room} {As : List Value} {host : String}
theorem mH.recv {ci : Nat} {r : vw_C} (hK : gK D s) (hM : mH D H0 S kc ns H locs) (hk : mK S a = ci + 1) (hr : vwCl[ci]? = some r) : ∃ cell : Cell, H[a]? = some cell ∧ cell.vm.isStatics = false ∧ s.vm.findClass r.1 = some cell.cls := by
  obtain ⟨cell, q1, q2, q3, -⟩ := (hM.1 a (by rw [hk]; omega)).2.2.1 ci r hk hr
  exact ⟨cell, q1, by rw [q3]; rfl, by rw [q2]; exact (hK.1.1 ci r hr).2.1⟩
theorem mP.at (C : Cx D p s m args c cc nL own) (hM : mH D H0 S kc ns H locs) (av : List Value) : ∀ U : State, U.heap = H → s.WarmedH U.vm → mP D H0 S kc ns av av.toArray U := fun U hU hW => ⟨rfl, by rw [hU]; exact hM.locs (fun _ h => by cases h), gK.moved hW.alike C.2.2.2.2.2.1, C.2.2.2.2.2.2.warm hW⟩
theorem r_call {mc ms : Nat} {A9 : Array Value} (hr : va_Run p l e R s m args below meth c H locs cells slots mc ms (F0 m pc ls st0) rest (mQ D H0 inj post A9) (mF H0)) (hM : mH D H0 S kc ns H locs)
    (kk : ∀ (x : α) (S1 : Mem) (k1 n1 : Nat) (H1 : Heap) (locs1 : List Loc), post x S1 k1 n1 → mH D H0 S1 k1 n1 H1 locs1 → W p l e R s m args below meth c H1 locs1 (cells + mc) (slots + ms) Q (F0 m (pc + 3) ls ((inj x).toList ++ rest))) : W p l e R s m args below meth c H locs cells slots Q (F0 m pc ls st0) := by
  intro T hT X
  obtain ⟨v, st₀, t, T', L, h0, X', hL, e1, e2, ⟨x, S1, k1, n1, hv, hp, hM1⟩, st⟩ := hr T hT X
  cases hv
  obtain ⟨t2, a1, b1⟩ := kk x S1 k1 n1 T'.heap (locs ++ L) hp (by rw [e1]; exact hM1.locs (fun q hq => by
    rcases List.mem_append.mp hq with h | h
    · exact hM.2.2.2.2 q h
    · exact hL q h)) T' rfl X'
  exact ⟨t2, st t2 a1, b1⟩
theorem cB9 (C : Cx D p s m args c cc nL own) (hi : miB y b ml ret n) (hl : Cond.methodLink own index y ∈ gT) (hR : rm.frames + 1 ≤ R.frames ∧ 8 + (ml + 11) + rm.locals ≤ R.locals) : CallB R s args own index y b ml ret (wsU y b ml ret) rm rm.cells rm.slots n :=
  callB_of n C.2.2.2.2.1 (wsU_good hi) rfl rfl rfl (C.2.2.2.2.1 _ hi.2.1) (C.2.2.2.2.1 _ hl) hi.2.2 hR
theorem cN9 (C : Cx D p s m args c cc nL own) (hi : miB y b ml ret n) (hl : Cond.methodLinkNest own index y host ∈ tables_1) (hR : rm.frames + 1 ≤ R.frames ∧ 8 + (ml + 11) + rm.locals ≤ R.locals) : va_CN R s args own index y host b ml ret (wsU y b ml ret) rm rm.cells rm.slots n :=
  va_cnB n C.2.2.2.2.1 (wsU_good hi) rfl rfl rfl (C.2.2.2.2.2.2 _ hl rfl) (C.2.2.2.2.1 _ hi.2.1) hi.2.2 hR
theorem r_V {ci : Nat} {r : vw_C} (C : Cx D p s m args c cc nL own) (hM : mH D H0 S kc ns H locs) (hMet : Met l y (wsU y b ml ret) rm (mP D H0 S kc ns (.ref a :: As)) (mQ D H0 inj post) rm.cells rm.slots (mF H0)) (hi : miV y b ml ret n) (hl : Cond.methodLink own index y ∈ gT) (hk : mK S a = ci + 1) (hr : vwCl[ci]? = some r) (hy : r.1 = y.cls) (hn : As.length = n) (hls : ls.size = nL) (hst : st0 = As.reverse ++ .ref a :: rest) (hro : (rest.map fun v => v.category).sum ≤ 8) (hR : rm.frames + 1 ≤ R.frames ∧ 8 + (ml + 11) + rm.locals ≤ R.locals) (hcs : cells + rm.cells ≤ R.cells ∧ slots + rm.slots ≤ R.slots) (hdg : decode cc pc = .ok (.invokevirtual index, 3))
    (kk : ∀ (x : α) (S1 : Mem) (k1 n1 : Nat) (H1 : Heap) (locs1 : List Loc), post x S1 k1 n1 → mH D H0 S1 k1 n1 H1 locs1 → W p l e R s m args below meth c H1 locs1 (cells + rm.cells) (slots + rm.slots) Q (F0 m (pc + 3) ls ((inj x).toList ++ rest))) : W p l e R s m args below meth c H locs cells slots Q (F0 m pc ls st0) := by
  subst hst
  exact r_call (va_runV (C := y.cls) (Ts := gT) ⟨C.1, C.2.1, C.2.2.1, C.2.2.2.1, C.2.2.2.2.1⟩ hMet ⟨cB9 C hi.1 hl hR, C.2.2.2.2.1 _ hi.2.1, C.2.2.2.2.1 _ hi.2.2⟩ ⟨mP.blind, hy ▸ hM.recv C.2.2.2.2.2.1 hk hr, mP.at C hM _⟩ rfl hn hls rfl (lv_room hro) hdg hcs) hM kk
theorem r_VN {ci : Nat} {r : vw_C} (C : Cx D p s m args c cc nL own) (hM : mH D H0 S kc ns H locs) (hMet : Met l y (wsU y b ml ret) rm (mP D H0 S kc ns (.ref a :: As)) (mQ D H0 inj post) rm.cells rm.slots (mF H0)) (hi : miV y b ml ret n) (hl : Cond.methodLinkNest own index y host ∈ tables_1) (hk : mK S a = ci + 1) (hr : vwCl[ci]? = some r) (hy : r.1 = y.cls) (hn : As.length = n) (hls : ls.size = nL) (hst : st0 = As.reverse ++ .ref a :: rest) (hro : (rest.map fun v => v.category).sum ≤ 8) (hR : rm.frames + 1 ≤ R.frames ∧ 8 + (ml + 11) + rm.locals ≤ R.locals) (hcs : cells + rm.cells ≤ R.cells ∧ slots + rm.slots ≤ R.slots) (hdg : decode cc pc = .ok (.invokevirtual index, 3))
    (kk : ∀ (x : α) (S1 : Mem) (k1 n1 : Nat) (H1 : Heap) (locs1 : List Loc), post x S1 k1 n1 → mH D H0 S1 k1 n1 H1 locs1 → W p l e R s m args below meth c H1 locs1 (cells + rm.cells) (slots + rm.slots) Q (F0 m (pc + 3) ls ((inj x).toList ++ rest))) : W p l e R s m args below meth c H locs cells slots Q (F0 m pc ls st0) := by
  subst hst
  exact r_call (va_runVN (C := y.cls) (Ts := gT) ⟨C.1, C.2.1, C.2.2.1, C.2.2.2.1, C.2.2.2.2.1⟩ hMet ⟨cN9 C hi.1 hl hR, C.2.2.2.2.1 _ hi.2.1, C.2.2.2.2.1 _ hi.2.2⟩ ⟨mP.blind, hy ▸ hM.recv C.2.2.2.2.2.1 hk hr, mP.at C hM _⟩ rfl hn hls rfl (lv_room hro) hdg hcs) hM kk
theorem r_S (C : Cx D p s m args c cc nL own) (hM : mH D H0 S kc ns H locs) (hMet : Met l y (wsU y b ml ret) rm (mP D H0 S kc ns As) (mQ D H0 inj post) rm.cells rm.slots (mF H0)) (hi : miS y b ml ret n) (hl : Cond.methodLink own index y ∈ gT) (hn : As.length = n) (hls : ls.size = nL) (hst : st0 = As.reverse ++ rest) (hro : (rest.map fun v => v.category).sum ≤ 8) (hR : rm.frames + 1 ≤ R.frames ∧ 8 + (ml + 11) + rm.locals ≤ R.locals) (hcs : cells + rm.cells ≤ R.cells ∧ slots + rm.slots ≤ R.slots) (hdg : decode cc pc = .ok (.invokestatic index, 3))
    (kk : ∀ (x : α) (S1 : Mem) (k1 n1 : Nat) (H1 : Heap) (locs1 : List Loc), post x S1 k1 n1 → mH D H0 S1 k1 n1 H1 locs1 → W p l e R s m args below meth c H1 locs1 (cells + rm.cells) (slots + rm.slots) Q (F0 m (pc + 3) ls ((inj x).toList ++ rest))) : W p l e R s m args below meth c H locs cells slots Q (F0 m pc ls st0) := by
  subst hst
  exact r_call (va_runS (Ts := gT) ⟨C.1, C.2.1, C.2.2.1, C.2.2.2.1, C.2.2.2.2.1⟩ hMet ⟨cB9 C hi.1 hl hR, C.2.2.2.2.1 _ hi.2⟩ ⟨mP.blind, mP.at C hM _⟩ rfl hn hls rfl (lv_room hro) hdg hcs) hM kk
theorem r_SN (C : Cx D p s m args c cc nL own) (hM : mH D H0 S kc ns H locs) (hMet : Met l y (wsU y b ml ret) rm (mP D H0 S kc ns As) (mQ D H0 inj post) rm.cells rm.slots (mF H0)) (hi : miS y b ml ret n) (hl : Cond.methodLinkNest own index y host ∈ tables_1) (hn : As.length = n) (hls : ls.size = nL) (hst : st0 = As.reverse ++ rest) (hro : (rest.map fun v => v.category).sum ≤ 8) (hR : rm.frames + 1 ≤ R.frames ∧ 8 + (ml + 11) + rm.locals ≤ R.locals) (hcs : cells + rm.cells ≤ R.cells ∧ slots + rm.slots ≤ R.slots) (hdg : decode cc pc = .ok (.invokestatic index, 3))
    (kk : ∀ (x : α) (S1 : Mem) (k1 n1 : Nat) (H1 : Heap) (locs1 : List Loc), post x S1 k1 n1 → mH D H0 S1 k1 n1 H1 locs1 → W p l e R s m args below meth c H1 locs1 (cells + rm.cells) (slots + rm.slots) Q (F0 m (pc + 3) ls ((inj x).toList ++ rest))) : W p l e R s m args below meth c H locs cells slots Q (F0 m pc ls st0) := by
  subst hst
  exact r_call (va_runSN (Ts := gT) ⟨C.1, C.2.1, C.2.2.1, C.2.2.2.1, C.2.2.2.2.1⟩ hMet ⟨cN9 C hi.1 hl hR, C.2.2.2.2.1 _ hi.2, trivial⟩ ⟨mP.blind, mP.at C hM _⟩ rfl hn hls rfl (lv_room hro) hdg hcs) hM kk
theorem r_I (C : Cx D p s m args c cc nL own) (hM : mH D H0 S kc ns H locs) (hMet : Met l y (wsU y b ml none) rm (mP D H0 S kc ns (.ref a :: As)) (mQ D H0 inj post) rm.cells rm.slots (mF H0)) (hi : miI y b ml n) (hl : Cond.methodLink own index y ∈ gT) (hn : As.length = n) (hls : ls.size = nL) (hst : st0 = As.reverse ++ .ref a :: rest) (hro : (rest.map fun v => v.category).sum ≤ 8) (hR : rm.frames + 1 ≤ R.frames ∧ 8 + (ml + 11) + rm.locals ≤ R.locals) (hcs : cells + rm.cells ≤ R.cells ∧ slots + rm.slots ≤ R.slots) (hdg : decode cc pc = .ok (.invokespecial index, 3))
    (kk : ∀ (x : α) (S1 : Mem) (k1 n1 : Nat) (H1 : Heap) (locs1 : List Loc), post x S1 k1 n1 → mH D H0 S1 k1 n1 H1 locs1 → W p l e R s m args below meth c H1 locs1 (cells + rm.cells) (slots + rm.slots) Q (F0 m (pc + 3) ls ((inj x).toList ++ rest))) : W p l e R s m args below meth c H locs cells slots Q (F0 m pc ls st0) := by
  subst hst
  exact r_call (va_runI (Ts := gT) ⟨C.1, C.2.1, C.2.2.1, C.2.2.2.1, C.2.2.2.2.1⟩ hMet ⟨cB9 C hi.1 hl hR, hi.2.2, C.2.2.2.2.1 _ hi.2.1⟩ ⟨mP.blind, mP.at C hM _⟩ rfl hn hls rfl (lv_room hro) hdg hcs) hM kk
theorem r_IN (C : Cx D p s m args c cc nL own) (hM : mH D H0 S kc ns H locs) (hMet : Met l y (wsU y b ml none) rm (mP D H0 S kc ns (.ref a :: As)) (mQ D H0 inj post) rm.cells rm.slots (mF H0)) (hi : miI y b ml n) (hl : Cond.methodLinkNest own index y host ∈ tables_1) (hn : As.length = n) (hls : ls.size = nL) (hst : st0 = As.reverse ++ .ref a :: rest) (hro : (rest.map fun v => v.category).sum ≤ 8) (hR : rm.frames + 1 ≤ R.frames ∧ 8 + (ml + 11) + rm.locals ≤ R.locals) (hcs : cells + rm.cells ≤ R.cells ∧ slots + rm.slots ≤ R.slots) (hdg : decode cc pc = .ok (.invokespecial index, 3))
    (kk : ∀ (x : α) (S1 : Mem) (k1 n1 : Nat) (H1 : Heap) (locs1 : List Loc), post x S1 k1 n1 → mH D H0 S1 k1 n1 H1 locs1 → W p l e R s m args below meth c H1 locs1 (cells + rm.cells) (slots + rm.slots) Q (F0 m (pc + 3) ls ((inj x).toList ++ rest))) : W p l e R s m args below meth c H locs cells slots Q (F0 m pc ls st0) := by
  subst hst
  exact r_call (va_runIN (Ts := gT) ⟨C.1, C.2.1, C.2.2.1, C.2.2.2.1, C.2.2.2.2.1⟩ hMet ⟨cN9 C hi.1 hl hR, hi.2.2, C.2.2.2.2.1 _ hi.2.1⟩ ⟨mP.blind, mP.at C hM _⟩ rfl hn hls rfl (lv_room hro) hdg hcs) hM kk
/-- a contract out of its body -/
theorem r_met {av : List Value} (hy : plainName y.cls = true) (hown : y.cls = own) (hlen : (lg_sl av).length ≤ ml)
    (body : ∀ (p : Program) (e : Env) (s : State) (m : MethodId) (args : Array Value) (below : List Frame) (meth : Method) (c : Code), Cx D p s m args c b ml own → meth.sig.returnType = ret → meth.locks = false → meth.name = y.name → ∀ (H : Heap) (ls : Array Slot), lv_has ls ml (lv_args 0 av) → mH D H0 S kc ns H [] → W p l e rm s m args below meth c H [] 0 0 (MQ below (mQ D H0 inj post) args s rm.cells rm.slots (mF H0)) (F0 m 0 ls [])) :
    Met l y (wsU y b ml ret) rm (mP D H0 S kc ns av) (mQ D H0 inj post) rm.cells rm.slots (mF H0) := by
  refine Met.ofW (cc := b) (maxL := ml) (ret := ret) hy rfl ?_
  intro p e s m args below meth c s₁ B hml hv
  obtain ⟨rfl, hM, hK, hN⟩ := hv
  have hts0 := atoms_spec (ws := wsU y b ml ret) B.pre
  rw [lg_entry_eq]
  exact body p e s m _ below meth c ⟨B.exec, B.bytes, hml, by rw [← hown]; exact findClass_of_methodNamed B.named, fun w h => hts0 w (List.mem_cons_of_mem _ h), hK, hN⟩ B.returns B.notSynchronized (name_of_methodNamed B.named B.method).1 s.heap _ (lv_entry av hlen) hM
theorem r_retI {post : Int32 → Mem → Nat → Nat → Prop} {v : Int32} {k1 n1 : Nat} (C : Cx D p s m args c cc nL own) (hr : meth.sig.returnType = some .int) (hlk : meth.locks = false) (hM : mH D H0 S k1 n1 H locs) (hp : post v S k1 n1) (hdg : decode cc pc = .ok (.ireturn, 1)) : W p l e R s m args below meth c H locs cells slots (MQ below (mQ D H0 gI post) args s cells slots (mF H0)) (F0 m pc ls [.int v]) :=
  W.iret C.1 C.2.1 hr (fun t ht _ => ⟨v, S, k1, n1, rfl, hp, by rw [ht]; exact hM.locs (fun _ h => by cases h)⟩) hM.2.2.2.2 hdg hlk
theorem r_retZ {post : Int32 → Mem → Nat → Nat → Prop} {v : Int32} {k1 n1 : Nat} (C : Cx D p s m args c cc nL own) (hr : meth.sig.returnType = some .boolean) (hlk : meth.locks = false) (hn : narrow .boolean (.int v) = .int v) (hM : mH D H0 S k1 n1 H locs) (hp : post v S k1 n1) (hdg : decode cc pc = .ok (.ireturn, 1)) : W p l e R s m args below meth c H locs cells slots (MQ below (mQ D H0 gI post) args s cells slots (mF H0)) (F0 m pc ls [.int v]) :=
  W.zret C.1 C.2.1 hr hn (fun t ht _ => ⟨v, S, k1, n1, rfl, hp, by rw [ht]; exact hM.locs (fun _ h => by cases h)⟩) hM.2.2.2.2 hdg hlk
theorem r_retL {post : Int64 → Mem → Nat → Nat → Prop} {v : Int64} {k1 n1 : Nat} (C : Cx D p s m args c cc nL own) (hr : meth.sig.returnType = some .long) (hlk : meth.locks = false) (hM : mH D H0 S k1 n1 H locs) (hp : post v S k1 n1) (hdg : decode cc pc = .ok (.lreturn, 1)) : W p l e R s m args below meth c H locs cells slots (MQ below (mQ D H0 gL post) args s cells slots (mF H0)) (F0 m pc ls [.long v]) :=
  W.lret C.1 C.2.1 hr (fun t ht _ => ⟨v, S, k1, n1, rfl, hp, by rw [ht]; exact hM.locs (fun _ h => by cases h)⟩) hM.2.2.2.2 hdg hlk
theorem r_retV {post : Unit → Mem → Nat → Nat → Prop} {k1 n1 : Nat} (C : Cx D p s m args c cc nL own) (hr : meth.sig.returnType = none) (hlk : meth.locks = false) (hM : mH D H0 S k1 n1 H locs) (hp : post () S k1 n1) (hdg : decode cc pc = .ok (.return_, 1)) : W p l e R s m args below meth c H locs cells slots (MQ below (mQ D H0 gV post) args s cells slots (mF H0)) (F0 m pc ls []) :=
  W.vret C.1 C.2.1 hr (fun t ht _ => ⟨(), S, k1, n1, rfl, hp, by rw [ht]; exact hM.locs (fun _ h => by cases h)⟩) hM.2.2.2.2 hdg hlk
theorem r_retR {post : Option Nat → Mem → Nat → Nat → Prop} {v : Option Nat} {rt : String} {k1 n1 : Nat} (C : Cx D p s m args c cc nL own) (hr : meth.sig.returnType = some (.object rt)) (hlk : meth.locks = false) (hM : mH D H0 S k1 n1 H locs) (hp : post v S k1 n1) (hdg : decode cc pc = .ok (.areturn, 1)) : W p l e R s m args below meth c H locs cells slots (MQ below (mQ D H0 gR post) args s cells slots (mF H0)) (F0 m pc ls [va_rf v]) :=
  W.aret C.1 C.2.1 hr (Or.inl ⟨rt, rfl⟩) (rf_or v) (fun t ht _ => ⟨v, S, k1, n1, rfl, hp, by rw [ht]; exact hM.locs (fun _ h => by cases h)⟩) hM.2.2.2.2 hdg hlk
/-- the room that was spent, as the heap shows it -/
theorem r_tight {k n k0 n0 : Nat} {g : JFrame} {S0 : Mem} {locs0 : List Loc} (hM : mH D H0 S kc ns H locs) (h0 : mH D H0 S0 k0 n0 s.heap locs0) (h1 : kc ≤ k0 + k) (h2 : ns ≤ n0 + n) (kk : W p l e R s m args below meth c H locs k n Q g) : W p l e R s m args below meth c H locs cells slots Q g := by
  intro T hT X
  refine kk T hT { X with same := ?_ }
  obtain ⟨g1, g2, g3, g4, g5, g6⟩ := X.same
  have hTs : (T.setVm s.vm).heap = H := hT
  refine ⟨g1, g2, ?_, g4, ?_, g6⟩
  · rw [hTs, hM.2.2.1, h0.2.2.1]; omega
  · have e1 : ((H.toList.drop s.heap.size).map (fun c => c.slots.size)).sum + n0 = ns := by
      have e2 : nSl H0 H = ns := hM.2.2.2.1
      have e3 : nSl H0 s.heap = n0 := h0.2.2.2.1
      have hle : H0.size ≤ s.heap.size := by rw [h0.2.2.1]; omega
      have hz : s.heap.size ≤ H.size := by rw [← hTs]; exact g2
      have ht : (H.toList.map (fun c => c.slots.size)).take s.heap.size = s.heap.toList.map (fun c => c.slots.size) := by
        apply List.ext_getElem?
        intro i
        by_cases hi : i < s.heap.size
        · rw [List.getElem?_take_of_lt hi, List.getElem?_map, List.getElem?_map, Array.getElem?_toList, Array.getElem?_toList]
          have hc : s.heap[i]? = some (s.heap[i]'hi) := Array.getElem?_eq_getElem hi
          obtain ⟨c', h3, -, h4, -⟩ := g6 i _ hc
          rw [hTs] at h3
          rw [h3, hc]
          simp [h4]
        · rw [List.getElem?_eq_none (by simp; omega), List.getElem?_eq_none (by simp; omega)]
      have hap : H.toList.map (fun c => c.slots.size) = s.heap.toList.map (fun c => c.slots.size) ++ (H.toList.map (fun c => c.slots.size)).drop s.heap.size := by
        rw [← ht]; exact (List.take_append_drop _ _).symm
      unfold nSl at e2 e3
      rw [List.map_drop] at e2 e3 ⊢
      rw [hap, List.drop_append_of_le_length (by simpa using hle), List.sum_append, e3] at e2
      omega
    rw [hTs]
    omega
end Calls9
end
section
theorem ini_L : Cond.initialized RL ∈ gT := gT_of (tm1 0 rfl) rfl
theorem ini_X11 : Cond.initialized RX11 ∈ gT := gT_of (tm1 1 rfl) rfl
theorem ini_X9 : Cond.initialized RX9 ∈ gT := gT_of (tm1 2 rfl) rfl
theorem ini_X6 : Cond.initialized RX6 ∈ gT := gT_of (tm1 3 rfl) rfl
theorem ini_X10 : Cond.initialized RX10 ∈ gT := gT_of (tm1 4 rfl) rfl
theorem ini_X1 : Cond.initialized RX1 ∈ gT := gT_of (tm1 5 rfl) rfl
theorem ini_X8 : Cond.initialized RX8 ∈ gT := gT_of (tm1 6 rfl) rfl
theorem ini_X7 : Cond.initialized RX7 ∈ gT := gT_of (tm1 7 rfl) rfl
theorem ini_X12 : Cond.initialized RX12 ∈ gT := gT_of (tm1 8 rfl) rfl
theorem ini_X4 : Cond.initialized RX4 ∈ gT := gT_of (tm1 9 rfl) rfl
theorem ini_X5 : Cond.initialized RX5 ∈ gT := gT_of (tm1 10 rfl) rfl
theorem ini_X2 : Cond.initialized RX2 ∈ gT := gT_of (tm1 11 rfl) rfl
theorem ini_java_lang_Math : Cond.initialized "java/lang/Math" ∈ gT := gT_of (tm1 12 rfl) rfl
theorem ini_java_lang_Integer : Cond.initialized "java/lang/Integer" ∈ gT := gT_of (tm1 13 rfl) rfl
theorem ini_X3 : Cond.initialized RX3 ∈ gT := gT_of (tm1 14 rfl) rfl
theorem ini_X0 : Cond.initialized RX0 ∈ gT := gT_of (tm1 15 rfl) rfl
theorem k_L_7 : Cond.classLink RL 7 RX11 ∈ gT := gT_of (tm1 16 rfl) rfl
theorem in_X11 : Cond.instantiable RX11 13 ∈ gT := gT_of (tm1 17 rfl) rfl
theorem m_L_9 : Cond.methodLink RL 9 yX11_init ∈ gT := gT_of (tm1 18 rfl) rfl
theorem m_X11_1 : Cond.methodLink RX11 1 objectInit ∈ gT := gT_of (tm1 21 rfl) rfl
theorem k_X11_7 : Cond.classLink RX11 7 RX9 ∈ gT := gT_of (tm1 24 rfl) rfl
theorem in_X9 : Cond.instantiable RX9 2 ∈ gT := gT_of (tm1 25 rfl) rfl
theorem m_X11_9 : Cond.methodLinkNest RX11 9 yX9_init "ClickBench" ∈ tables_1 := tm1 26 rfl
theorem m_X9_3 : Cond.methodLink RX9 3 objectInit ∈ gT := gT_of (tm1 29 rfl) rfl
theorem f_X9_9 : fl RX9 9 9 0 := ⟨_, rfl, by decide, gT_of (tm1 30 rfl) rfl⟩
theorem f_X9_15 : fl RX9 15 9 1 := ⟨_, rfl, by decide, gT_of (tm1 31 rfl) rfl⟩
theorem f_X11_81 : fn RX11 81 9 1 := ⟨_, _, rfl, by decide, tm1 32 rfl⟩
theorem f_X10_36 : fn RX10 36 9 1 := ⟨_, _, rfl, by decide, tm1 33 rfl⟩
theorem ac_byte : Cond.arrayClass .byte ∈ gT := gT_of (tm1 39 rfl) rfl
theorem k_X11_16 : Cond.classLink RX11 16 RX6 ∈ gT := gT_of (tm1 40 rfl) rfl
theorem in_X6 : Cond.instantiable RX6 6 ∈ gT := gT_of (tm1 41 rfl) rfl
theorem m_X11_18 : Cond.methodLinkNest RX11 18 yX6_init "ClickBench" ∈ tables_1 := tm1 42 rfl
theorem m_X6_3 : Cond.methodLink RX6 3 objectInit ∈ gT := gT_of (tm1 45 rfl) rfl
theorem k_X6_28 : Cond.classLink RX6 28 RX10 ∈ gT := gT_of (tm1 46 rfl) rfl
theorem in_X10 : Cond.instantiable RX10 8 ∈ gT := gT_of (tm1 47 rfl) rfl
theorem m_X6_30 : Cond.methodLinkNest RX6 30 yX10_init "ClickBench" ∈ tables_1 := tm1 48 rfl
theorem m_X10_1 : Cond.methodLink RX10 1 objectInit ∈ gT := gT_of (tm1 51 rfl) rfl
theorem f_X10_32 : fl RX10 32 10 0 := ⟨_, rfl, by decide, gT_of (tm1 52 rfl) rfl⟩
theorem f_X10_7 : fl RX10 7 10 1 := ⟨_, rfl, by decide, gT_of (tm1 53 rfl) rfl⟩
theorem f_X10_13 : fl RX10 13 10 2 := ⟨_, rfl, by decide, gT_of (tm1 54 rfl) rfl⟩
theorem f_X6_46 : fn RX6 46 10 2 := ⟨_, _, rfl, by decide, tm1 55 rfl⟩
theorem f_X10_16 : fl RX10 16 10 3 := ⟨_, rfl, by decide, gT_of (tm1 56 rfl) rfl⟩
theorem f_X6_53 : fn RX6 53 10 3 := ⟨_, _, rfl, by decide, tm1 57 rfl⟩
theorem f_X10_19 : fl RX10 19 10 4 := ⟨_, rfl, by decide, gT_of (tm1 58 rfl) rfl⟩
theorem f_X6_87 : fn RX6 87 10 4 := ⟨_, _, rfl, by decide, tm1 59 rfl⟩
theorem f_X10_23 : fl RX10 23 10 5 := ⟨_, rfl, by decide, gT_of (tm1 60 rfl) rfl⟩
theorem f_X6_98 : fn RX6 98 10 5 := ⟨_, _, rfl, by decide, tm1 61 rfl⟩
theorem f_X10_26 : fl RX10 26 10 6 := ⟨_, rfl, by decide, gT_of (tm1 62 rfl) rfl⟩
theorem f_X6_102 : fn RX6 102 10 6 := ⟨_, _, rfl, by decide, tm1 63 rfl⟩
theorem f_X10_29 : fl RX10 29 10 7 := ⟨_, rfl, by decide, gT_of (tm1 64 rfl) rfl⟩
theorem f_X6_106 : fn RX6 106 10 7 := ⟨_, _, rfl, by decide, tm1 65 rfl⟩
theorem f_X6_33 : fl RX6 33 6 0 := ⟨_, rfl, by decide, gT_of (tm1 83 rfl) rfl⟩
theorem f_X6_11 : fl RX6 11 6 1 := ⟨_, rfl, by decide, gT_of (tm1 84 rfl) rfl⟩
theorem f_X11_95 : fn RX11 95 6 1 := ⟨_, _, rfl, by decide, tm1 85 rfl⟩
theorem f_X6_15 : fl RX6 15 6 2 := ⟨_, rfl, by decide, gT_of (tm1 86 rfl) rfl⟩
theorem f_X11_98 : fn RX11 98 6 2 := ⟨_, _, rfl, by decide, tm1 87 rfl⟩
theorem f_X6_18 : fl RX6 18 6 3 := ⟨_, rfl, by decide, gT_of (tm1 88 rfl) rfl⟩
theorem f_X6_21 : fl RX6 21 6 4 := ⟨_, rfl, by decide, gT_of (tm1 89 rfl) rfl⟩
theorem f_X6_25 : fl RX6 25 6 5 := ⟨_, rfl, by decide, gT_of (tm1 90 rfl) rfl⟩
theorem k_X11_25 : Cond.classLink RX11 25 RX4 ∈ gT := gT_of (tm1 104 rfl) rfl
theorem k_X11_31 : Cond.classLink RX11 31 RX2 ∈ gT := gT_of (tm1 106 rfl) rfl
theorem k_X11_41 : Cond.classLink RX11 41 RX1 ∈ gT := gT_of (tm1 108 rfl) rfl
theorem in_X1 : Cond.instantiable RX1 4 ∈ gT := gT_of (tm1 109 rfl) rfl
theorem m_X11_43 : Cond.methodLinkNest RX11 43 yX1_init "ClickBench" ∈ tables_1 := tm1 110 rfl
theorem m_X1_3 : Cond.methodLink RX1 3 objectInit ∈ gT := gT_of (tm1 113 rfl) rfl
theorem f_X1_9 : fl RX1 9 1 0 := ⟨_, rfl, by decide, gT_of (tm1 114 rfl) rfl⟩
theorem f_X11_181 : fn RX11 181 1 0 := ⟨_, _, rfl, by decide, tm1 115 rfl⟩
theorem f_X1_15 : fl RX1 15 1 1 := ⟨_, rfl, by decide, gT_of (tm1 116 rfl) rfl⟩
theorem f_X11_184 : fn RX11 184 1 1 := ⟨_, _, rfl, by decide, tm1 117 rfl⟩
theorem f_X1_18 : fl RX1 18 1 2 := ⟨_, rfl, by decide, gT_of (tm1 118 rfl) rfl⟩
theorem f_X11_187 : fn RX11 187 1 2 := ⟨_, _, rfl, by decide, tm1 119 rfl⟩
theorem f_X1_22 : fl RX1 22 1 3 := ⟨_, rfl, by decide, gT_of (tm1 120 rfl) rfl⟩
theorem f_X11_190 : fn RX11 190 1 3 := ⟨_, _, rfl, by decide, tm1 121 rfl⟩
theorem ac_int : Cond.arrayClass .int ∈ gT := gT_of (tm1 131 rfl) rfl
theorem k_X11_51 : Cond.classLink RX11 51 RX8 ∈ gT := gT_of (tm1 132 rfl) rfl
theorem in_X8 : Cond.instantiable RX8 4 ∈ gT := gT_of (tm1 133 rfl) rfl
theorem m_X11_53 : Cond.methodLinkNest RX11 53 yX8_init "ClickBench" ∈ tables_1 := tm1 134 rfl
theorem m_X8_3 : Cond.methodLink RX8 3 objectInit ∈ gT := gT_of (tm1 137 rfl) rfl
theorem k_X8_9 : Cond.classLink RX8 9 RX5 ∈ gT := gT_of (tm1 138 rfl) rfl
theorem f_X8_11 : fl RX8 11 8 0 := ⟨_, rfl, by decide, gT_of (tm1 140 rfl) rfl⟩
theorem f_X8_17 : fl RX8 17 8 1 := ⟨_, rfl, by decide, gT_of (tm1 141 rfl) rfl⟩
theorem f_X8_21 : fl RX8 21 8 2 := ⟨_, rfl, by decide, gT_of (tm1 142 rfl) rfl⟩
theorem f_X11_205 : fn RX11 205 8 2 := ⟨_, _, rfl, by decide, tm1 143 rfl⟩
theorem f_X8_25 : fl RX8 25 8 3 := ⟨_, rfl, by decide, gT_of (tm1 144 rfl) rfl⟩
theorem f_X11_213 : fn RX11 213 8 3 := ⟨_, _, rfl, by decide, tm1 145 rfl⟩
theorem ac_boolean : Cond.arrayClass .boolean ∈ gT := gT_of (tm1 155 rfl) rfl
theorem k_X11_58 : Cond.classLink RX11 58 RX0 ∈ gT := gT_of (tm1 156 rfl) rfl
theorem k_X11_64 : Cond.classLink RX11 64 RX7 ∈ gT := gT_of (tm1 158 rfl) rfl
theorem in_X7 : Cond.instantiable RX7 6 ∈ gT := gT_of (tm1 159 rfl) rfl
theorem m_X11_66 : Cond.methodLinkNest RX11 66 yX7_init "ClickBench" ∈ tables_1 := tm1 160 rfl
theorem m_X7_3 : Cond.methodLink RX7 3 objectInit ∈ gT := gT_of (tm1 163 rfl) rfl
theorem k_X7_9 : Cond.classLink RX7 9 RX5 ∈ gT := gT_of (tm1 164 rfl) rfl
theorem f_X7_11 : fl RX7 11 7 0 := ⟨_, rfl, by decide, gT_of (tm1 165 rfl) rfl⟩
theorem f_X7_17 : fl RX7 17 7 1 := ⟨_, rfl, by decide, gT_of (tm1 166 rfl) rfl⟩
theorem f_X11_252 : fn RX11 252 7 1 := ⟨_, _, rfl, by decide, tm1 167 rfl⟩
theorem f_X7_21 : fl RX7 21 7 2 := ⟨_, rfl, by decide, gT_of (tm1 168 rfl) rfl⟩
theorem f_X11_255 : fn RX11 255 7 2 := ⟨_, _, rfl, by decide, tm1 169 rfl⟩
theorem f_X7_24 : fl RX7 24 7 3 := ⟨_, rfl, by decide, gT_of (tm1 170 rfl) rfl⟩
theorem f_X11_258 : fn RX11 258 7 3 := ⟨_, _, rfl, by decide, tm1 171 rfl⟩
theorem f_X7_28 : fl RX7 28 7 4 := ⟨_, rfl, by decide, gT_of (tm1 172 rfl) rfl⟩
theorem f_X11_261 : fn RX11 261 7 4 := ⟨_, _, rfl, by decide, tm1 173 rfl⟩
theorem f_X7_31 : fl RX7 31 7 5 := ⟨_, rfl, by decide, gT_of (tm1 174 rfl) rfl⟩
theorem f_X11_262 : fn RX11 262 7 5 := ⟨_, _, rfl, by decide, tm1 175 rfl⟩
theorem f_X11_10 : fl RX11 10 11 0 := ⟨_, rfl, by decide, gT_of (tm1 189 rfl) rfl⟩
theorem f_X11_21 : fl RX11 21 11 1 := ⟨_, rfl, by decide, gT_of (tm1 190 rfl) rfl⟩
theorem f_X11_27 : fl RX11 27 11 2 := ⟨_, rfl, by decide, gT_of (tm1 191 rfl) rfl⟩
theorem f_X11_33 : fl RX11 33 11 3 := ⟨_, rfl, by decide, gT_of (tm1 192 rfl) rfl⟩
theorem f_X11_37 : fl RX11 37 11 4 := ⟨_, rfl, by decide, gT_of (tm1 193 rfl) rfl⟩
theorem f_X11_44 : fl RX11 44 11 5 := ⟨_, rfl, by decide, gT_of (tm1 194 rfl) rfl⟩
theorem f_X11_48 : fl RX11 48 11 6 := ⟨_, rfl, by decide, gT_of (tm1 195 rfl) rfl⟩
theorem f_X11_54 : fl RX11 54 11 7 := ⟨_, rfl, by decide, gT_of (tm1 196 rfl) rfl⟩
theorem f_X11_60 : fl RX11 60 11 8 := ⟨_, rfl, by decide, gT_of (tm1 197 rfl) rfl⟩
theorem f_X11_67 : fl RX11 67 11 9 := ⟨_, rfl, by decide, gT_of (tm1 198 rfl) rfl⟩
theorem f_X11_71 : fl RX11 71 11 10 := ⟨_, rfl, by decide, gT_of (tm1 199 rfl) rfl⟩
theorem f_X11_75 : fl RX11 75 11 11 := ⟨_, rfl, by decide, gT_of (tm1 200 rfl) rfl⟩
theorem f_X11_78 : fl RX11 78 11 12 := ⟨_, rfl, by decide, gT_of (tm1 201 rfl) rfl⟩
theorem m_L_13 : Cond.methodLink RL 13 yX11_feed ∈ gT := gT_of (tm1 229 rfl) rfl
theorem m_X11_84 : Cond.methodLinkNest RX11 84 yX9_append "ClickBench" ∈ tables_1 := tm1 233 rfl
theorem m_L_18 : Cond.methodLink RL 18 yX11_end ∈ gT := gT_of (tm1 237 rfl) rfl
theorem m_L_23 : Cond.methodLink RL 23 yX11_page ∈ gT := gT_of (tm2 1 rfl) rfl
theorem m_X11_88 : Cond.methodLinkNest RX11 88 yX6_readPage "ClickBench" ∈ tables_1 := tm2 5 rfl
theorem k_X6_37 : Cond.classLink RX6 37 RX4 ∈ gT := gT_of (tm2 9 rfl) rfl
theorem in_X4 : Cond.instantiable RX4 2 ∈ gT := gT_of (tm2 10 rfl) rfl
theorem m_X6_39 : Cond.methodLinkNest RX6 39 yX4_init "ClickBench" ∈ tables_1 := tm2 11 rfl
theorem m_X4_3 : Cond.methodLink RX4 3 objectInit ∈ gT := gT_of (tm2 14 rfl) rfl
theorem k_X4_9 : Cond.classLink RX4 9 RX5 ∈ gT := gT_of (tm2 15 rfl) rfl
theorem f_X4_11 : fl RX4 11 4 0 := ⟨_, rfl, by decide, gT_of (tm2 16 rfl) rfl⟩
theorem f_X4_17 : fl RX4 17 4 1 := ⟨_, rfl, by decide, gT_of (tm2 17 rfl) rfl⟩
theorem f_X5_55 : fn RX5 55 4 1 := ⟨_, _, rfl, by decide, tm2 18 rfl⟩
theorem f_X1_25 : fn RX1 25 4 1 := ⟨_, _, rfl, by decide, tm2 19 rfl⟩
theorem f_X3_53 : fn RX3 53 4 1 := ⟨_, _, rfl, by decide, tm2 20 rfl⟩
theorem f_X8_40 : fn RX8 40 4 1 := ⟨_, _, rfl, by decide, tm2 21 rfl⟩
theorem f_X11_92 : fn RX11 92 4 1 := ⟨_, _, rfl, by decide, tm2 22 rfl⟩
theorem f_X6_79 : fn RX6 79 4 1 := ⟨_, _, rfl, by decide, tm2 23 rfl⟩
theorem f_X2_55 : fn RX2 55 4 1 := ⟨_, _, rfl, by decide, tm2 24 rfl⟩
theorem m_X6_40 : Cond.methodLinkNest RX6 40 yX10_rewind "ClickBench" ∈ tables_1 := tm2 30 rfl
theorem m_X6_43 : Cond.methodLinkNest RX6 43 yX10_advance "ClickBench" ∈ tables_1 := tm2 34 rfl
theorem m_X10_41 : Cond.methodLinkNest RX10 41 yX9_byteAt "ClickBench" ∈ tables_1 := tm2 38 rfl
theorem m_X10_45 : Cond.methodLink RX10 45 yX10_isBlank ∈ gT := gT_of (tm2 42 rfl) rfl
theorem m_X10_49 : Cond.methodLink RX10 49 yX10_isLetter ∈ gT := gT_of (tm2 45 rfl) rfl
theorem m_X10_52 : Cond.methodLink RX10 52 yX10_takeWord ∈ gT := gT_of (tm2 48 rfl) rfl
theorem m_X10_55 : Cond.methodLink RX10 55 yX10_takeText ∈ gT := gT_of (tm2 52 rfl) rfl
theorem m_X10_61 : Cond.methodLink RX10 61 yX10_isTextByte ∈ gT := gT_of (tm2 56 rfl) rfl
theorem m_X10_64 : Cond.methodLink RX10 64 yX10_putTextByte ∈ gT := gT_of (tm2 59 rfl) rfl
theorem m_X10_58 : Cond.methodLink RX10 58 yX10_signToken ∈ gT := gT_of (tm2 63 rfl) rfl
theorem m_X6_49 : Cond.methodLink RX6 49 yX6_takeToken ∈ gT := gT_of (tm2 66 rfl) rfl
theorem m_X6_56 : Cond.methodLink RX6 56 yX6_takeName ∈ gT := gT_of (tm2 70 rfl) rfl
theorem m_X6_60 : Cond.methodLink RX6 60 yX6_takeKind ∈ gT := gT_of (tm2 74 rfl) rfl
theorem m_X6_91 : Cond.methodLinkNest RX6 91 yX4_add "ClickBench" ∈ tables_1 := tm2 78 rfl
theorem in_X5 : Cond.instantiable RX5 17 ∈ gT := gT_of (tm2 82 rfl) rfl
theorem m_X4_21 : Cond.methodLinkNest RX4 21 yX5_init "ClickBench" ∈ tables_1 := tm2 83 rfl
theorem m_X5_3 : Cond.methodLink RX5 3 objectInit ∈ gT := gT_of (tm2 86 rfl) rfl
theorem m_X5_63 : Cond.methodLinkNest RX5 63 yX4_at "ClickBench" ∈ tables_1 := tm2 87 rfl
theorem m_X5_67 : Cond.methodLink RX5 67 yX5_labelBehind ∈ gT := gT_of (tm2 91 rfl) rfl
theorem q_X5_84 : Cond.constantLong RX5 84 (12748844 : Int64) ∈ gT := gT_of (tm2 94 rfl) rfl
theorem m_X5_74 : Cond.methodLink RX5 74 yX5_turnBehind ∈ gT := gT_of (tm2 95 rfl) rfl
theorem f_X5_42 : fl RX5 42 5 0 := ⟨_, rfl, by decide, gT_of (tm2 98 rfl) rfl⟩
theorem f_X8_36 : fn RX8 36 5 0 := ⟨_, _, rfl, by decide, tm2 99 rfl⟩
theorem f_X11_158 : fn RX11 158 5 0 := ⟨_, _, rfl, by decide, tm2 100 rfl⟩
theorem f_X5_60 : fl RX5 60 5 1 := ⟨_, rfl, by decide, gT_of (tm2 101 rfl) rfl⟩
theorem f_X8_47 : fn RX8 47 5 1 := ⟨_, _, rfl, by decide, tm2 102 rfl⟩
theorem f_X2_48 : fn RX2 48 5 1 := ⟨_, _, rfl, by decide, tm2 103 rfl⟩
theorem f_X11_323 : fn RX11 323 5 1 := ⟨_, _, rfl, by decide, tm2 104 rfl⟩
theorem f_X5_46 : fl RX5 46 5 2 := ⟨_, rfl, by decide, gT_of (tm2 105 rfl) rfl⟩
theorem f_X1_34 : fn RX1 34 5 2 := ⟨_, _, rfl, by decide, tm2 106 rfl⟩
theorem f_X3_33 : fn RX3 33 5 2 := ⟨_, _, rfl, by decide, tm2 107 rfl⟩
theorem f_X11_143 : fn RX11 143 5 2 := ⟨_, _, rfl, by decide, tm2 108 rfl⟩
theorem f_X2_81 : fn RX2 81 5 2 := ⟨_, _, rfl, by decide, tm2 109 rfl⟩
theorem f_X5_49 : fl RX5 49 5 3 := ⟨_, rfl, by decide, gT_of (tm2 110 rfl) rfl⟩
theorem f_X3_37 : fn RX3 37 5 3 := ⟨_, _, rfl, by decide, tm2 111 rfl⟩
theorem f_X2_33 : fn RX2 33 5 3 := ⟨_, _, rfl, by decide, tm2 112 rfl⟩
theorem f_X4_31 : fn RX4 31 5 3 := ⟨_, _, rfl, by decide, tm2 113 rfl⟩
theorem f_X11_105 : fn RX11 105 5 3 := ⟨_, _, rfl, by decide, tm2 114 rfl⟩
theorem f_X6_114 : fn RX6 114 5 3 := ⟨_, _, rfl, by decide, tm2 115 rfl⟩
theorem f_X5_52 : fl RX5 52 5 4 := ⟨_, rfl, by decide, gT_of (tm2 116 rfl) rfl⟩
theorem f_X2_42 : fn RX2 42 5 4 := ⟨_, _, rfl, by decide, tm2 117 rfl⟩
theorem f_X11_115 : fn RX11 115 5 4 := ⟨_, _, rfl, by decide, tm2 118 rfl⟩
theorem f_X5_71 : fl RX5 71 5 5 := ⟨_, rfl, by decide, gT_of (tm2 119 rfl) rfl⟩
theorem f_X11_124 : fn RX11 124 5 5 := ⟨_, _, rfl, by decide, tm2 120 rfl⟩
theorem f_X5_78 : fl RX5 78 5 6 := ⟨_, rfl, by decide, gT_of (tm2 121 rfl) rfl⟩
theorem f_X3_30 : fn RX3 30 5 6 := ⟨_, _, rfl, by decide, tm2 122 rfl⟩
theorem f_X11_121 : fn RX11 121 5 6 := ⟨_, _, rfl, by decide, tm2 123 rfl⟩
theorem f_X5_81 : fl RX5 81 5 7 := ⟨_, rfl, by decide, gT_of (tm2 124 rfl) rfl⟩
theorem f_X3_25 : fn RX3 25 5 7 := ⟨_, _, rfl, by decide, tm2 125 rfl⟩
theorem f_X6_82 : fn RX6 82 5 7 := ⟨_, _, rfl, by decide, tm2 126 rfl⟩
theorem f_X11_127 : fn RX11 127 5 7 := ⟨_, _, rfl, by decide, tm2 127 rfl⟩
theorem f_X5_9 : fl RX5 9 5 8 := ⟨_, rfl, by decide, gT_of (tm2 128 rfl) rfl⟩
theorem f_X2_45 : fn RX2 45 5 8 := ⟨_, _, rfl, by decide, tm2 129 rfl⟩
theorem f_X4_24 : fn RX4 24 5 8 := ⟨_, _, rfl, by decide, tm2 130 rfl⟩
theorem f_X11_118 : fn RX11 118 5 8 := ⟨_, _, rfl, by decide, tm2 131 rfl⟩
theorem f_X5_15 : fl RX5 15 5 9 := ⟨_, rfl, by decide, gT_of (tm2 132 rfl) rfl⟩
theorem f_X4_28 : fn RX4 28 5 9 := ⟨_, _, rfl, by decide, tm2 133 rfl⟩
theorem f_X2_52 : fn RX2 52 5 9 := ⟨_, _, rfl, by decide, tm2 134 rfl⟩
theorem f_X11_140 : fn RX11 140 5 9 := ⟨_, _, rfl, by decide, tm2 135 rfl⟩
theorem f_X5_19 : fl RX5 19 5 10 := ⟨_, rfl, by decide, gT_of (tm2 136 rfl) rfl⟩
theorem f_X6_95 : fn RX6 95 5 10 := ⟨_, _, rfl, by decide, tm2 137 rfl⟩
theorem f_X11_151 : fn RX11 151 5 10 := ⟨_, _, rfl, by decide, tm2 138 rfl⟩
theorem f_X2_85 : fn RX2 85 5 10 := ⟨_, _, rfl, by decide, tm2 139 rfl⟩
theorem f_X5_23 : fl RX5 23 5 11 := ⟨_, rfl, by decide, gT_of (tm2 140 rfl) rfl⟩
theorem f_X6_101 : fn RX6 101 5 11 := ⟨_, _, rfl, by decide, tm2 141 rfl⟩
theorem f_X5_26 : fl RX5 26 5 12 := ⟨_, rfl, by decide, gT_of (tm2 142 rfl) rfl⟩
theorem f_X6_105 : fn RX6 105 5 12 := ⟨_, _, rfl, by decide, tm2 143 rfl⟩
theorem f_X5_29 : fl RX5 29 5 13 := ⟨_, rfl, by decide, gT_of (tm2 144 rfl) rfl⟩
theorem f_X11_134 : fn RX11 134 5 13 := ⟨_, _, rfl, by decide, tm2 145 rfl⟩
theorem f_X6_109 : fn RX6 109 5 13 := ⟨_, _, rfl, by decide, tm2 146 rfl⟩
theorem f_X5_32 : fl RX5 32 5 14 := ⟨_, rfl, by decide, gT_of (tm2 147 rfl) rfl⟩
theorem f_X11_130 : fn RX11 130 5 14 := ⟨_, _, rfl, by decide, tm2 148 rfl⟩
theorem f_X6_110 : fn RX6 110 5 14 := ⟨_, _, rfl, by decide, tm2 149 rfl⟩
theorem f_X5_36 : fl RX5 36 5 15 := ⟨_, rfl, by decide, gT_of (tm2 150 rfl) rfl⟩
theorem f_X7_49 : fn RX7 49 5 15 := ⟨_, _, rfl, by decide, tm2 151 rfl⟩
theorem f_X11_137 : fn RX11 137 5 15 := ⟨_, _, rfl, by decide, tm2 152 rfl⟩
theorem f_X5_39 : fl RX5 39 5 16 := ⟨_, rfl, by decide, gT_of (tm2 153 rfl) rfl⟩
theorem f_X7_46 : fn RX7 46 5 16 := ⟨_, _, rfl, by decide, tm2 154 rfl⟩
theorem m_X6_63 : Cond.methodLink RX6 63 yX6_move ∈ gT := gT_of (tm2 190 rfl) rfl
theorem m_X6_67 : Cond.methodLink RX6 67 yX6_takeText ∈ gT := gT_of (tm2 194 rfl) rfl
theorem m_X6_70 : Cond.methodLink RX6 70 yX6_takeHarm ∈ gT := gT_of (tm2 198 rfl) rfl
theorem m_X6_73 : Cond.methodLink RX6 73 yX6_goDown ∈ gT := gT_of (tm2 202 rfl) rfl
theorem m_X6_76 : Cond.methodLink RX6 76 yX6_goUp ∈ gT := gT_of (tm2 206 rfl) rfl
theorem m_L_27 : Cond.methodLink RL 27 yX11_fault ∈ gT := gT_of (tm2 210 rfl) rfl
theorem m_L_31 : Cond.methodLink RL 31 yX11_part ∈ gT := gT_of (tm2 214 rfl) rfl
theorem m_X11_101 : Cond.methodLink RX11 101 yX11_partOn ∈ gT := gT_of (tm2 218 rfl) rfl
theorem m_X11_173 : Cond.methodLink RX11 173 yX11_pageOn ∈ gT := gT_of (tm2 222 rfl) rfl
theorem m_X11_269 : Cond.methodLinkNest RX11 269 yX4_at "ClickBench" ∈ tables_1 := tm2 226 rfl
theorem m_X11_111 : Cond.methodLink RX11 111 yX11_numberOf ∈ gT := gT_of (tm2 227 rfl) rfl
theorem m_L_36 : Cond.methodLink RL 36 yX11_text ∈ gT := gT_of (tm2 230 rfl) rfl
theorem m_X11_147 : Cond.methodLink RX11 147 yX11_letterOf ∈ gT := gT_of (tm2 234 rfl) rfl
theorem m_X11_154 : Cond.methodLinkNest RX11 154 yX5_textByte "ClickBench" ∈ tables_1 := tm2 237 rfl
theorem m_L_41 : Cond.methodLink RL 41 yX11_far ∈ gT := gT_of (tm3 1 rfl) rfl
theorem m_X11_162 : Cond.methodLink RX11 162 yX11_likenessFor ∈ gT := gT_of (tm3 5 rfl) rfl
theorem m_X11_282 : Cond.methodLink RX11 282 yX11_oldestTable ∈ gT := gT_of (tm3 9 rfl) rfl
theorem in_X2 : Cond.instantiable RX2 5 ∈ gT := gT_of (tm3 13 rfl) rfl
theorem m_X11_292 : Cond.methodLinkNest RX11 292 yX2_init "ClickBench" ∈ tables_1 := tm3 14 rfl
theorem m_X2_3 : Cond.methodLink RX2 3 objectInit ∈ gT := gT_of (tm3 17 rfl) rfl
theorem f_X2_26 : fl RX2 26 2 0 := ⟨_, rfl, by decide, gT_of (tm3 18 rfl) rfl⟩
theorem f_X2_9 : fl RX2 9 2 1 := ⟨_, rfl, by decide, gT_of (tm3 19 rfl) rfl⟩
theorem f_X2_15 : fl RX2 15 2 2 := ⟨_, rfl, by decide, gT_of (tm3 20 rfl) rfl⟩
theorem f_X2_19 : fl RX2 19 2 3 := ⟨_, rfl, by decide, gT_of (tm3 21 rfl) rfl⟩
theorem f_X11_276 : fn RX11 276 2 3 := ⟨_, _, rfl, by decide, tm3 22 rfl⟩
theorem f_X2_23 : fl RX2 23 2 4 := ⟨_, rfl, by decide, gT_of (tm3 23 rfl) rfl⟩
theorem f_X11_279 : fn RX11 279 2 4 := ⟨_, _, rfl, by decide, tm3 24 rfl⟩
theorem m_X11_286 : Cond.methodLinkNest RX11 286 yX2_begin "ClickBench" ∈ tables_1 := tm3 36 rfl
theorem m_X11_289 : Cond.methodLinkNest RX11 289 yX2_measure "ClickBench" ∈ tables_1 := tm3 40 rfl
theorem m_X2_60 : Cond.methodLinkNest RX2 60 yX4_at "ClickBench" ∈ tables_1 := tm3 44 rfl
theorem m_X2_64 : Cond.methodLink RX2 64 yX2_measureKey ∈ gT := gT_of (tm3 45 rfl) rfl
theorem m_X2_68 : Cond.methodLink RX2 68 yX2_measureForests ∈ gT := gT_of (tm3 49 rfl) rfl
theorem m_X2_72 : Cond.methodLink RX2 72 yJ9_min_7cf53 ∈ gT := gT_of (tm3 53 rfl) rfl
theorem m_X2_78 : Cond.methodLink RX2 78 yX2_change ∈ gT := gT_of (tm3 56 rfl) rfl
theorem m_X2_88 : Cond.methodLinkNest RX2 88 yX5_hasTextOf "ClickBench" ∈ tables_1 := tm3 59 rfl
theorem m_X11_166 : Cond.methodLinkNest RX11 166 yX2_farOf "ClickBench" ∈ tables_1 := tm3 63 rfl
theorem m_L_45 : Cond.methodLink RL 45 yX11_cost ∈ gT := gT_of (tm3 67 rfl) rfl
theorem m_X11_170 : Cond.methodLinkNest RX11 170 yX2_costOf "ClickBench" ∈ tables_1 := tm3 71 rfl
theorem m_X2_29 : Cond.methodLink RX2 29 yX2_farOf ∈ gT := gT_of (tm3 75 rfl) rfl
theorem m_X2_39 : Cond.methodLink RX2 39 yX2_changeAlone ∈ gT := gT_of (tm3 76 rfl) rfl
theorem m_L_49 : Cond.methodLink RL 49 yX11_gap ∈ gT := gT_of (tm3 79 rfl) rfl
theorem m_L_54 : Cond.methodLink RL 54 yX11_find ∈ gT := gT_of (tm3 83 rfl) rfl
theorem m_X11_177 : Cond.methodLinkNest RX11 177 yX1_look "ClickBench" ∈ tables_1 := tm3 87 rfl
theorem m_X1_30 : Cond.methodLinkNest RX1 30 yX4_at "ClickBench" ∈ tables_1 := tm3 91 rfl
theorem m_X1_40 : Cond.methodLinkNest RX1 40 yX2_costOf "ClickBench" ∈ tables_1 := tm3 92 rfl
theorem m_L_58 : Cond.methodLink RL 58 yX11_found ∈ gT := gT_of (tm3 93 rfl) rfl
theorem m_L_62 : Cond.methodLink RL 62 yX11_fits ∈ gT := gT_of (tm3 97 rfl) rfl
theorem m_X11_193 : Cond.methodLink RX11 193 yX11_areMarks ∈ gT := gT_of (tm3 101 rfl) rfl
theorem m_X11_197 : Cond.methodLinkNest RX11 197 yX4_countFitting "ClickBench" ∈ tables_1 := tm3 104 rfl
theorem m_X4_34 : Cond.methodLink RX4 34 yX4_at ∈ gT := gT_of (tm3 108 rfl) rfl
theorem m_X4_38 : Cond.methodLinkNest RX4 38 yX5_fitsMarksOf "ClickBench" ∈ tables_1 := tm3 109 rfl
theorem m_X5_107 : Cond.methodLink RX5 107 yX5_marksSharedWith ∈ gT := gT_of (tm3 113 rfl) rfl
theorem m_X5_88 : Cond.methodLink RX5 88 yX5_hasTextOf ∈ gT := gT_of (tm3 117 rfl) rfl
theorem m_X5_92 : Cond.methodLink RX5 92 yX5_kindOf ∈ gT := gT_of (tm3 118 rfl) rfl
theorem m_X5_96 : Cond.methodLink RX5 96 yX5_nameOf ∈ gT := gT_of (tm3 121 rfl) rfl
theorem m_X5_99 : Cond.methodLink RX5 99 yX5_sameLabel ∈ gT := gT_of (tm3 124 rfl) rfl
theorem m_X5_103 : Cond.methodLink RX5 103 yX5_hasPathOf ∈ gT := gT_of (tm3 127 rfl) rfl
theorem m_L_66 : Cond.methodLink RL 66 yX11_fit ∈ gT := gT_of (tm3 131 rfl) rfl
theorem m_X11_201 : Cond.methodLinkNest RX11 201 yX4_fitting "ClickBench" ∈ tables_1 := tm3 135 rfl
theorem m_L_70 : Cond.methodLink RL 70 yX11_sample ∈ gT := gT_of (tm3 139 rfl) rfl
theorem m_X11_206 : Cond.methodLinkNest RX11 206 yX8_add "ClickBench" ∈ tables_1 := tm3 143 rfl
theorem m_X8_28 : Cond.methodLink RX8 28 yX8_first ∈ gT := gT_of (tm3 147 rfl) rfl
theorem m_X8_32 : Cond.methodLinkNest RX8 32 yX5_marksSharedWith "ClickBench" ∈ tables_1 := tm3 151 rfl
theorem m_X8_43 : Cond.methodLinkNest RX8 43 yX4_at "ClickBench" ∈ tables_1 := tm3 152 rfl
theorem m_X8_50 : Cond.methodLink RX8 50 yX8_noteShared ∈ gT := gT_of (tm3 153 rfl) rfl
theorem m_L_75 : Cond.methodLink RL 75 yX11_forget ∈ gT := gT_of (tm3 157 rfl) rfl
theorem m_X11_210 : Cond.methodLinkNest RX11 210 yX8_dropAll "ClickBench" ∈ tables_1 := tm3 161 rfl
theorem m_L_80 : Cond.methodLink RL 80 yX11_stays ∈ gT := gT_of (tm3 165 rfl) rfl
theorem m_L_84 : Cond.methodLink RL 84 yX11_learnt ∈ gT := gT_of (tm3 169 rfl) rfl
theorem m_X11_216 : Cond.methodLinkNest RX11 216 yX8_leastMarks "ClickBench" ∈ tables_1 := tm3 173 rfl
theorem m_X8_54 : Cond.methodLink RX8 54 yJ6_bitCount_0f7a4 ∈ gT := gT_of (tm3 177 rfl) rfl
theorem q_java_lang_Integer_265 : Cond.constant "java/lang/Integer" 265 (1431655765 : Int32) ∈ gT := gT_of (tm3 180 rfl) rfl
theorem q_java_lang_Integer_266 : Cond.constant "java/lang/Integer" 266 (858993459 : Int32) ∈ gT := gT_of (tm3 181 rfl) rfl
theorem q_java_lang_Integer_267 : Cond.constant "java/lang/Integer" 267 (252645135 : Int32) ∈ gT := gT_of (tm3 182 rfl) rfl
theorem m_L_88 : Cond.methodLink RL 88 yX11_seen ∈ gT := gT_of (tm3 183 rfl) rfl
theorem m_X11_220 : Cond.methodLinkNest RX11 220 yX8_first "ClickBench" ∈ tables_1 := tm3 187 rfl
theorem m_L_92 : Cond.methodLink RL 92 yX11_rows ∈ gT := gT_of (tm3 188 rfl) rfl
theorem m_X11_224 : Cond.methodLink RX11 224 yX11_loopOn ∈ gT := gT_of (tm3 192 rfl) rfl
theorem m_X11_272 : Cond.methodLinkNest RX11 272 yX3_of "ClickBench" ∈ tables_1 := tm3 196 rfl
theorem m_X3_40 : Cond.methodLink RX3 40 yJ9_min_7cf53 ∈ gT := gT_of (tm3 199 rfl) rfl
theorem k_X3_10 : Cond.classLink RX3 10 RX3 ∈ gT := gT_of (tm3 200 rfl) rfl
theorem in_X3 : Cond.instantiable RX3 4 ∈ gT := gT_of (tm3 201 rfl) rfl
theorem m_X3_46 : Cond.methodLink RX3 46 yJ9_abs_0f7a4 ∈ gT := gT_of (tm3 202 rfl) rfl
theorem m_X3_50 : Cond.methodLink RX3 50 yX3_init ∈ gT := gT_of (tm3 205 rfl) rfl
theorem m_X3_3 : Cond.methodLink RX3 3 objectInit ∈ gT := gT_of (tm3 208 rfl) rfl
theorem f_X3_9 : fl RX3 9 3 0 := ⟨_, rfl, by decide, gT_of (tm3 209 rfl) rfl⟩
theorem f_X11_242 : fn RX11 242 3 0 := ⟨_, _, rfl, by decide, tm3 210 rfl⟩
theorem f_X3_15 : fl RX3 15 3 1 := ⟨_, rfl, by decide, gT_of (tm3 211 rfl) rfl⟩
theorem f_X3_19 : fl RX3 19 3 2 := ⟨_, rfl, by decide, gT_of (tm3 212 rfl) rfl⟩
theorem f_X3_22 : fl RX3 22 3 3 := ⟨_, rfl, by decide, gT_of (tm3 213 rfl) rfl⟩
theorem m_X11_228 : Cond.methodLinkNest RX11 228 yX3_countRows "ClickBench" ∈ tables_1 := tm3 223 rfl
theorem m_X3_66 : Cond.methodLink RX3 66 yX3_stepOn ∈ gT := gT_of (tm3 227 rfl) rfl
theorem m_X3_58 : Cond.methodLinkNest RX3 58 yX4_at "ClickBench" ∈ tables_1 := tm3 231 rfl
theorem m_X3_62 : Cond.methodLinkNest RX3 62 yX5_hasPathOf "ClickBench" ∈ tables_1 := tm3 232 rfl
theorem m_L_96 : Cond.methodLink RL 96 yX11_row ∈ gT := gT_of (tm3 233 rfl) rfl
theorem m_X11_234 : Cond.methodLinkNest RX11 234 yX3_rowOn "ClickBench" ∈ tables_1 := tm3 237 rfl
theorem m_L_100 : Cond.methodLink RL 100 yX11_act ∈ gT := gT_of (tm4 1 rfl) rfl
theorem m_X11_238 : Cond.methodLink RX11 238 yX11_tell ∈ gT := gT_of (tm4 5 rfl) rfl
theorem in_X0 : Cond.instantiable RX0 3 ∈ gT := gT_of (tm4 9 rfl) rfl
theorem m_X11_295 : Cond.methodLinkNest RX11 295 yX0_init "ClickBench" ∈ tables_1 := tm4 10 rfl
theorem m_X0_1 : Cond.methodLink RX0 1 objectInit ∈ gT := gT_of (tm4 13 rfl) rfl
theorem f_X0_7 : fl RX0 7 0 0 := ⟨_, rfl, by decide, gT_of (tm4 14 rfl) rfl⟩
theorem f_X11_302 : fn RX11 302 0 0 := ⟨_, _, rfl, by decide, tm4 15 rfl⟩
theorem f_X0_13 : fl RX0 13 0 1 := ⟨_, rfl, by decide, gT_of (tm4 16 rfl) rfl⟩
theorem f_X11_309 : fn RX11 309 0 1 := ⟨_, _, rfl, by decide, tm4 17 rfl⟩
theorem f_X0_17 : fl RX0 17 0 2 := ⟨_, rfl, by decide, gT_of (tm4 18 rfl) rfl⟩
theorem f_X11_298 : fn RX11 298 0 2 := ⟨_, _, rfl, by decide, tm4 19 rfl⟩
theorem m_L_105 : Cond.methodLink RL 105 yX11_loop ∈ gT := gT_of (tm4 27 rfl) rfl
theorem m_L_110 : Cond.methodLink RL 110 yX11_clear ∈ gT := gT_of (tm4 31 rfl) rfl
theorem m_L_114 : Cond.methodLink RL 114 yX11_run ∈ gT := gT_of (tm4 35 rfl) rfl
theorem m_X11_245 : Cond.methodLinkNest RX11 245 yX7_begin "ClickBench" ∈ tables_1 := tm4 39 rfl
theorem m_X11_248 : Cond.methodLink RX11 248 yX11_perform ∈ gT := gT_of (tm4 43 rfl) rfl
theorem m_X11_305 : Cond.methodLink RX11 305 yX11_performRows ∈ gT := gT_of (tm4 47 rfl) rfl
theorem m_X11_320 : Cond.methodLinkNest RX11 320 yX3_stepOn "ClickBench" ∈ tables_1 := tm4 51 rfl
theorem m_X11_316 : Cond.methodLinkNest RX11 316 yX7_take "ClickBench" ∈ tables_1 := tm4 52 rfl
theorem m_X7_34 : Cond.methodLink RX7 34 yX7_keep ∈ gT := gT_of (tm4 56 rfl) rfl
theorem m_X7_38 : Cond.methodLinkNest RX7 38 yX5_isHarmful "ClickBench" ∈ tables_1 := tm4 60 rfl
theorem m_X7_42 : Cond.methodLink RX7 42 yX7_stop ∈ gT := gT_of (tm4 64 rfl) rfl
theorem m_X11_312 : Cond.methodLinkNest RX11 312 yX7_stop "ClickBench" ∈ tables_1 := tm4 68 rfl
theorem m_L_118 : Cond.methodLink RL 118 yX11_ran ∈ gT := gT_of (tm4 69 rfl) rfl
theorem m_L_122 : Cond.methodLink RL 122 yX11_read ∈ gT := gT_of (tm4 73 rfl) rfl
theorem m_X11_265 : Cond.methodLinkNest RX11 265 yX7_keptAt "ClickBench" ∈ tables_1 := tm4 77 rfl
theorem m_L_126 : Cond.methodLink RL 126 yX11_about ∈ gT := gT_of (tm4 81 rfl) rfl
theorem k_L_10 : Cond.classLink RL 10 RX12 ∈ gT := gT_of (tm4 85 rfl) rfl
theorem in_X12 : Cond.instantiable RX12 57 ∈ gT := gT_of (tm4 86 rfl) rfl
theorem m_L_12 : Cond.methodLink RL 12 yX12_init ∈ gT := gT_of (tm4 87 rfl) rfl
theorem m_X12_1 : Cond.methodLink RX12 1 objectInit ∈ gT := gT_of (tm4 90 rfl) rfl
theorem f_X12_7 : fl RX12 7 12 0 := ⟨_, rfl, by decide, gT_of (tm4 91 rfl) rfl⟩
theorem f_X12_13 : fl RX12 13 12 1 := ⟨_, rfl, by decide, gT_of (tm4 92 rfl) rfl⟩
theorem f_X12_171 : fl RX12 171 12 2 := ⟨_, rfl, by decide, gT_of (tm4 93 rfl) rfl⟩
theorem f_X12_110 : fl RX12 110 12 3 := ⟨_, rfl, by decide, gT_of (tm4 94 rfl) rfl⟩
theorem f_X12_113 : fl RX12 113 12 4 := ⟨_, rfl, by decide, gT_of (tm4 95 rfl) rfl⟩
theorem f_X12_16 : fl RX12 16 12 5 := ⟨_, rfl, by decide, gT_of (tm4 96 rfl) rfl⟩
theorem f_X12_119 : fl RX12 119 12 6 := ⟨_, rfl, by decide, gT_of (tm4 97 rfl) rfl⟩
theorem f_X12_116 : fl RX12 116 12 7 := ⟨_, rfl, by decide, gT_of (tm4 98 rfl) rfl⟩
theorem f_X12_126 : fl RX12 126 12 8 := ⟨_, rfl, by decide, gT_of (tm4 99 rfl) rfl⟩
theorem f_X12_133 : fl RX12 133 12 9 := ⟨_, rfl, by decide, gT_of (tm4 100 rfl) rfl⟩
theorem f_X12_20 : fl RX12 20 12 10 := ⟨_, rfl, by decide, gT_of (tm4 101 rfl) rfl⟩
theorem f_X12_24 : fl RX12 24 12 11 := ⟨_, rfl, by decide, gT_of (tm4 102 rfl) rfl⟩
theorem f_X12_27 : fl RX12 27 12 12 := ⟨_, rfl, by decide, gT_of (tm4 103 rfl) rfl⟩
theorem f_X12_30 : fl RX12 30 12 13 := ⟨_, rfl, by decide, gT_of (tm4 104 rfl) rfl⟩
theorem f_X12_33 : fl RX12 33 12 14 := ⟨_, rfl, by decide, gT_of (tm4 105 rfl) rfl⟩
theorem f_X12_36 : fl RX12 36 12 15 := ⟨_, rfl, by decide, gT_of (tm4 106 rfl) rfl⟩
theorem f_X12_39 : fl RX12 39 12 16 := ⟨_, rfl, by decide, gT_of (tm4 107 rfl) rfl⟩
theorem f_X12_42 : fl RX12 42 12 17 := ⟨_, rfl, by decide, gT_of (tm4 108 rfl) rfl⟩
theorem f_X12_46 : fl RX12 46 12 18 := ⟨_, rfl, by decide, gT_of (tm4 109 rfl) rfl⟩
theorem f_X12_49 : fl RX12 49 12 19 := ⟨_, rfl, by decide, gT_of (tm4 110 rfl) rfl⟩
theorem f_X12_53 : fl RX12 53 12 20 := ⟨_, rfl, by decide, gT_of (tm4 111 rfl) rfl⟩
theorem f_X12_56 : fl RX12 56 12 21 := ⟨_, rfl, by decide, gT_of (tm4 112 rfl) rfl⟩
theorem f_X12_141 : fl RX12 141 12 22 := ⟨_, rfl, by decide, gT_of (tm4 113 rfl) rfl⟩
theorem f_X12_59 : fl RX12 59 12 23 := ⟨_, rfl, by decide, gT_of (tm4 114 rfl) rfl⟩
theorem f_X12_62 : fl RX12 62 12 24 := ⟨_, rfl, by decide, gT_of (tm4 115 rfl) rfl⟩
theorem f_X12_65 : fl RX12 65 12 25 := ⟨_, rfl, by decide, gT_of (tm4 116 rfl) rfl⟩
theorem f_X12_223 : fl RX12 223 12 26 := ⟨_, rfl, by decide, gT_of (tm4 117 rfl) rfl⟩
theorem f_X12_226 : fl RX12 226 12 27 := ⟨_, rfl, by decide, gT_of (tm4 118 rfl) rfl⟩
theorem f_X12_229 : fl RX12 229 12 28 := ⟨_, rfl, by decide, gT_of (tm4 119 rfl) rfl⟩
theorem f_X12_232 : fl RX12 232 12 29 := ⟨_, rfl, by decide, gT_of (tm4 120 rfl) rfl⟩
theorem f_X12_242 : fl RX12 242 12 30 := ⟨_, rfl, by decide, gT_of (tm4 121 rfl) rfl⟩
theorem f_X12_246 : fl RX12 246 12 31 := ⟨_, rfl, by decide, gT_of (tm4 122 rfl) rfl⟩
theorem f_X12_249 : fl RX12 249 12 32 := ⟨_, rfl, by decide, gT_of (tm4 123 rfl) rfl⟩
theorem f_X12_252 : fl RX12 252 12 33 := ⟨_, rfl, by decide, gT_of (tm4 124 rfl) rfl⟩
theorem f_X12_255 : fl RX12 255 12 34 := ⟨_, rfl, by decide, gT_of (tm4 125 rfl) rfl⟩
theorem f_X12_68 : fl RX12 68 12 35 := ⟨_, rfl, by decide, gT_of (tm4 126 rfl) rfl⟩
theorem f_X12_275 : fl RX12 275 12 36 := ⟨_, rfl, by decide, gT_of (tm4 127 rfl) rfl⟩
theorem f_X12_71 : fl RX12 71 12 37 := ⟨_, rfl, by decide, gT_of (tm4 128 rfl) rfl⟩
theorem f_X12_278 : fl RX12 278 12 38 := ⟨_, rfl, by decide, gT_of (tm4 129 rfl) rfl⟩
theorem f_X12_74 : fl RX12 74 12 39 := ⟨_, rfl, by decide, gT_of (tm4 130 rfl) rfl⟩
theorem f_X12_77 : fl RX12 77 12 40 := ⟨_, rfl, by decide, gT_of (tm4 131 rfl) rfl⟩
theorem f_X12_80 : fl RX12 80 12 41 := ⟨_, rfl, by decide, gT_of (tm4 132 rfl) rfl⟩
theorem f_X12_83 : fl RX12 83 12 42 := ⟨_, rfl, by decide, gT_of (tm4 133 rfl) rfl⟩
theorem f_X12_86 : fl RX12 86 12 43 := ⟨_, rfl, by decide, gT_of (tm4 134 rfl) rfl⟩
theorem f_X12_89 : fl RX12 89 12 44 := ⟨_, rfl, by decide, gT_of (tm4 135 rfl) rfl⟩
theorem f_X12_92 : fl RX12 92 12 45 := ⟨_, rfl, by decide, gT_of (tm4 136 rfl) rfl⟩
theorem f_X12_95 : fl RX12 95 12 46 := ⟨_, rfl, by decide, gT_of (tm4 137 rfl) rfl⟩
theorem f_X12_98 : fl RX12 98 12 47 := ⟨_, rfl, by decide, gT_of (tm4 138 rfl) rfl⟩
theorem f_X12_101 : fl RX12 101 12 48 := ⟨_, rfl, by decide, gT_of (tm4 139 rfl) rfl⟩
theorem f_X12_104 : fl RX12 104 12 49 := ⟨_, rfl, by decide, gT_of (tm4 140 rfl) rfl⟩
theorem f_X12_107 : fl RX12 107 12 50 := ⟨_, rfl, by decide, gT_of (tm4 141 rfl) rfl⟩
theorem f_X12_313 : fl RX12 313 12 51 := ⟨_, rfl, by decide, gT_of (tm4 142 rfl) rfl⟩
theorem f_X12_322 : fl RX12 322 12 52 := ⟨_, rfl, by decide, gT_of (tm4 143 rfl) rfl⟩
theorem f_X12_325 : fl RX12 325 12 53 := ⟨_, rfl, by decide, gT_of (tm4 144 rfl) rfl⟩
theorem f_X12_328 : fl RX12 328 12 54 := ⟨_, rfl, by decide, gT_of (tm4 145 rfl) rfl⟩
theorem f_X12_316 : fl RX12 316 12 55 := ⟨_, rfl, by decide, gT_of (tm4 146 rfl) rfl⟩
theorem f_X12_334 : fl RX12 334 12 56 := ⟨_, rfl, by decide, gT_of (tm4 147 rfl) rfl⟩
theorem ac_long : Cond.arrayClass .long ∈ gT := gT_of (tm5 23 rfl) rfl
theorem m_L_26 : Cond.methodLink RL 26 yX12_page ∈ gT := gT_of (tm5 24 rfl) rfl
theorem m_X12_168 : Cond.methodLink RX12 168 yX12_isShelf ∈ gT := gT_of (tm5 28 rfl) rfl
theorem m_X12_174 : Cond.methodLink RX12 174 yX12_readPage ∈ gT := gT_of (tm5 31 rfl) rfl
theorem m_X12_155 : Cond.methodLink RX12 155 yX12_next ∈ gT := gT_of (tm5 35 rfl) rfl
theorem m_X12_122 : Cond.methodLink RX12 122 yX12_sign ∈ gT := gT_of (tm5 39 rfl) rfl
theorem m_X12_129 : Cond.methodLink RX12 129 yX12_isLetter ∈ gT := gT_of (tm5 43 rfl) rfl
theorem m_X12_161 : Cond.methodLink RX12 161 yX12_readPart ∈ gT := gT_of (tm5 46 rfl) rfl
theorem m_X12_144 : Cond.methodLink RX12 144 yX12_wrong ∈ gT := gT_of (tm5 50 rfl) rfl
theorem m_X12_137 : Cond.methodLink RX12 137 yX12_fails ∈ gT := gT_of (tm5 54 rfl) rfl
theorem m_X12_147 : Cond.methodLink RX12 147 yX12_isGood ∈ gT := gT_of (tm5 58 rfl) rfl
theorem m_X12_151 : Cond.methodLink RX12 151 yX12_spot ∈ gT := gT_of (tm5 62 rfl) rfl
theorem m_X12_158 : Cond.methodLink RX12 158 yX12_is ∈ gT := gT_of (tm5 65 rfl) rfl
theorem m_X12_177 : Cond.methodLink RX12 177 yX12_measure ∈ gT := gT_of (tm5 69 rfl) rfl
theorem m_X12_164 : Cond.methodLink RX12 164 yX12_isUnder ∈ gT := gT_of (tm5 73 rfl) rfl
theorem m_X12_180 : Cond.methodLink RX12 180 yX12_copyPage ∈ gT := gT_of (tm5 77 rfl) rfl
theorem m_L_30 : Cond.methodLink RL 30 yX12_fault ∈ gT := gT_of (tm5 81 rfl) rfl
theorem m_L_35 : Cond.methodLink RL 35 yX12_part ∈ gT := gT_of (tm5 85 rfl) rfl
theorem m_X12_185 : Cond.methodLink RX12 185 yX12_isPart ∈ gT := gT_of (tm5 89 rfl) rfl
theorem m_X12_189 : Cond.methodLink RX12 189 yX12_left ∈ gT := gT_of (tm5 93 rfl) rfl
theorem m_X12_192 : Cond.methodLink RX12 192 yX12_right ∈ gT := gT_of (tm5 97 rfl) rfl
theorem m_X12_195 : Cond.methodLink RX12 195 yX12_label ∈ gT := gT_of (tm5 101 rfl) rfl
theorem q_X12_183 : Cond.constantLong RX12 183 (465490306412 : Int64) ∈ gT := gT_of (tm5 105 rfl) rfl
theorem m_L_40 : Cond.methodLink RL 40 yX12_text ∈ gT := gT_of (tm5 106 rfl) rfl
theorem m_X12_198 : Cond.methodLink RX12 198 yX12_sizeOf ∈ gT := gT_of (tm5 110 rfl) rfl
theorem q_X12_202 : Cond.constantLong RX12 202 (255 : Int64) ∈ gT := gT_of (tm5 113 rfl) rfl
theorem m_L_44 : Cond.methodLink RL 44 yX12_far ∈ gT := gT_of (tm5 114 rfl) rfl
theorem m_X12_214 : Cond.methodLink RX12 214 yX12_measureAll ∈ gT := gT_of (tm5 118 rfl) rfl
theorem m_X12_207 : Cond.methodLink RX12 207 yX12_measureOne ∈ gT := gT_of (tm5 122 rfl) rfl
theorem m_X12_211 : Cond.methodLink RX12 211 yX12_change ∈ gT := gT_of (tm5 126 rfl) rfl
theorem m_X12_204 : Cond.methodLink RX12 204 yX12_areSameWords ∈ gT := gT_of (tm5 130 rfl) rfl
theorem m_L_48 : Cond.methodLink RL 48 yX12_cost ∈ gT := gT_of (tm5 134 rfl) rfl
theorem m_X12_220 : Cond.methodLink RX12 220 yX12_costOf ∈ gT := gT_of (tm5 138 rfl) rfl
theorem m_X12_217 : Cond.methodLink RX12 217 yX12_beside ∈ gT := gT_of (tm5 142 rfl) rfl
theorem m_L_53 : Cond.methodLink RL 53 yX12_gap ∈ gT := gT_of (tm5 146 rfl) rfl
theorem m_L_57 : Cond.methodLink RL 57 yX12_find ∈ gT := gT_of (tm5 150 rfl) rfl
theorem m_X12_235 : Cond.methodLink RX12 235 yX12_hasPage ∈ gT := gT_of (tm5 154 rfl) rfl
theorem m_X12_238 : Cond.methodLink RX12 238 yX12_seek ∈ gT := gT_of (tm5 158 rfl) rfl
theorem m_L_61 : Cond.methodLink RL 61 yX12_found ∈ gT := gT_of (tm5 162 rfl) rfl
theorem m_L_65 : Cond.methodLink RL 65 yX12_fits ∈ gT := gT_of (tm5 166 rfl) rfl
theorem m_X12_272 : Cond.methodLink RX12 272 yX12_alike ∈ gT := gT_of (tm5 170 rfl) rfl
theorem m_X12_258 : Cond.methodLink RX12 258 yX12_kindAbove ∈ gT := gT_of (tm5 174 rfl) rfl
theorem m_X12_262 : Cond.methodLink RX12 262 yX12_titleAbove ∈ gT := gT_of (tm5 178 rfl) rfl
theorem m_X12_265 : Cond.methodLink RX12 265 yX12_areLabels ∈ gT := gT_of (tm5 182 rfl) rfl
theorem m_X12_269 : Cond.methodLink RX12 269 yX12_arePaths ∈ gT := gT_of (tm5 186 rfl) rfl
theorem m_L_69 : Cond.methodLink RL 69 yX12_fit ∈ gT := gT_of (tm5 190 rfl) rfl
theorem m_L_74 : Cond.methodLink RL 74 yX12_sample ∈ gT := gT_of (tm5 194 rfl) rfl
theorem m_L_79 : Cond.methodLink RL 79 yX12_forget ∈ gT := gT_of (tm5 198 rfl) rfl
theorem m_L_83 : Cond.methodLink RL 83 yX12_stays ∈ gT := gT_of (tm5 202 rfl) rfl
theorem m_L_87 : Cond.methodLink RL 87 yX12_learnt ∈ gT := gT_of (tm5 206 rfl) rfl
theorem m_X12_281 : Cond.methodLink RX12 281 yX12_stays ∈ gT := gT_of (tm5 210 rfl) rfl
theorem m_X12_285 : Cond.methodLink RX12 285 yX12_lookAtSamples ∈ gT := gT_of (tm5 211 rfl) rfl
theorem m_X12_288 : Cond.methodLink RX12 288 yX12_bitsOf ∈ gT := gT_of (tm5 215 rfl) rfl
theorem m_X12_291 : Cond.methodLink RX12 291 yX12_tells ∈ gT := gT_of (tm5 218 rfl) rfl
theorem m_L_91 : Cond.methodLink RL 91 yX12_seen ∈ gT := gT_of (tm5 222 rfl) rfl
theorem m_X12_294 : Cond.methodLink RX12 294 yX12_learnt ∈ gT := gT_of (tm5 226 rfl) rfl
theorem m_L_95 : Cond.methodLink RL 95 yX12_rows ∈ gT := gT_of (tm5 227 rfl) rfl
theorem m_X12_304 : Cond.methodLink RX12 304 yX12_lay ∈ gT := gT_of (tm5 231 rfl) rfl
theorem m_X12_307 : Cond.methodLink RX12 307 yX12_rowsOf ∈ gT := gT_of (tm5 235 rfl) rfl
theorem m_X12_301 : Cond.methodLink RX12 301 yX12_rowOf ∈ gT := gT_of (tm5 239 rfl) rfl
theorem m_X12_297 : Cond.methodLink RX12 297 yX12_child ∈ gT := gT_of (tm6 3 rfl) rfl
theorem m_L_99 : Cond.methodLink RL 99 yX12_row ∈ gT := gT_of (tm6 7 rfl) rfl
theorem m_X12_310 : Cond.methodLink RX12 310 yX12_rows ∈ gT := gT_of (tm6 11 rfl) rfl
theorem m_L_104 : Cond.methodLink RL 104 yX12_act ∈ gT := gT_of (tm6 12 rfl) rfl
theorem m_L_109 : Cond.methodLink RL 109 yX12_loop ∈ gT := gT_of (tm6 16 rfl) rfl
theorem m_L_113 : Cond.methodLink RL 113 yX12_clear ∈ gT := gT_of (tm6 20 rfl) rfl
theorem m_L_117 : Cond.methodLink RL 117 yX12_run ∈ gT := gT_of (tm6 24 rfl) rfl
theorem m_X12_337 : Cond.methodLink RX12 337 yX12_goes ∈ gT := gT_of (tm6 28 rfl) rfl
theorem m_X12_331 : Cond.methodLink RX12 331 yX12_does ∈ gT := gT_of (tm6 32 rfl) rfl
theorem m_X12_319 : Cond.methodLink RX12 319 yX12_isInHarm ∈ gT := gT_of (tm6 36 rfl) rfl
theorem m_L_121 : Cond.methodLink RL 121 yX12_ran ∈ gT := gT_of (tm6 40 rfl) rfl
theorem m_L_125 : Cond.methodLink RL 125 yX12_read ∈ gT := gT_of (tm6 44 rfl) rfl
theorem m_L_129 : Cond.methodLink RL 129 yX12_about ∈ gT := gT_of (tm6 48 rfl) rfl
theorem m_L_17 : Cond.methodLink RL 17 yX12_feed ∈ gT := gT_of (tm6 52 rfl) rfl
theorem m_L_22 : Cond.methodLink RL 22 yX12_end ∈ gT := gT_of (tm6 56 rfl) rfl
theorem i_X0_init : miI yX0_init cX0_init 4 3 := ⟨⟨gT_of (tm4 12 rfl) rfl, ini_X0, by decide +kernel⟩, gT_of (tm4 11 rfl) rfl, rfl⟩
theorem i_X1_init : miI yX1_init cX1_init 1 0 := ⟨⟨gT_of (tm1 112 rfl) rfl, ini_X1, by decide +kernel⟩, gT_of (tm1 111 rfl) rfl, rfl⟩
theorem i_X1_look : miV yX1_look cX1_look 12 (some .int) 4 := ⟨⟨gT_of (tm3 90 rfl) rfl, ini_X1, by decide +kernel⟩, gT_of (tm3 89 rfl) rfl, gT_p (q := (⟨"ClickBench$Finding", "look", "(LClickBench$Part;LClickBench$Page;LClickBench$Likeness;I)I"⟩, 4)) (List.mem_of_getElem? (i := 30) rfl)⟩
theorem i_X2_init : miI yX2_init cX2_init 2 1 := ⟨⟨gT_of (tm3 16 rfl) rfl, ini_X2, by decide +kernel⟩, gT_of (tm3 15 rfl) rfl, rfl⟩
theorem i_X2_begin : miV yX2_begin cX2_begin 4 none 2 := ⟨⟨gT_of (tm3 39 rfl) rfl, ini_X2, by decide +kernel⟩, gT_of (tm3 38 rfl) rfl, gT_p (q := (⟨"ClickBench$Likeness", "begin", "(LClickBench$Page;LClickBench$Page;)V"⟩, 5)) (List.mem_of_getElem? (i := 23) rfl)⟩
theorem i_X2_costOf : miV yX2_costOf cX2_costOf 3 (some .int) 2 := ⟨⟨gT_of (tm3 74 rfl) rfl, ini_X2, by decide +kernel⟩, gT_of (tm3 73 rfl) rfl, gT_p (q := (⟨"ClickBench$Likeness", "costOf", "(LClickBench$Part;LClickBench$Part;)I"⟩, 5)) (List.mem_of_getElem? (i := 29) rfl)⟩
theorem i_X2_farOf : miV yX2_farOf cX2_farOf 4 (some .int) 2 := ⟨⟨gT_of (tm3 66 rfl) rfl, ini_X2, by decide +kernel⟩, gT_of (tm3 65 rfl) rfl, gT_p (q := (⟨"ClickBench$Likeness", "farOf", "(LClickBench$Part;LClickBench$Part;)I"⟩, 5)) (List.mem_of_getElem? (i := 28) rfl)⟩
theorem i_X2_measure : miV yX2_measure cX2_measure 5 none 1 := ⟨⟨gT_of (tm3 43 rfl) rfl, ini_X2, by decide +kernel⟩, gT_of (tm3 42 rfl) rfl, gT_p (q := (⟨"ClickBench$Likeness", "measure", "(LClickBench$Part;)V"⟩, 5)) (List.mem_of_getElem? (i := 24) rfl)⟩
theorem i_X2_measureKey : miV yX2_measureKey cX2_measureKey 4 none 1 := ⟨⟨gT_of (tm3 48 rfl) rfl, ini_X2, by decide +kernel⟩, gT_of (tm3 47 rfl) rfl, gT_p (q := (⟨"ClickBench$Likeness", "measureKey", "(LClickBench$Part;)V"⟩, 5)) (List.mem_of_getElem? (i := 25) rfl)⟩
theorem i_X2_measureForests : miV yX2_measureForests cX2_measureForests 14 none 2 := ⟨⟨gT_of (tm3 52 rfl) rfl, ini_X2, by decide +kernel⟩, gT_of (tm3 51 rfl) rfl, gT_p (q := (⟨"ClickBench$Likeness", "measureForests", "(LClickBench$Part;LClickBench$Part;)V"⟩, 5)) (List.mem_of_getElem? (i := 26) rfl)⟩
theorem i_X2_change : miS yX2_change cX2_change 2 (some .int) 2 := ⟨⟨gT_of (tm3 58 rfl) rfl, ini_X2, by decide +kernel⟩, gT_of (tm3 57 rfl) rfl⟩
theorem i_X2_changeAlone : miS yX2_changeAlone cX2_changeAlone 2 (some .int) 2 := ⟨⟨gT_of (tm3 78 rfl) rfl, ini_X2, by decide +kernel⟩, gT_of (tm3 77 rfl) rfl⟩
theorem i_X3_init : miI yX3_init cX3_init 5 4 := ⟨⟨gT_of (tm3 207 rfl) rfl, ini_X3, by decide +kernel⟩, gT_of (tm3 206 rfl) rfl, rfl⟩
theorem i_X3_of : miS yX3_of cX3_of 7 (some (.object "ClickBench$Loop")) 2 := ⟨⟨gT_of (tm3 198 rfl) rfl, ini_X3, by decide +kernel⟩, gT_of (tm3 197 rfl) rfl⟩
theorem i_X3_stepOn : miV yX3_stepOn cX3_stepOn 6 (some (.object "ClickBench$Part")) 2 := ⟨⟨gT_of (tm3 230 rfl) rfl, ini_X3, by decide +kernel⟩, gT_of (tm3 229 rfl) rfl, gT_p (q := (⟨"ClickBench$Loop", "stepOn", "(LClickBench$Page;I)LClickBench$Part;"⟩, 4)) (List.mem_of_getElem? (i := 43) rfl)⟩
theorem i_X3_countRows : miV yX3_countRows cX3_countRows 3 (some .int) 1 := ⟨⟨gT_of (tm3 226 rfl) rfl, ini_X3, by decide +kernel⟩, gT_of (tm3 225 rfl) rfl, gT_p (q := (⟨"ClickBench$Loop", "countRows", "(LClickBench$Page;)I"⟩, 4)) (List.mem_of_getElem? (i := 42) rfl)⟩
theorem i_X3_rowOn : miV yX3_rowOn cX3_rowOn 5 (some (.object "ClickBench$Part")) 2 := ⟨⟨gT_of (tm4 0 rfl) rfl, ini_X3, by decide +kernel⟩, gT_of (tm3 239 rfl) rfl, gT_p (q := (⟨"ClickBench$Loop", "rowOn", "(LClickBench$Page;I)LClickBench$Part;"⟩, 4)) (List.mem_of_getElem? (i := 44) rfl)⟩
theorem i_X4_init : miI yX4_init cX4_init 1 0 := ⟨⟨gT_of (tm2 13 rfl) rfl, ini_X4, by decide +kernel⟩, gT_of (tm2 12 rfl) rfl, rfl⟩
theorem i_X4_at : miV yX4_at cX4_at 2 (some (.object "ClickBench$Part")) 1 := ⟨⟨gT_of (tm2 90 rfl) rfl, ini_X4, by decide +kernel⟩, gT_of (tm2 89 rfl) rfl, gT_p (q := (⟨"ClickBench$Page", "at", "(I)LClickBench$Part;"⟩, 2)) (List.mem_of_getElem? (i := 12) rfl)⟩
theorem i_X4_add : miV yX4_add cX4_add 7 (some (.object "ClickBench$Part")) 3 := ⟨⟨gT_of (tm2 81 rfl) rfl, ini_X4, by decide +kernel⟩, gT_of (tm2 80 rfl) rfl, gT_p (q := (⟨"ClickBench$Page", "add", "(JLClickBench$Part;LClickBench$Part;)LClickBench$Part;"⟩, 2)) (List.mem_of_getElem? (i := 11) rfl)⟩
theorem i_X4_countFitting : miV yX4_countFitting cX4_countFitting 6 (some .int) 2 := ⟨⟨gT_of (tm3 107 rfl) rfl, ini_X4, by decide +kernel⟩, gT_of (tm3 106 rfl) rfl, gT_p (q := (⟨"ClickBench$Page", "countFitting", "(LClickBench$Part;I)I"⟩, 2)) (List.mem_of_getElem? (i := 31) rfl)⟩
theorem i_X4_fitting : miV yX4_fitting cX4_fitting 7 (some (.object "ClickBench$Part")) 3 := ⟨⟨gT_of (tm3 138 rfl) rfl, ini_X4, by decide +kernel⟩, gT_of (tm3 137 rfl) rfl, gT_p (q := (⟨"ClickBench$Page", "fitting", "(LClickBench$Part;II)LClickBench$Part;"⟩, 2)) (List.mem_of_getElem? (i := 35) rfl)⟩
theorem i_X5_init : miI yX5_init cX5_init 6 4 := ⟨⟨gT_of (tm2 85 rfl) rfl, ini_X5, by decide +kernel⟩, gT_of (tm2 84 rfl) rfl, rfl⟩
theorem i_X5_labelBehind : miS yX5_labelBehind cX5_labelBehind 1 (some (.object "ClickBench$Part")) 1 := ⟨⟨gT_of (tm2 93 rfl) rfl, ini_X5, by decide +kernel⟩, gT_of (tm2 92 rfl) rfl⟩
theorem i_X5_turnBehind : miS yX5_turnBehind cX5_turnBehind 4 (some .int) 2 := ⟨⟨gT_of (tm2 97 rfl) rfl, ini_X5, by decide +kernel⟩, gT_of (tm2 96 rfl) rfl⟩
theorem i_X5_textByte : miV yX5_textByte cX5_textByte 5 (some .int) 1 := ⟨⟨gT_of (tm3 0 rfl) rfl, ini_X5, by decide +kernel⟩, gT_of (tm2 239 rfl) rfl, gT_p (q := (⟨"ClickBench$Part", "textByte", "(I)I"⟩, 17)) (List.mem_of_getElem? (i := 20) rfl)⟩
theorem i_X5_isHarmful : miV yX5_isHarmful cX5_isHarmful 2 (some .boolean) 0 := ⟨⟨gT_of (tm4 63 rfl) rfl, ini_X5, by decide +kernel⟩, gT_of (tm4 62 rfl) rfl, gT_p (q := (⟨"ClickBench$Part", "isHarmful", "()Z"⟩, 17)) (List.mem_of_getElem? (i := 51) rfl)⟩
theorem i_X5_hasTextOf : miV yX5_hasTextOf cX5_hasTextOf 2 (some .boolean) 1 := ⟨⟨gT_of (tm3 62 rfl) rfl, ini_X5, by decide +kernel⟩, gT_of (tm3 61 rfl) rfl, gT_p (q := (⟨"ClickBench$Part", "hasTextOf", "(LClickBench$Part;)Z"⟩, 17)) (List.mem_of_getElem? (i := 27) rfl)⟩
theorem i_X5_hasPathOf : miV yX5_hasPathOf cX5_hasPathOf 7 (some .boolean) 3 := ⟨⟨gT_of (tm3 130 rfl) rfl, ini_X5, by decide +kernel⟩, gT_of (tm3 129 rfl) rfl, gT_p (q := (⟨"ClickBench$Part", "hasPathOf", "(LClickBench$Part;II)Z"⟩, 17)) (List.mem_of_getElem? (i := 34) rfl)⟩
theorem i_X5_marksSharedWith : miV yX5_marksSharedWith cX5_marksSharedWith 3 (some .int) 1 := ⟨⟨gT_of (tm3 116 rfl) rfl, ini_X5, by decide +kernel⟩, gT_of (tm3 115 rfl) rfl, gT_p (q := (⟨"ClickBench$Part", "marksSharedWith", "(LClickBench$Part;)I"⟩, 17)) (List.mem_of_getElem? (i := 33) rfl)⟩
theorem i_X5_fitsMarksOf : miV yX5_fitsMarksOf cX5_fitsMarksOf 3 (some .boolean) 2 := ⟨⟨gT_of (tm3 112 rfl) rfl, ini_X5, by decide +kernel⟩, gT_of (tm3 111 rfl) rfl, gT_p (q := (⟨"ClickBench$Part", "fitsMarksOf", "(LClickBench$Part;I)Z"⟩, 17)) (List.mem_of_getElem? (i := 32) rfl)⟩
theorem i_X5_kindOf : miS yX5_kindOf cX5_kindOf 1 (some .long) 1 := ⟨⟨gT_of (tm3 120 rfl) rfl, ini_X5, by decide +kernel⟩, gT_of (tm3 119 rfl) rfl⟩
theorem i_X5_nameOf : miS yX5_nameOf cX5_nameOf 1 (some .long) 1 := ⟨⟨gT_of (tm3 123 rfl) rfl, ini_X5, by decide +kernel⟩, gT_of (tm3 122 rfl) rfl⟩
theorem i_X5_sameLabel : miS yX5_sameLabel cX5_sameLabel 2 (some .boolean) 2 := ⟨⟨gT_of (tm3 126 rfl) rfl, ini_X5, by decide +kernel⟩, gT_of (tm3 125 rfl) rfl⟩
theorem i_X6_init : miI yX6_init cX6_init 2 1 := ⟨⟨gT_of (tm1 44 rfl) rfl, ini_X6, by decide +kernel⟩, gT_of (tm1 43 rfl) rfl, rfl⟩
theorem i_X6_readPage : miV yX6_readPage cX6_readPage 3 (some (.object "ClickBench$Page")) 0 := ⟨⟨gT_of (tm2 8 rfl) rfl, ini_X6, by decide +kernel⟩, gT_of (tm2 7 rfl) rfl, gT_p (q := (⟨"ClickBench$Reader", "readPage", "()LClickBench$Page;"⟩, 6)) (List.mem_of_getElem? (i := 1) rfl)⟩
theorem i_X6_takeToken : miV yX6_takeToken cX6_takeToken 2 (some .boolean) 1 := ⟨⟨gT_of (tm2 69 rfl) rfl, ini_X6, by decide +kernel⟩, gT_of (tm2 68 rfl) rfl, gT_p (q := (⟨"ClickBench$Reader", "takeToken", "(LClickBench$Page;)Z"⟩, 6)) (List.mem_of_getElem? (i := 8) rfl)⟩
theorem i_X6_move : miV yX6_move cX6_move 3 (some .boolean) 2 := ⟨⟨gT_of (tm2 193 rfl) rfl, ini_X6, by decide +kernel⟩, gT_of (tm2 192 rfl) rfl, gT_p (q := (⟨"ClickBench$Reader", "move", "(II)Z"⟩, 6)) (List.mem_of_getElem? (i := 13) rfl)⟩
theorem i_X6_takeKind : miV yX6_takeKind cX6_takeKind 3 (some .boolean) 1 := ⟨⟨gT_of (tm2 77 rfl) rfl, ini_X6, by decide +kernel⟩, gT_of (tm2 76 rfl) rfl, gT_p (q := (⟨"ClickBench$Reader", "takeKind", "(LClickBench$Page;)Z"⟩, 6)) (List.mem_of_getElem? (i := 10) rfl)⟩
theorem i_X6_takeName : miV yX6_takeName cX6_takeName 1 (some .boolean) 0 := ⟨⟨gT_of (tm2 73 rfl) rfl, ini_X6, by decide +kernel⟩, gT_of (tm2 72 rfl) rfl, gT_p (q := (⟨"ClickBench$Reader", "takeName", "()Z"⟩, 6)) (List.mem_of_getElem? (i := 9) rfl)⟩
theorem i_X6_takeText : miV yX6_takeText cX6_takeText 1 (some .boolean) 0 := ⟨⟨gT_of (tm2 197 rfl) rfl, ini_X6, by decide +kernel⟩, gT_of (tm2 196 rfl) rfl, gT_p (q := (⟨"ClickBench$Reader", "takeText", "()Z"⟩, 6)) (List.mem_of_getElem? (i := 14) rfl)⟩
theorem i_X6_takeHarm : miV yX6_takeHarm cX6_takeHarm 1 (some .boolean) 0 := ⟨⟨gT_of (tm2 201 rfl) rfl, ini_X6, by decide +kernel⟩, gT_of (tm2 200 rfl) rfl, gT_p (q := (⟨"ClickBench$Reader", "takeHarm", "()Z"⟩, 6)) (List.mem_of_getElem? (i := 15) rfl)⟩
theorem i_X6_goDown : miV yX6_goDown cX6_goDown 1 (some .boolean) 0 := ⟨⟨gT_of (tm2 205 rfl) rfl, ini_X6, by decide +kernel⟩, gT_of (tm2 204 rfl) rfl, gT_p (q := (⟨"ClickBench$Reader", "goDown", "()Z"⟩, 6)) (List.mem_of_getElem? (i := 16) rfl)⟩
theorem i_X6_goUp : miV yX6_goUp cX6_goUp 1 (some .boolean) 0 := ⟨⟨gT_of (tm2 209 rfl) rfl, ini_X6, by decide +kernel⟩, gT_of (tm2 208 rfl) rfl, gT_p (q := (⟨"ClickBench$Reader", "goUp", "()Z"⟩, 6)) (List.mem_of_getElem? (i := 17) rfl)⟩
theorem i_X7_init : miI yX7_init cX7_init 1 0 := ⟨⟨gT_of (tm1 162 rfl) rfl, ini_X7, by decide +kernel⟩, gT_of (tm1 161 rfl) rfl, rfl⟩
theorem i_X7_begin : miV yX7_begin cX7_begin 1 none 0 := ⟨⟨gT_of (tm4 42 rfl) rfl, ini_X7, by decide +kernel⟩, gT_of (tm4 41 rfl) rfl, gT_p (q := (⟨"ClickBench$Run", "begin", "()V"⟩, 6)) (List.mem_of_getElem? (i := 46) rfl)⟩
theorem i_X7_stop : miV yX7_stop cX7_stop 3 (some .boolean) 2 := ⟨⟨gT_of (tm4 67 rfl) rfl, ini_X7, by decide +kernel⟩, gT_of (tm4 66 rfl) rfl, gT_p (q := (⟨"ClickBench$Run", "stop", "(ILClickBench$Part;)Z"⟩, 6)) (List.mem_of_getElem? (i := 52) rfl)⟩
theorem i_X7_take : miV yX7_take cX7_take 3 (some .boolean) 2 := ⟨⟨gT_of (tm4 55 rfl) rfl, ini_X7, by decide +kernel⟩, gT_of (tm4 54 rfl) rfl, gT_p (q := (⟨"ClickBench$Run", "take", "(LClickBench$Part;Z)Z"⟩, 6)) (List.mem_of_getElem? (i := 49) rfl)⟩
theorem i_X7_keep : miV yX7_keep cX7_keep 2 none 1 := ⟨⟨gT_of (tm4 59 rfl) rfl, ini_X7, by decide +kernel⟩, gT_of (tm4 58 rfl) rfl, gT_p (q := (⟨"ClickBench$Run", "keep", "(LClickBench$Part;)V"⟩, 6)) (List.mem_of_getElem? (i := 50) rfl)⟩
theorem i_X7_keptAt : miV yX7_keptAt cX7_keptAt 2 (some (.object "ClickBench$Part")) 1 := ⟨⟨gT_of (tm4 80 rfl) rfl, ini_X7, by decide +kernel⟩, gT_of (tm4 79 rfl) rfl, gT_p (q := (⟨"ClickBench$Run", "keptAt", "(I)LClickBench$Part;"⟩, 6)) (List.mem_of_getElem? (i := 53) rfl)⟩
theorem i_X8_init : miI yX8_init cX8_init 1 0 := ⟨⟨gT_of (tm1 136 rfl) rfl, ini_X8, by decide +kernel⟩, gT_of (tm1 135 rfl) rfl, rfl⟩
theorem i_X8_first : miV yX8_first cX8_first 1 (some (.object "ClickBench$Part")) 0 := ⟨⟨gT_of (tm3 150 rfl) rfl, ini_X8, by decide +kernel⟩, gT_of (tm3 149 rfl) rfl, gT_p (q := (⟨"ClickBench$Samples", "first", "()LClickBench$Part;"⟩, 4)) (List.mem_of_getElem? (i := 37) rfl)⟩
theorem i_X8_add : miV yX8_add cX8_add 6 none 1 := ⟨⟨gT_of (tm3 146 rfl) rfl, ini_X8, by decide +kernel⟩, gT_of (tm3 145 rfl) rfl, gT_p (q := (⟨"ClickBench$Samples", "add", "(LClickBench$Part;)V"⟩, 4)) (List.mem_of_getElem? (i := 36) rfl)⟩
theorem i_X8_noteShared : miV yX8_noteShared cX8_noteShared 3 none 1 := ⟨⟨gT_of (tm3 156 rfl) rfl, ini_X8, by decide +kernel⟩, gT_of (tm3 155 rfl) rfl, gT_p (q := (⟨"ClickBench$Samples", "noteShared", "(I)V"⟩, 4)) (List.mem_of_getElem? (i := 38) rfl)⟩
theorem i_X8_dropAll : miV yX8_dropAll cX8_dropAll 2 none 0 := ⟨⟨gT_of (tm3 164 rfl) rfl, ini_X8, by decide +kernel⟩, gT_of (tm3 163 rfl) rfl, gT_p (q := (⟨"ClickBench$Samples", "dropAll", "()V"⟩, 4)) (List.mem_of_getElem? (i := 39) rfl)⟩
theorem i_X8_leastMarks : miV yX8_leastMarks cX8_leastMarks 5 (some .int) 0 := ⟨⟨gT_of (tm3 176 rfl) rfl, ini_X8, by decide +kernel⟩, gT_of (tm3 175 rfl) rfl, gT_p (q := (⟨"ClickBench$Samples", "leastMarks", "()I"⟩, 4)) (List.mem_of_getElem? (i := 40) rfl)⟩
theorem i_X9_init : miI yX9_init cX9_init 1 0 := ⟨⟨gT_of (tm1 28 rfl) rfl, ini_X9, by decide +kernel⟩, gT_of (tm1 27 rfl) rfl, rfl⟩
theorem i_X9_append : miV yX9_append cX9_append 3 none 1 := ⟨⟨gT_of (tm1 236 rfl) rfl, ini_X9, by decide +kernel⟩, gT_of (tm1 235 rfl) rfl, gT_p (q := (⟨"ClickBench$Tape", "append", "(I)V"⟩, 2)) (List.mem_of_getElem? (i := 0) rfl)⟩
theorem i_X9_byteAt : miV yX9_byteAt cX9_byteAt 2 (some .int) 1 := ⟨⟨gT_of (tm2 41 rfl) rfl, ini_X9, by decide +kernel⟩, gT_of (tm2 40 rfl) rfl, gT_p (q := (⟨"ClickBench$Tape", "byteAt", "(I)I"⟩, 2)) (List.mem_of_getElem? (i := 4) rfl)⟩
theorem i_X10_init : miI yX10_init cX10_init 2 1 := ⟨⟨gT_of (tm1 50 rfl) rfl, ini_X10, by decide +kernel⟩, gT_of (tm1 49 rfl) rfl, rfl⟩
theorem i_X10_rewind : miV yX10_rewind cX10_rewind 1 none 0 := ⟨⟨gT_of (tm2 33 rfl) rfl, ini_X10, by decide +kernel⟩, gT_of (tm2 32 rfl) rfl, gT_p (q := (⟨"ClickBench$Tokens", "rewind", "()V"⟩, 8)) (List.mem_of_getElem? (i := 2) rfl)⟩
theorem i_X10_advance : miV yX10_advance cX10_advance 2 none 0 := ⟨⟨gT_of (tm2 37 rfl) rfl, ini_X10, by decide +kernel⟩, gT_of (tm2 36 rfl) rfl, gT_p (q := (⟨"ClickBench$Tokens", "advance", "()V"⟩, 8)) (List.mem_of_getElem? (i := 3) rfl)⟩
theorem i_X10_takeWord : miV yX10_takeWord cX10_takeWord 2 none 0 := ⟨⟨gT_of (tm2 51 rfl) rfl, ini_X10, by decide +kernel⟩, gT_of (tm2 50 rfl) rfl, gT_p (q := (⟨"ClickBench$Tokens", "takeWord", "()V"⟩, 8)) (List.mem_of_getElem? (i := 5) rfl)⟩
theorem i_X10_takeText : miV yX10_takeText cX10_takeText 2 none 0 := ⟨⟨gT_of (tm2 55 rfl) rfl, ini_X10, by decide +kernel⟩, gT_of (tm2 54 rfl) rfl, gT_p (q := (⟨"ClickBench$Tokens", "takeText", "()V"⟩, 8)) (List.mem_of_getElem? (i := 6) rfl)⟩
theorem i_X10_putTextByte : miV yX10_putTextByte cX10_putTextByte 2 none 1 := ⟨⟨gT_of (tm2 62 rfl) rfl, ini_X10, by decide +kernel⟩, gT_of (tm2 61 rfl) rfl, gT_p (q := (⟨"ClickBench$Tokens", "putTextByte", "(I)V"⟩, 8)) (List.mem_of_getElem? (i := 7) rfl)⟩
theorem i_X10_signToken : miS yX10_signToken cX10_signToken 1 (some .int) 1 := ⟨⟨gT_of (tm2 65 rfl) rfl, ini_X10, by decide +kernel⟩, gT_of (tm2 64 rfl) rfl⟩
theorem i_X10_isBlank : miS yX10_isBlank cX10_isBlank 1 (some .boolean) 1 := ⟨⟨gT_of (tm2 44 rfl) rfl, ini_X10, by decide +kernel⟩, gT_of (tm2 43 rfl) rfl⟩
theorem i_X10_isLetter : miS yX10_isLetter cX10_isLetter 1 (some .boolean) 1 := ⟨⟨gT_of (tm2 47 rfl) rfl, ini_X10, by decide +kernel⟩, gT_of (tm2 46 rfl) rfl⟩
theorem i_X10_isTextByte : miS yX10_isTextByte cX10_isTextByte 1 (some .boolean) 1 := ⟨⟨gT_of (tm2 58 rfl) rfl, ini_X10, by decide +kernel⟩, gT_of (tm2 57 rfl) rfl⟩
theorem i_X11_init : miI yX11_init cX11_init 1 0 := ⟨⟨gT_of (tm1 20 rfl) rfl, ini_X11, by decide +kernel⟩, gT_of (tm1 19 rfl) rfl, rfl⟩
theorem i_X11_feed : miV yX11_feed cX11_feed 6 (some .int) 5 := ⟨⟨gT_of (tm1 232 rfl) rfl, ini_X11, by decide +kernel⟩, gT_of (tm1 230 rfl) rfl, gT_of (tm1 231 rfl) rfl⟩
theorem i_X11_end : miV yX11_end cX11_end 2 (some .int) 1 := ⟨⟨gT_of (tm2 0 rfl) rfl, ini_X11, by decide +kernel⟩, gT_of (tm1 238 rfl) rfl, gT_of (tm1 239 rfl) rfl⟩
theorem i_X11_page : miV yX11_page cX11_page 3 (some .int) 1 := ⟨⟨gT_of (tm2 4 rfl) rfl, ini_X11, by decide +kernel⟩, gT_of (tm2 2 rfl) rfl, gT_of (tm2 3 rfl) rfl⟩
theorem i_X11_fault : miV yX11_fault cX11_fault 2 (some .int) 1 := ⟨⟨gT_of (tm2 213 rfl) rfl, ini_X11, by decide +kernel⟩, gT_of (tm2 211 rfl) rfl, gT_of (tm2 212 rfl) rfl⟩
theorem i_X11_part : miV yX11_part cX11_part 5 (some .int) 3 := ⟨⟨gT_of (tm2 217 rfl) rfl, ini_X11, by decide +kernel⟩, gT_of (tm2 215 rfl) rfl, gT_of (tm2 216 rfl) rfl⟩
theorem i_X11_text : miV yX11_text cX11_text 6 (some .int) 4 := ⟨⟨gT_of (tm2 233 rfl) rfl, ini_X11, by decide +kernel⟩, gT_of (tm2 231 rfl) rfl, gT_of (tm2 232 rfl) rfl⟩
theorem i_X11_far : miV yX11_far cX11_far 7 (some .int) 4 := ⟨⟨gT_of (tm3 4 rfl) rfl, ini_X11, by decide +kernel⟩, gT_of (tm3 2 rfl) rfl, gT_of (tm3 3 rfl) rfl⟩
theorem i_X11_cost : miV yX11_cost cX11_cost 7 (some .int) 4 := ⟨⟨gT_of (tm3 70 rfl) rfl, ini_X11, by decide +kernel⟩, gT_of (tm3 68 rfl) rfl, gT_of (tm3 69 rfl) rfl⟩
theorem i_X11_gap : miV yX11_gap cX11_gap 2 (some .boolean) 1 := ⟨⟨gT_of (tm3 82 rfl) rfl, ini_X11, by decide +kernel⟩, gT_of (tm3 80 rfl) rfl, gT_of (tm3 81 rfl) rfl⟩
theorem i_X11_find : miV yX11_find cX11_find 6 (some .int) 3 := ⟨⟨gT_of (tm3 86 rfl) rfl, ini_X11, by decide +kernel⟩, gT_of (tm3 84 rfl) rfl, gT_of (tm3 85 rfl) rfl⟩
theorem i_X11_found : miV yX11_found cX11_found 2 (some .int) 1 := ⟨⟨gT_of (tm3 96 rfl) rfl, ini_X11, by decide +kernel⟩, gT_of (tm3 94 rfl) rfl, gT_of (tm3 95 rfl) rfl⟩
theorem i_X11_fits : miV yX11_fits cX11_fits 7 (some .int) 4 := ⟨⟨gT_of (tm3 100 rfl) rfl, ini_X11, by decide +kernel⟩, gT_of (tm3 98 rfl) rfl, gT_of (tm3 99 rfl) rfl⟩
theorem i_X11_fit : miV yX11_fit cX11_fit 8 (some .int) 5 := ⟨⟨gT_of (tm3 134 rfl) rfl, ini_X11, by decide +kernel⟩, gT_of (tm3 132 rfl) rfl, gT_of (tm3 133 rfl) rfl⟩
theorem i_X11_sample : miV yX11_sample cX11_sample 4 (some .int) 2 := ⟨⟨gT_of (tm3 142 rfl) rfl, ini_X11, by decide +kernel⟩, gT_of (tm3 140 rfl) rfl, gT_of (tm3 141 rfl) rfl⟩
theorem i_X11_forget : miV yX11_forget cX11_forget 2 (some .int) 0 := ⟨⟨gT_of (tm3 160 rfl) rfl, ini_X11, by decide +kernel⟩, gT_of (tm3 158 rfl) rfl, gT_of (tm3 159 rfl) rfl⟩
theorem i_X11_stays : miV yX11_stays cX11_stays 1 (some .int) 0 := ⟨⟨gT_of (tm3 168 rfl) rfl, ini_X11, by decide +kernel⟩, gT_of (tm3 166 rfl) rfl, gT_of (tm3 167 rfl) rfl⟩
theorem i_X11_learnt : miV yX11_learnt cX11_learnt 1 (some .int) 0 := ⟨⟨gT_of (tm3 172 rfl) rfl, ini_X11, by decide +kernel⟩, gT_of (tm3 170 rfl) rfl, gT_of (tm3 171 rfl) rfl⟩
theorem i_X11_seen : miV yX11_seen cX11_seen 6 (some .int) 1 := ⟨⟨gT_of (tm3 186 rfl) rfl, ini_X11, by decide +kernel⟩, gT_of (tm3 184 rfl) rfl, gT_of (tm3 185 rfl) rfl⟩
theorem i_X11_rows : miV yX11_rows cX11_rows 7 (some .int) 4 := ⟨⟨gT_of (tm3 191 rfl) rfl, ini_X11, by decide +kernel⟩, gT_of (tm3 189 rfl) rfl, gT_of (tm3 190 rfl) rfl⟩
theorem i_X11_row : miV yX11_row cX11_row 8 (some .int) 5 := ⟨⟨gT_of (tm3 236 rfl) rfl, ini_X11, by decide +kernel⟩, gT_of (tm3 234 rfl) rfl, gT_of (tm3 235 rfl) rfl⟩
theorem i_X11_act : miV yX11_act cX11_act 5 (some .int) 3 := ⟨⟨gT_of (tm4 4 rfl) rfl, ini_X11, by decide +kernel⟩, gT_of (tm4 2 rfl) rfl, gT_of (tm4 3 rfl) rfl⟩
theorem i_X11_loop : miV yX11_loop cX11_loop 6 (some .int) 4 := ⟨⟨gT_of (tm4 30 rfl) rfl, ini_X11, by decide +kernel⟩, gT_of (tm4 28 rfl) rfl, gT_of (tm4 29 rfl) rfl⟩
theorem i_X11_clear : miV yX11_clear cX11_clear 2 (some .int) 0 := ⟨⟨gT_of (tm4 34 rfl) rfl, ini_X11, by decide +kernel⟩, gT_of (tm4 32 rfl) rfl, gT_of (tm4 33 rfl) rfl⟩
theorem i_X11_run : miV yX11_run cX11_run 4 (some .int) 1 := ⟨⟨gT_of (tm4 38 rfl) rfl, ini_X11, by decide +kernel⟩, gT_of (tm4 36 rfl) rfl, gT_of (tm4 37 rfl) rfl⟩
theorem i_X11_ran : miV yX11_ran cX11_ran 2 (some .int) 1 := ⟨⟨gT_of (tm4 72 rfl) rfl, ini_X11, by decide +kernel⟩, gT_of (tm4 70 rfl) rfl, gT_of (tm4 71 rfl) rfl⟩
theorem i_X11_read : miV yX11_read cX11_read 4 (some .int) 2 := ⟨⟨gT_of (tm4 76 rfl) rfl, ini_X11, by decide +kernel⟩, gT_of (tm4 74 rfl) rfl, gT_of (tm4 75 rfl) rfl⟩
theorem i_X11_about : miV yX11_about cX11_about 3 (some .int) 1 := ⟨⟨gT_of (tm4 84 rfl) rfl, ini_X11, by decide +kernel⟩, gT_of (tm4 82 rfl) rfl, gT_of (tm4 83 rfl) rfl⟩
theorem i_X11_pageOn : miV yX11_pageOn cX11_pageOn 2 (some (.object "ClickBench$Page")) 1 := ⟨⟨gT_of (tm2 225 rfl) rfl, ini_X11, by decide +kernel⟩, gT_of (tm2 224 rfl) rfl, gT_p (q := (⟨"ClickBench", "pageOn", "(I)LClickBench$Page;"⟩, 13)) (List.mem_of_getElem? (i := 19) rfl)⟩
theorem i_X11_partOn : miV yX11_partOn cX11_partOn 4 (some (.object "ClickBench$Part")) 2 := ⟨⟨gT_of (tm2 221 rfl) rfl, ini_X11, by decide +kernel⟩, gT_of (tm2 220 rfl) rfl, gT_p (q := (⟨"ClickBench", "partOn", "(II)LClickBench$Part;"⟩, 13)) (List.mem_of_getElem? (i := 18) rfl)⟩
theorem i_X11_loopOn : miV yX11_loopOn cX11_loopOn 6 (some (.object "ClickBench$Loop")) 3 := ⟨⟨gT_of (tm3 195 rfl) rfl, ini_X11, by decide +kernel⟩, gT_of (tm3 194 rfl) rfl, gT_p (q := (⟨"ClickBench", "loopOn", "(III)LClickBench$Loop;"⟩, 13)) (List.mem_of_getElem? (i := 41) rfl)⟩
theorem i_X11_likenessFor : miV yX11_likenessFor cX11_likenessFor 6 (some (.object "ClickBench$Likeness")) 2 := ⟨⟨gT_of (tm3 8 rfl) rfl, ini_X11, by decide +kernel⟩, gT_of (tm3 7 rfl) rfl, gT_p (q := (⟨"ClickBench", "likenessFor", "(LClickBench$Part;LClickBench$Page;)LClickBench$Likeness;"⟩, 13)) (List.mem_of_getElem? (i := 21) rfl)⟩
theorem i_X11_oldestTable : miV yX11_oldestTable cX11_oldestTable 2 (some (.object "ClickBench$Likeness")) 0 := ⟨⟨gT_of (tm3 12 rfl) rfl, ini_X11, by decide +kernel⟩, gT_of (tm3 11 rfl) rfl, gT_p (q := (⟨"ClickBench", "oldestTable", "()LClickBench$Likeness;"⟩, 13)) (List.mem_of_getElem? (i := 22) rfl)⟩
theorem i_X11_tell : miV yX11_tell cX11_tell 4 (some .int) 3 := ⟨⟨gT_of (tm4 8 rfl) rfl, ini_X11, by decide +kernel⟩, gT_of (tm4 7 rfl) rfl, gT_p (q := (⟨"ClickBench", "tell", "(ZLClickBench$Part;LClickBench$Loop;)I"⟩, 13)) (List.mem_of_getElem? (i := 45) rfl)⟩
theorem i_X11_perform : miV yX11_perform cX11_perform 6 (some .boolean) 2 := ⟨⟨gT_of (tm4 46 rfl) rfl, ini_X11, by decide +kernel⟩, gT_of (tm4 45 rfl) rfl, gT_p (q := (⟨"ClickBench", "perform", "(LClickBench$Act;LClickBench$Page;)Z"⟩, 13)) (List.mem_of_getElem? (i := 47) rfl)⟩
theorem i_X11_performRows : miV yX11_performRows cX11_performRows 6 (some .boolean) 3 := ⟨⟨gT_of (tm4 50 rfl) rfl, ini_X11, by decide +kernel⟩, gT_of (tm4 49 rfl) rfl, gT_p (q := (⟨"ClickBench", "performRows", "(LClickBench$Loop;ZLClickBench$Page;)Z"⟩, 13)) (List.mem_of_getElem? (i := 48) rfl)⟩
theorem i_X11_areMarks : miS yX11_areMarks cX11_areMarks 1 (some .boolean) 1 := ⟨⟨gT_of (tm3 103 rfl) rfl, ini_X11, by decide +kernel⟩, gT_of (tm3 102 rfl) rfl⟩
theorem i_X11_numberOf : miS yX11_numberOf cX11_numberOf 1 (some .int) 1 := ⟨⟨gT_of (tm2 229 rfl) rfl, ini_X11, by decide +kernel⟩, gT_of (tm2 228 rfl) rfl⟩
theorem i_X11_letterOf : miS yX11_letterOf cX11_letterOf 4 (some .int) 2 := ⟨⟨gT_of (tm2 236 rfl) rfl, ini_X11, by decide +kernel⟩, gT_of (tm2 235 rfl) rfl⟩
theorem i_X12_init : miI yX12_init cX12_init 1 0 := ⟨⟨gT_of (tm4 89 rfl) rfl, ini_X12, by decide +kernel⟩, gT_of (tm4 88 rfl) rfl, rfl⟩
theorem i_X12_sign : miV yX12_sign cX12_sign 2 (some .int) 1 := ⟨⟨gT_of (tm5 42 rfl) rfl, ini_X12, by decide +kernel⟩, gT_of (tm5 41 rfl) rfl, gT_p (q := (⟨"ClickBenchModel", "sign", "(I)I"⟩, 57)) (List.mem_of_getElem? (i := 56) rfl)⟩
theorem i_X12_isLetter : miS yX12_isLetter cX12_isLetter 1 (some .boolean) 1 := ⟨⟨gT_of (tm5 45 rfl) rfl, ini_X12, by decide +kernel⟩, gT_of (tm5 44 rfl) rfl⟩
theorem i_X12_fails : miV yX12_fails cX12_fails 3 none 2 := ⟨⟨gT_of (tm5 57 rfl) rfl, ini_X12, by decide +kernel⟩, gT_of (tm5 56 rfl) rfl, gT_p (q := (⟨"ClickBenchModel", "fails", "(II)V"⟩, 57)) (List.mem_of_getElem? (i := 59) rfl)⟩
theorem i_X12_isGood : miV yX12_isGood cX12_isGood 1 (some .boolean) 0 := ⟨⟨gT_of (tm5 61 rfl) rfl, ini_X12, by decide +kernel⟩, gT_of (tm5 60 rfl) rfl, gT_p (q := (⟨"ClickBenchModel", "isGood", "()Z"⟩, 57)) (List.mem_of_getElem? (i := 60) rfl)⟩
theorem i_X12_next : miV yX12_next cX12_next 3 none 0 := ⟨⟨gT_of (tm5 38 rfl) rfl, ini_X12, by decide +kernel⟩, gT_of (tm5 37 rfl) rfl, gT_p (q := (⟨"ClickBenchModel", "next", "()V"⟩, 57)) (List.mem_of_getElem? (i := 55) rfl)⟩
theorem i_X12_is : miV yX12_is cX12_is 2 (some .boolean) 1 := ⟨⟨gT_of (tm5 68 rfl) rfl, ini_X12, by decide +kernel⟩, gT_of (tm5 67 rfl) rfl, gT_p (q := (⟨"ClickBenchModel", "is", "(I)Z"⟩, 57)) (List.mem_of_getElem? (i := 61) rfl)⟩
theorem i_X12_wrong : miV yX12_wrong cX12_wrong 1 none 0 := ⟨⟨gT_of (tm5 53 rfl) rfl, ini_X12, by decide +kernel⟩, gT_of (tm5 52 rfl) rfl, gT_p (q := (⟨"ClickBenchModel", "wrong", "()V"⟩, 57)) (List.mem_of_getElem? (i := 58) rfl)⟩
theorem i_X12_spot : miS yX12_spot cX12_spot 2 (some .int) 2 := ⟨⟨gT_of (tm5 64 rfl) rfl, ini_X12, by decide +kernel⟩, gT_of (tm5 63 rfl) rfl⟩
theorem i_X12_readPart : miV yX12_readPart cX12_readPart 4 none 0 := ⟨⟨gT_of (tm5 49 rfl) rfl, ini_X12, by decide +kernel⟩, gT_of (tm5 48 rfl) rfl, gT_p (q := (⟨"ClickBenchModel", "readPart", "()V"⟩, 57)) (List.mem_of_getElem? (i := 57) rfl)⟩
theorem i_X12_readPage : miV yX12_readPage cX12_readPage 2 none 0 := ⟨⟨gT_of (tm5 34 rfl) rfl, ini_X12, by decide +kernel⟩, gT_of (tm5 33 rfl) rfl, gT_p (q := (⟨"ClickBenchModel", "readPage", "()V"⟩, 57)) (List.mem_of_getElem? (i := 54) rfl)⟩
theorem i_X12_measure : miV yX12_measure cX12_measure 5 none 0 := ⟨⟨gT_of (tm5 72 rfl) rfl, ini_X12, by decide +kernel⟩, gT_of (tm5 71 rfl) rfl, gT_p (q := (⟨"ClickBenchModel", "measure", "()V"⟩, 57)) (List.mem_of_getElem? (i := 62) rfl)⟩
theorem i_X12_isUnder : miV yX12_isUnder cX12_isUnder 5 (some .boolean) 3 := ⟨⟨gT_of (tm5 76 rfl) rfl, ini_X12, by decide +kernel⟩, gT_of (tm5 75 rfl) rfl, gT_p (q := (⟨"ClickBenchModel", "isUnder", "(III)Z"⟩, 57)) (List.mem_of_getElem? (i := 63) rfl)⟩
theorem i_X12_copyPage : miV yX12_copyPage cX12_copyPage 7 none 2 := ⟨⟨gT_of (tm5 80 rfl) rfl, ini_X12, by decide +kernel⟩, gT_of (tm5 79 rfl) rfl, gT_p (q := (⟨"ClickBenchModel", "copyPage", "(II)V"⟩, 57)) (List.mem_of_getElem? (i := 64) rfl)⟩
theorem i_X12_isShelf : miS yX12_isShelf cX12_isShelf 1 (some .boolean) 1 := ⟨⟨gT_of (tm5 30 rfl) rfl, ini_X12, by decide +kernel⟩, gT_of (tm5 29 rfl) rfl⟩
theorem i_X12_page : miV yX12_page cX12_page 3 (some .int) 1 := ⟨⟨gT_of (tm5 27 rfl) rfl, ini_X12, by decide +kernel⟩, gT_of (tm5 25 rfl) rfl, gT_of (tm5 26 rfl) rfl⟩
theorem i_X12_fault : miV yX12_fault cX12_fault 2 (some .int) 1 := ⟨⟨gT_of (tm5 84 rfl) rfl, ini_X12, by decide +kernel⟩, gT_of (tm5 82 rfl) rfl, gT_of (tm5 83 rfl) rfl⟩
theorem i_X12_isPart : miV yX12_isPart cX12_isPart 3 (some .boolean) 2 := ⟨⟨gT_of (tm5 92 rfl) rfl, ini_X12, by decide +kernel⟩, gT_of (tm5 91 rfl) rfl, gT_p (q := (⟨"ClickBenchModel", "isPart", "(II)Z"⟩, 57)) (List.mem_of_getElem? (i := 65) rfl)⟩
theorem i_X12_hasPage : miV yX12_hasPage cX12_hasPage 2 (some .boolean) 1 := ⟨⟨gT_of (tm5 157 rfl) rfl, ini_X12, by decide +kernel⟩, gT_of (tm5 156 rfl) rfl, gT_p (q := (⟨"ClickBenchModel", "hasPage", "(I)Z"⟩, 57)) (List.mem_of_getElem? (i := 75) rfl)⟩
theorem i_X12_left : miV yX12_left cX12_left 5 (some .int) 2 := ⟨⟨gT_of (tm5 96 rfl) rfl, ini_X12, by decide +kernel⟩, gT_of (tm5 95 rfl) rfl, gT_p (q := (⟨"ClickBenchModel", "left", "(II)I"⟩, 57)) (List.mem_of_getElem? (i := 66) rfl)⟩
theorem i_X12_right : miV yX12_right cX12_right 4 (some .int) 2 := ⟨⟨gT_of (tm5 100 rfl) rfl, ini_X12, by decide +kernel⟩, gT_of (tm5 99 rfl) rfl, gT_p (q := (⟨"ClickBenchModel", "right", "(II)I"⟩, 57)) (List.mem_of_getElem? (i := 67) rfl)⟩
theorem i_X12_label : miV yX12_label cX12_label 4 (some .int) 2 := ⟨⟨gT_of (tm5 104 rfl) rfl, ini_X12, by decide +kernel⟩, gT_of (tm5 103 rfl) rfl, gT_p (q := (⟨"ClickBenchModel", "label", "(II)I"⟩, 57)) (List.mem_of_getElem? (i := 68) rfl)⟩
theorem i_X12_part : miV yX12_part cX12_part 5 (some .int) 3 := ⟨⟨gT_of (tm5 88 rfl) rfl, ini_X12, by decide +kernel⟩, gT_of (tm5 86 rfl) rfl, gT_of (tm5 87 rfl) rfl⟩
theorem i_X12_sizeOf : miS yX12_sizeOf cX12_sizeOf 3 (some .int) 1 := ⟨⟨gT_of (tm5 112 rfl) rfl, ini_X12, by decide +kernel⟩, gT_of (tm5 111 rfl) rfl⟩
theorem i_X12_text : miV yX12_text cX12_text 9 (some .int) 4 := ⟨⟨gT_of (tm5 109 rfl) rfl, ini_X12, by decide +kernel⟩, gT_of (tm5 107 rfl) rfl, gT_of (tm5 108 rfl) rfl⟩
theorem i_X12_areSameWords : miV yX12_areSameWords cX12_areSameWords 4 (some .boolean) 2 := ⟨⟨gT_of (tm5 133 rfl) rfl, ini_X12, by decide +kernel⟩, gT_of (tm5 132 rfl) rfl, gT_p (q := (⟨"ClickBenchModel", "areSameWords", "(II)Z"⟩, 57)) (List.mem_of_getElem? (i := 72) rfl)⟩
theorem i_X12_change : miV yX12_change cX12_change 3 (some .int) 2 := ⟨⟨gT_of (tm5 129 rfl) rfl, ini_X12, by decide +kernel⟩, gT_of (tm5 128 rfl) rfl, gT_p (q := (⟨"ClickBenchModel", "change", "(II)I"⟩, 57)) (List.mem_of_getElem? (i := 71) rfl)⟩
theorem i_X12_measureAll : miV yX12_measureAll cX12_measureAll 5 none 2 := ⟨⟨gT_of (tm5 121 rfl) rfl, ini_X12, by decide +kernel⟩, gT_of (tm5 120 rfl) rfl, gT_p (q := (⟨"ClickBenchModel", "measureAll", "(II)V"⟩, 57)) (List.mem_of_getElem? (i := 69) rfl)⟩
theorem i_X12_measureOne : miV yX12_measureOne cX12_measureOne 13 (some .int) 4 := ⟨⟨gT_of (tm5 125 rfl) rfl, ini_X12, by decide +kernel⟩, gT_of (tm5 124 rfl) rfl, gT_p (q := (⟨"ClickBenchModel", "measureOne", "(IIII)I"⟩, 57)) (List.mem_of_getElem? (i := 70) rfl)⟩
theorem i_X12_far : miV yX12_far cX12_far 5 (some .int) 4 := ⟨⟨gT_of (tm5 117 rfl) rfl, ini_X12, by decide +kernel⟩, gT_of (tm5 115 rfl) rfl, gT_of (tm5 116 rfl) rfl⟩
theorem i_X12_beside : miV yX12_beside cX12_beside 5 (some .int) 4 := ⟨⟨gT_of (tm5 145 rfl) rfl, ini_X12, by decide +kernel⟩, gT_of (tm5 144 rfl) rfl, gT_p (q := (⟨"ClickBenchModel", "beside", "(IIII)I"⟩, 57)) (List.mem_of_getElem? (i := 74) rfl)⟩
theorem i_X12_costOf : miV yX12_costOf cX12_costOf 5 (some .int) 4 := ⟨⟨gT_of (tm5 141 rfl) rfl, ini_X12, by decide +kernel⟩, gT_of (tm5 140 rfl) rfl, gT_p (q := (⟨"ClickBenchModel", "costOf", "(IIII)I"⟩, 57)) (List.mem_of_getElem? (i := 73) rfl)⟩
theorem i_X12_cost : miV yX12_cost cX12_cost 5 (some .int) 4 := ⟨⟨gT_of (tm5 137 rfl) rfl, ini_X12, by decide +kernel⟩, gT_of (tm5 135 rfl) rfl, gT_of (tm5 136 rfl) rfl⟩
theorem i_X12_gap : miV yX12_gap cX12_gap 2 (some .boolean) 1 := ⟨⟨gT_of (tm5 149 rfl) rfl, ini_X12, by decide +kernel⟩, gT_of (tm5 147 rfl) rfl, gT_of (tm5 148 rfl) rfl⟩
theorem i_X12_seek : miV yX12_seek cX12_seek 6 (some .int) 3 := ⟨⟨gT_of (tm5 161 rfl) rfl, ini_X12, by decide +kernel⟩, gT_of (tm5 160 rfl) rfl, gT_p (q := (⟨"ClickBenchModel", "seek", "(III)I"⟩, 57)) (List.mem_of_getElem? (i := 76) rfl)⟩
theorem i_X12_find : miV yX12_find cX12_find 5 (some .int) 3 := ⟨⟨gT_of (tm5 153 rfl) rfl, ini_X12, by decide +kernel⟩, gT_of (tm5 151 rfl) rfl, gT_of (tm5 152 rfl) rfl⟩
theorem i_X12_found : miV yX12_found cX12_found 2 (some .int) 1 := ⟨⟨gT_of (tm5 165 rfl) rfl, ini_X12, by decide +kernel⟩, gT_of (tm5 163 rfl) rfl, gT_of (tm5 164 rfl) rfl⟩
theorem i_X12_arePaths : miV yX12_arePaths cX12_arePaths 7 (some .boolean) 4 := ⟨⟨gT_of (tm5 189 rfl) rfl, ini_X12, by decide +kernel⟩, gT_of (tm5 188 rfl) rfl, gT_p (q := (⟨"ClickBenchModel", "arePaths", "(IIII)Z"⟩, 57)) (List.mem_of_getElem? (i := 81) rfl)⟩
theorem i_X12_areLabels : miV yX12_areLabels cX12_areLabels 7 (some .boolean) 4 := ⟨⟨gT_of (tm5 185 rfl) rfl, ini_X12, by decide +kernel⟩, gT_of (tm5 184 rfl) rfl, gT_p (q := (⟨"ClickBenchModel", "areLabels", "(IIII)Z"⟩, 57)) (List.mem_of_getElem? (i := 80) rfl)⟩
theorem i_X12_kindAbove : miV yX12_kindAbove cX12_kindAbove 3 (some .long) 2 := ⟨⟨gT_of (tm5 177 rfl) rfl, ini_X12, by decide +kernel⟩, gT_of (tm5 176 rfl) rfl, gT_p (q := (⟨"ClickBenchModel", "kindAbove", "(II)J"⟩, 57)) (List.mem_of_getElem? (i := 78) rfl)⟩
theorem i_X12_titleAbove : miV yX12_titleAbove cX12_titleAbove 3 (some .long) 2 := ⟨⟨gT_of (tm5 181 rfl) rfl, ini_X12, by decide +kernel⟩, gT_of (tm5 180 rfl) rfl, gT_p (q := (⟨"ClickBenchModel", "titleAbove", "(II)J"⟩, 57)) (List.mem_of_getElem? (i := 79) rfl)⟩
theorem i_X12_alike : miV yX12_alike cX12_alike 8 (some .int) 4 := ⟨⟨gT_of (tm5 173 rfl) rfl, ini_X12, by decide +kernel⟩, gT_of (tm5 172 rfl) rfl, gT_p (q := (⟨"ClickBenchModel", "alike", "(IIII)I"⟩, 57)) (List.mem_of_getElem? (i := 77) rfl)⟩
theorem i_X12_fits : miV yX12_fits cX12_fits 7 (some .int) 4 := ⟨⟨gT_of (tm5 169 rfl) rfl, ini_X12, by decide +kernel⟩, gT_of (tm5 167 rfl) rfl, gT_of (tm5 168 rfl) rfl⟩
theorem i_X12_fit : miV yX12_fit cX12_fit 8 (some .int) 5 := ⟨⟨gT_of (tm5 193 rfl) rfl, ini_X12, by decide +kernel⟩, gT_of (tm5 191 rfl) rfl, gT_of (tm5 192 rfl) rfl⟩
theorem i_X12_sample : miV yX12_sample cX12_sample 3 (some .int) 2 := ⟨⟨gT_of (tm5 197 rfl) rfl, ini_X12, by decide +kernel⟩, gT_of (tm5 195 rfl) rfl, gT_of (tm5 196 rfl) rfl⟩
theorem i_X12_forget : miV yX12_forget cX12_forget 2 (some .int) 0 := ⟨⟨gT_of (tm5 201 rfl) rfl, ini_X12, by decide +kernel⟩, gT_of (tm5 199 rfl) rfl, gT_of (tm5 200 rfl) rfl⟩
theorem i_X12_stays : miV yX12_stays cX12_stays 3 (some .int) 0 := ⟨⟨gT_of (tm5 205 rfl) rfl, ini_X12, by decide +kernel⟩, gT_of (tm5 203 rfl) rfl, gT_of (tm5 204 rfl) rfl⟩
theorem i_X12_bitsOf : miS yX12_bitsOf cX12_bitsOf 3 (some .int) 1 := ⟨⟨gT_of (tm5 217 rfl) rfl, ini_X12, by decide +kernel⟩, gT_of (tm5 216 rfl) rfl⟩
theorem i_X12_lookAtSamples : miV yX12_lookAtSamples cX12_lookAtSamples 3 none 0 := ⟨⟨gT_of (tm5 214 rfl) rfl, ini_X12, by decide +kernel⟩, gT_of (tm5 213 rfl) rfl, gT_p (q := (⟨"ClickBenchModel", "lookAtSamples", "()V"⟩, 57)) (List.mem_of_getElem? (i := 82) rfl)⟩
theorem i_X12_tells : miV yX12_tells cX12_tells 3 (some .boolean) 1 := ⟨⟨gT_of (tm5 221 rfl) rfl, ini_X12, by decide +kernel⟩, gT_of (tm5 220 rfl) rfl, gT_p (q := (⟨"ClickBenchModel", "tells", "(I)Z"⟩, 57)) (List.mem_of_getElem? (i := 83) rfl)⟩
theorem i_X12_learnt : miV yX12_learnt cX12_learnt 4 (some .int) 0 := ⟨⟨gT_of (tm5 209 rfl) rfl, ini_X12, by decide +kernel⟩, gT_of (tm5 207 rfl) rfl, gT_of (tm5 208 rfl) rfl⟩
theorem i_X12_seen : miV yX12_seen cX12_seen 5 (some .int) 1 := ⟨⟨gT_of (tm5 225 rfl) rfl, ini_X12, by decide +kernel⟩, gT_of (tm5 223 rfl) rfl, gT_of (tm5 224 rfl) rfl⟩
theorem i_X12_lay : miV yX12_lay cX12_lay 12 (some .boolean) 4 := ⟨⟨gT_of (tm5 234 rfl) rfl, ini_X12, by decide +kernel⟩, gT_of (tm5 233 rfl) rfl, gT_p (q := (⟨"ClickBenchModel", "lay", "(IIII)Z"⟩, 57)) (List.mem_of_getElem? (i := 84) rfl)⟩
theorem i_X12_rowOf : miV yX12_rowOf cX12_rowOf 8 (some .int) 3 := ⟨⟨gT_of (tm6 2 rfl) rfl, ini_X12, by decide +kernel⟩, gT_of (tm6 1 rfl) rfl, gT_p (q := (⟨"ClickBenchModel", "rowOf", "(III)I"⟩, 57)) (List.mem_of_getElem? (i := 86) rfl)⟩
theorem i_X12_child : miV yX12_child cX12_child 7 (some .int) 4 := ⟨⟨gT_of (tm6 6 rfl) rfl, ini_X12, by decide +kernel⟩, gT_of (tm6 5 rfl) rfl, gT_p (q := (⟨"ClickBenchModel", "child", "(IIJI)I"⟩, 57)) (List.mem_of_getElem? (i := 87) rfl)⟩
theorem i_X12_rowsOf : miV yX12_rowsOf cX12_rowsOf 4 (some .int) 2 := ⟨⟨gT_of (tm5 238 rfl) rfl, ini_X12, by decide +kernel⟩, gT_of (tm5 237 rfl) rfl, gT_p (q := (⟨"ClickBenchModel", "rowsOf", "(II)I"⟩, 57)) (List.mem_of_getElem? (i := 85) rfl)⟩
theorem i_X12_rows : miV yX12_rows cX12_rows 5 (some .int) 4 := ⟨⟨gT_of (tm5 230 rfl) rfl, ini_X12, by decide +kernel⟩, gT_of (tm5 228 rfl) rfl, gT_of (tm5 229 rfl) rfl⟩
theorem i_X12_row : miV yX12_row cX12_row 7 (some .int) 5 := ⟨⟨gT_of (tm6 10 rfl) rfl, ini_X12, by decide +kernel⟩, gT_of (tm6 8 rfl) rfl, gT_of (tm6 9 rfl) rfl⟩
theorem i_X12_act : miV yX12_act cX12_act 4 (some .int) 3 := ⟨⟨gT_of (tm6 15 rfl) rfl, ini_X12, by decide +kernel⟩, gT_of (tm6 13 rfl) rfl, gT_of (tm6 14 rfl) rfl⟩
theorem i_X12_loop : miV yX12_loop cX12_loop 5 (some .int) 4 := ⟨⟨gT_of (tm6 19 rfl) rfl, ini_X12, by decide +kernel⟩, gT_of (tm6 17 rfl) rfl, gT_of (tm6 18 rfl) rfl⟩
theorem i_X12_clear : miV yX12_clear cX12_clear 2 (some .int) 0 := ⟨⟨gT_of (tm6 23 rfl) rfl, ini_X12, by decide +kernel⟩, gT_of (tm6 21 rfl) rfl, gT_of (tm6 22 rfl) rfl⟩
theorem i_X12_isInHarm : miV yX12_isInHarm cX12_isInHarm 4 (some .boolean) 2 := ⟨⟨gT_of (tm6 39 rfl) rfl, ini_X12, by decide +kernel⟩, gT_of (tm6 38 rfl) rfl, gT_p (q := (⟨"ClickBenchModel", "isInHarm", "(II)Z"⟩, 57)) (List.mem_of_getElem? (i := 90) rfl)⟩
theorem i_X12_does : miV yX12_does cX12_does 6 (some .boolean) 3 := ⟨⟨gT_of (tm6 35 rfl) rfl, ini_X12, by decide +kernel⟩, gT_of (tm6 34 rfl) rfl, gT_p (q := (⟨"ClickBenchModel", "does", "(III)Z"⟩, 57)) (List.mem_of_getElem? (i := 89) rfl)⟩
theorem i_X12_goes : miV yX12_goes cX12_goes 5 (some .boolean) 2 := ⟨⟨gT_of (tm6 31 rfl) rfl, ini_X12, by decide +kernel⟩, gT_of (tm6 30 rfl) rfl, gT_p (q := (⟨"ClickBenchModel", "goes", "(II)Z"⟩, 57)) (List.mem_of_getElem? (i := 88) rfl)⟩
theorem i_X12_run : miV yX12_run cX12_run 3 (some .int) 1 := ⟨⟨gT_of (tm6 27 rfl) rfl, ini_X12, by decide +kernel⟩, gT_of (tm6 25 rfl) rfl, gT_of (tm6 26 rfl) rfl⟩
theorem i_X12_ran : miV yX12_ran cX12_ran 2 (some .int) 1 := ⟨⟨gT_of (tm6 43 rfl) rfl, ini_X12, by decide +kernel⟩, gT_of (tm6 41 rfl) rfl, gT_of (tm6 42 rfl) rfl⟩
theorem i_X12_read : miV yX12_read cX12_read 3 (some .int) 2 := ⟨⟨gT_of (tm6 47 rfl) rfl, ini_X12, by decide +kernel⟩, gT_of (tm6 45 rfl) rfl, gT_of (tm6 46 rfl) rfl⟩
theorem i_X12_about : miV yX12_about cX12_about 2 (some .int) 1 := ⟨⟨gT_of (tm6 51 rfl) rfl, ini_X12, by decide +kernel⟩, gT_of (tm6 49 rfl) rfl, gT_of (tm6 50 rfl) rfl⟩
theorem i_X12_feed : miV yX12_feed cX12_feed 8 (some .int) 5 := ⟨⟨gT_of (tm6 55 rfl) rfl, ini_X12, by decide +kernel⟩, gT_of (tm6 53 rfl) rfl, gT_of (tm6 54 rfl) rfl⟩
theorem i_X12_end : miV yX12_end cX12_end 2 (some .int) 1 := ⟨⟨gT_of (tm6 59 rfl) rfl, ini_X12, by decide +kernel⟩, gT_of (tm6 57 rfl) rfl, gT_of (tm6 58 rfl) rfl⟩
theorem i_J6_bitCount_0f7a4 : miS yJ6_bitCount_0f7a4 cJ6_bitCount_0f7a4 1 (some .int) 1 := ⟨⟨gT_of (tm3 179 rfl) rfl, ini_java_lang_Integer, by decide +kernel⟩, gT_of (tm3 178 rfl) rfl⟩
theorem i_J9_abs_0f7a4 : miS yJ9_abs_0f7a4 cJ9_abs_0f7a4 1 (some .int) 1 := ⟨⟨gT_of (tm3 204 rfl) rfl, ini_java_lang_Math, by decide +kernel⟩, gT_of (tm3 203 rfl) rfl⟩
theorem i_J9_min_7cf53 : miS yJ9_min_7cf53 cJ9_min_7cf53 2 (some .int) 2 := ⟨⟨gT_of (tm3 55 rfl) rfl, ini_java_lang_Math, by decide +kernel⟩, gT_of (tm3 54 rfl) rfl⟩
theorem oi_code : Cond.code objectInit ⟨#[0xb1]⟩ 1 none ∈ gT := gT_of (tm1 23 rfl) rfl
theorem oi_inst : Cond.instanceMethod objectInit ∈ gT := gT_of (tm1 22 rfl) rfl
end
section
theorem dX0_init_0 : decode cX0_init 0 = .ok (.aload_n 0, 1) := by decide +kernel
theorem dX0_init_1 : decode cX0_init 1 = .ok (.invokespecial 1, 3) := by decide +kernel
theorem dX0_init_4 : decode cX0_init 4 = .ok (.aload_n 0, 1) := by decide +kernel
theorem dX0_init_5 : decode cX0_init 5 = .ok (.iload_n 1, 1) := by decide +kernel
theorem dX0_init_6 : decode cX0_init 6 = .ok (.putfield 7, 3) := by decide +kernel
theorem dX0_init_9 : decode cX0_init 9 = .ok (.aload_n 0, 1) := by decide +kernel
theorem dX0_init_10 : decode cX0_init 10 = .ok (.aload_n 2, 1) := by decide +kernel
theorem dX0_init_11 : decode cX0_init 11 = .ok (.putfield 13, 3) := by decide +kernel
theorem dX0_init_14 : decode cX0_init 14 = .ok (.aload_n 0, 1) := by decide +kernel
theorem dX0_init_15 : decode cX0_init 15 = .ok (.aload_n 3, 1) := by decide +kernel
theorem dX0_init_16 : decode cX0_init 16 = .ok (.putfield 17, 3) := by decide +kernel
theorem dX0_init_19 : decode cX0_init 19 = .ok (.return_, 1) := by decide +kernel
theorem dX1_init_0 : decode cX1_init 0 = .ok (.aload_n 0, 1) := by decide +kernel
theorem dX1_init_1 : decode cX1_init 1 = .ok (.invokespecial 3, 3) := by decide +kernel
theorem dX1_init_4 : decode cX1_init 4 = .ok (.aload_n 0, 1) := by decide +kernel
theorem dX1_init_5 : decode cX1_init 5 = .ok (.aconst_null, 1) := by decide +kernel
theorem dX1_init_6 : decode cX1_init 6 = .ok (.putfield 9, 3) := by decide +kernel
theorem dX1_init_9 : decode cX1_init 9 = .ok (.aload_n 0, 1) := by decide +kernel
theorem dX1_init_10 : decode cX1_init 10 = .ok (.aconst_null, 1) := by decide +kernel
theorem dX1_init_11 : decode cX1_init 11 = .ok (.putfield 15, 3) := by decide +kernel
theorem dX1_init_14 : decode cX1_init 14 = .ok (.aload_n 0, 1) := by decide +kernel
theorem dX1_init_15 : decode cX1_init 15 = .ok (.iconst (-1), 1) := by decide +kernel
theorem dX1_init_16 : decode cX1_init 16 = .ok (.putfield 18, 3) := by decide +kernel
theorem dX1_init_19 : decode cX1_init 19 = .ok (.aload_n 0, 1) := by decide +kernel
theorem dX1_init_20 : decode cX1_init 20 = .ok (.iconst (-1), 1) := by decide +kernel
theorem dX1_init_21 : decode cX1_init 21 = .ok (.putfield 22, 3) := by decide +kernel
theorem dX1_init_24 : decode cX1_init 24 = .ok (.return_, 1) := by decide +kernel
theorem dX1_look_0 : decode cX1_look 0 = .ok (.aconst_null, 1) := by decide +kernel
theorem dX1_look_1 : decode cX1_look 1 = .ok (.astore 5, 2) := by decide +kernel
theorem dX1_look_3 : decode cX1_look 3 = .ok (.aconst_null, 1) := by decide +kernel
theorem dX1_look_4 : decode cX1_look 4 = .ok (.astore 6, 2) := by decide +kernel
theorem dX1_look_6 : decode cX1_look 6 = .ok (.iconst (-1), 1) := by decide +kernel
theorem dX1_look_7 : decode cX1_look 7 = .ok (.istore 7, 2) := by decide +kernel
theorem dX1_look_9 : decode cX1_look 9 = .ok (.iconst (-1), 1) := by decide +kernel
theorem dX1_look_10 : decode cX1_look 10 = .ok (.istore 8, 2) := by decide +kernel
theorem dX1_look_12 : decode cX1_look 12 = .ok (.iconst 0, 1) := by decide +kernel
theorem dX1_look_13 : decode cX1_look 13 = .ok (.istore 9, 2) := by decide +kernel
theorem dX1_look_15 : decode cX1_look 15 = .ok (.iload 9, 2) := by decide +kernel
theorem dX1_look_17 : decode cX1_look 17 = .ok (.aload_n 2, 1) := by decide +kernel
theorem dX1_look_18 : decode cX1_look 18 = .ok (.getfield 25, 3) := by decide +kernel
theorem dX1_look_21 : decode cX1_look 21 = .ok (.if_icmp .ge 98, 3) := by decide +kernel
theorem dX1_look_24 : decode cX1_look 24 = .ok (.aload_n 2, 1) := by decide +kernel
theorem dX1_look_25 : decode cX1_look 25 = .ok (.iload 9, 2) := by decide +kernel
theorem dX1_look_27 : decode cX1_look 27 = .ok (.invokevirtual 30, 3) := by decide +kernel
theorem dX1_look_30 : decode cX1_look 30 = .ok (.astore 10, 2) := by decide +kernel
theorem dX1_look_32 : decode cX1_look 32 = .ok (.aload 10, 2) := by decide +kernel
theorem dX1_look_34 : decode cX1_look 34 = .ok (.ifnull 79, 3) := by decide +kernel
theorem dX1_look_37 : decode cX1_look 37 = .ok (.aload 10, 2) := by decide +kernel
theorem dX1_look_39 : decode cX1_look 39 = .ok (.getfield 34, 3) := by decide +kernel
theorem dX1_look_42 : decode cX1_look 42 = .ok (.aload_n 1, 1) := by decide +kernel
theorem dX1_look_43 : decode cX1_look 43 = .ok (.getfield 34, 3) := by decide +kernel
theorem dX1_look_46 : decode cX1_look 46 = .ok (.lcmp, 1) := by decide +kernel
theorem dX1_look_47 : decode cX1_look 47 = .ok (.ifCond .eq 6, 3) := by decide +kernel
theorem dX1_look_50 : decode cX1_look 50 = .ok (.goto 63, 3) := by decide +kernel
theorem dX1_look_53 : decode cX1_look 53 = .ok (.aload_n 3, 1) := by decide +kernel
theorem dX1_look_54 : decode cX1_look 54 = .ok (.aload_n 1, 1) := by decide +kernel
theorem dX1_look_55 : decode cX1_look 55 = .ok (.aload 10, 2) := by decide +kernel
theorem dX1_look_57 : decode cX1_look 57 = .ok (.invokevirtual 40, 3) := by decide +kernel
theorem dX1_look_60 : decode cX1_look 60 = .ok (.istore 11, 2) := by decide +kernel
theorem dX1_look_62 : decode cX1_look 62 = .ok (.aload 5, 2) := by decide +kernel
theorem dX1_look_64 : decode cX1_look 64 = .ok (.ifnull 10, 3) := by decide +kernel
theorem dX1_look_67 : decode cX1_look 67 = .ok (.iload 11, 2) := by decide +kernel
theorem dX1_look_69 : decode cX1_look 69 = .ok (.iload 7, 2) := by decide +kernel
theorem dX1_look_71 : decode cX1_look 71 = .ok (.if_icmp .ge 22, 3) := by decide +kernel
theorem dX1_look_74 : decode cX1_look 74 = .ok (.aload 5, 2) := by decide +kernel
theorem dX1_look_76 : decode cX1_look 76 = .ok (.astore 6, 2) := by decide +kernel
theorem dX1_look_78 : decode cX1_look 78 = .ok (.iload 7, 2) := by decide +kernel
theorem dX1_look_80 : decode cX1_look 80 = .ok (.istore 8, 2) := by decide +kernel
theorem dX1_look_82 : decode cX1_look 82 = .ok (.aload 10, 2) := by decide +kernel
theorem dX1_look_84 : decode cX1_look 84 = .ok (.astore 5, 2) := by decide +kernel
theorem dX1_look_86 : decode cX1_look 86 = .ok (.iload 11, 2) := by decide +kernel
theorem dX1_look_88 : decode cX1_look 88 = .ok (.istore 7, 2) := by decide +kernel
theorem dX1_look_90 : decode cX1_look 90 = .ok (.goto 23, 3) := by decide +kernel
theorem dX1_look_93 : decode cX1_look 93 = .ok (.aload 6, 2) := by decide +kernel
theorem dX1_look_95 : decode cX1_look 95 = .ok (.ifnull 10, 3) := by decide +kernel
theorem dX1_look_98 : decode cX1_look 98 = .ok (.iload 11, 2) := by decide +kernel
theorem dX1_look_100 : decode cX1_look 100 = .ok (.iload 8, 2) := by decide +kernel
theorem dX1_look_102 : decode cX1_look 102 = .ok (.if_icmp .ge 11, 3) := by decide +kernel
theorem dX1_look_105 : decode cX1_look 105 = .ok (.aload 10, 2) := by decide +kernel
theorem dX1_look_107 : decode cX1_look 107 = .ok (.astore 6, 2) := by decide +kernel
theorem dX1_look_109 : decode cX1_look 109 = .ok (.iload 11, 2) := by decide +kernel
theorem dX1_look_111 : decode cX1_look 111 = .ok (.istore 8, 2) := by decide +kernel
theorem dX1_look_113 : decode cX1_look 113 = .ok (.iinc 9 1, 3) := by decide +kernel
theorem dX1_look_116 : decode cX1_look 116 = .ok (.goto (-101), 3) := by decide +kernel
theorem dX1_look_119 : decode cX1_look 119 = .ok (.aload 5, 2) := by decide +kernel
theorem dX1_look_121 : decode cX1_look 121 = .ok (.ifnonnull 6, 3) := by decide +kernel
theorem dX1_look_124 : decode cX1_look 124 = .ok (.bipush (-2), 2) := by decide +kernel
theorem dX1_look_126 : decode cX1_look 126 = .ok (.ireturn, 1) := by decide +kernel
theorem dX1_look_127 : decode cX1_look 127 = .ok (.aload_n 0, 1) := by decide +kernel
theorem dX1_look_128 : decode cX1_look 128 = .ok (.aload 5, 2) := by decide +kernel
theorem dX1_look_130 : decode cX1_look 130 = .ok (.putfield 9, 3) := by decide +kernel
theorem dX1_look_133 : decode cX1_look 133 = .ok (.aload_n 0, 1) := by decide +kernel
theorem dX1_look_134 : decode cX1_look 134 = .ok (.aload 6, 2) := by decide +kernel
theorem dX1_look_136 : decode cX1_look 136 = .ok (.putfield 15, 3) := by decide +kernel
theorem dX1_look_139 : decode cX1_look 139 = .ok (.aload_n 0, 1) := by decide +kernel
theorem dX1_look_140 : decode cX1_look 140 = .ok (.iload 7, 2) := by decide +kernel
theorem dX1_look_142 : decode cX1_look 142 = .ok (.putfield 18, 3) := by decide +kernel
theorem dX1_look_145 : decode cX1_look 145 = .ok (.aload_n 0, 1) := by decide +kernel
theorem dX1_look_146 : decode cX1_look 146 = .ok (.iload 8, 2) := by decide +kernel
theorem dX1_look_148 : decode cX1_look 148 = .ok (.putfield 22, 3) := by decide +kernel
theorem dX1_look_151 : decode cX1_look 151 = .ok (.aload 6, 2) := by decide +kernel
theorem dX1_look_153 : decode cX1_look 153 = .ok (.ifnull 13, 3) := by decide +kernel
theorem dX1_look_156 : decode cX1_look 156 = .ok (.iload 8, 2) := by decide +kernel
theorem dX1_look_158 : decode cX1_look 158 = .ok (.iload 7, 2) := by decide +kernel
theorem dX1_look_160 : decode cX1_look 160 = .ok (.isub, 1) := by decide +kernel
theorem dX1_look_161 : decode cX1_look 161 = .ok (.iload 4, 2) := by decide +kernel
theorem dX1_look_163 : decode cX1_look 163 = .ok (.if_icmp .lt 7, 3) := by decide +kernel
theorem dX1_look_166 : decode cX1_look 166 = .ok (.iconst 1, 1) := by decide +kernel
theorem dX1_look_167 : decode cX1_look 167 = .ok (.goto 4, 3) := by decide +kernel
theorem dX1_look_170 : decode cX1_look 170 = .ok (.iconst 0, 1) := by decide +kernel
theorem dX1_look_171 : decode cX1_look 171 = .ok (.ireturn, 1) := by decide +kernel
theorem dX2_init_0 : decode cX2_init 0 = .ok (.aload_n 0, 1) := by decide +kernel
theorem dX2_init_1 : decode cX2_init 1 = .ok (.invokespecial 3, 3) := by decide +kernel
theorem dX2_init_4 : decode cX2_init 4 = .ok (.aload_n 0, 1) := by decide +kernel
theorem dX2_init_5 : decode cX2_init 5 = .ok (.sipush 3600, 3) := by decide +kernel
theorem dX2_init_8 : decode cX2_init 8 = .ok (.newarray .int, 2) := by decide +kernel
theorem dX2_init_10 : decode cX2_init 10 = .ok (.putfield 9, 3) := by decide +kernel
theorem dX2_init_13 : decode cX2_init 13 = .ok (.aload_n 0, 1) := by decide +kernel
theorem dX2_init_14 : decode cX2_init 14 = .ok (.bipush 60, 2) := by decide +kernel
theorem dX2_init_16 : decode cX2_init 16 = .ok (.newarray .boolean, 2) := by decide +kernel
theorem dX2_init_18 : decode cX2_init 18 = .ok (.putfield 15, 3) := by decide +kernel
theorem dX2_init_21 : decode cX2_init 21 = .ok (.aload_n 0, 1) := by decide +kernel
theorem dX2_init_22 : decode cX2_init 22 = .ok (.aconst_null, 1) := by decide +kernel
theorem dX2_init_23 : decode cX2_init 23 = .ok (.putfield 19, 3) := by decide +kernel
theorem dX2_init_26 : decode cX2_init 26 = .ok (.aload_n 0, 1) := by decide +kernel
theorem dX2_init_27 : decode cX2_init 27 = .ok (.aconst_null, 1) := by decide +kernel
theorem dX2_init_28 : decode cX2_init 28 = .ok (.putfield 23, 3) := by decide +kernel
theorem dX2_init_31 : decode cX2_init 31 = .ok (.aload_n 0, 1) := by decide +kernel
theorem dX2_init_32 : decode cX2_init 32 = .ok (.aload_n 1, 1) := by decide +kernel
theorem dX2_init_33 : decode cX2_init 33 = .ok (.putfield 26, 3) := by decide +kernel
theorem dX2_init_36 : decode cX2_init 36 = .ok (.return_, 1) := by decide +kernel
theorem dX2_begin_0 : decode cX2_begin 0 = .ok (.aload_n 0, 1) := by decide +kernel
theorem dX2_begin_1 : decode cX2_begin 1 = .ok (.aload_n 1, 1) := by decide +kernel
theorem dX2_begin_2 : decode cX2_begin 2 = .ok (.putfield 19, 3) := by decide +kernel
theorem dX2_begin_5 : decode cX2_begin 5 = .ok (.aload_n 0, 1) := by decide +kernel
theorem dX2_begin_6 : decode cX2_begin 6 = .ok (.aload_n 2, 1) := by decide +kernel
theorem dX2_begin_7 : decode cX2_begin 7 = .ok (.putfield 23, 3) := by decide +kernel
theorem dX2_begin_10 : decode cX2_begin 10 = .ok (.iconst 0, 1) := by decide +kernel
theorem dX2_begin_11 : decode cX2_begin 11 = .ok (.istore_n 3, 1) := by decide +kernel
theorem dX2_begin_12 : decode cX2_begin 12 = .ok (.iload_n 3, 1) := by decide +kernel
theorem dX2_begin_13 : decode cX2_begin 13 = .ok (.bipush 60, 2) := by decide +kernel
theorem dX2_begin_15 : decode cX2_begin 15 = .ok (.if_icmp .ge 16, 3) := by decide +kernel
theorem dX2_begin_18 : decode cX2_begin 18 = .ok (.aload_n 0, 1) := by decide +kernel
theorem dX2_begin_19 : decode cX2_begin 19 = .ok (.getfield 15, 3) := by decide +kernel
theorem dX2_begin_22 : decode cX2_begin 22 = .ok (.iload_n 3, 1) := by decide +kernel
theorem dX2_begin_23 : decode cX2_begin 23 = .ok (.iconst 0, 1) := by decide +kernel
theorem dX2_begin_24 : decode cX2_begin 24 = .ok (.bastore, 1) := by decide +kernel
theorem dX2_begin_25 : decode cX2_begin 25 = .ok (.iinc 3 1, 3) := by decide +kernel
theorem dX2_begin_28 : decode cX2_begin 28 = .ok (.goto (-16), 3) := by decide +kernel
theorem dX2_begin_31 : decode cX2_begin 31 = .ok (.return_, 1) := by decide +kernel
theorem dX2_costOf_0 : decode cX2_costOf 0 = .ok (.iconst 3, 1) := by decide +kernel
theorem dX2_costOf_1 : decode cX2_costOf 1 = .ok (.aload_n 0, 1) := by decide +kernel
theorem dX2_costOf_2 : decode cX2_costOf 2 = .ok (.aload_n 1, 1) := by decide +kernel
theorem dX2_costOf_3 : decode cX2_costOf 3 = .ok (.aload_n 2, 1) := by decide +kernel
theorem dX2_costOf_4 : decode cX2_costOf 4 = .ok (.invokevirtual 29, 3) := by decide +kernel
theorem dX2_costOf_7 : decode cX2_costOf 7 = .ok (.imul, 1) := by decide +kernel
theorem dX2_costOf_8 : decode cX2_costOf 8 = .ok (.aload_n 1, 1) := by decide +kernel
theorem dX2_costOf_9 : decode cX2_costOf 9 = .ok (.getfield 33, 3) := by decide +kernel
theorem dX2_costOf_12 : decode cX2_costOf 12 = .ok (.aload_n 2, 1) := by decide +kernel
theorem dX2_costOf_13 : decode cX2_costOf 13 = .ok (.getfield 33, 3) := by decide +kernel
theorem dX2_costOf_16 : decode cX2_costOf 16 = .ok (.invokestatic 39, 3) := by decide +kernel
theorem dX2_costOf_19 : decode cX2_costOf 19 = .ok (.iadd, 1) := by decide +kernel
theorem dX2_costOf_20 : decode cX2_costOf 20 = .ok (.aload_n 1, 1) := by decide +kernel
theorem dX2_costOf_21 : decode cX2_costOf 21 = .ok (.getfield 42, 3) := by decide +kernel
theorem dX2_costOf_24 : decode cX2_costOf 24 = .ok (.aload_n 2, 1) := by decide +kernel
theorem dX2_costOf_25 : decode cX2_costOf 25 = .ok (.getfield 42, 3) := by decide +kernel
theorem dX2_costOf_28 : decode cX2_costOf 28 = .ok (.invokestatic 39, 3) := by decide +kernel
theorem dX2_costOf_31 : decode cX2_costOf 31 = .ok (.iadd, 1) := by decide +kernel
theorem dX2_costOf_32 : decode cX2_costOf 32 = .ok (.aload_n 1, 1) := by decide +kernel
theorem dX2_costOf_33 : decode cX2_costOf 33 = .ok (.getfield 45, 3) := by decide +kernel
theorem dX2_costOf_36 : decode cX2_costOf 36 = .ok (.aload_n 2, 1) := by decide +kernel
theorem dX2_costOf_37 : decode cX2_costOf 37 = .ok (.getfield 45, 3) := by decide +kernel
theorem dX2_costOf_40 : decode cX2_costOf 40 = .ok (.invokestatic 39, 3) := by decide +kernel
theorem dX2_costOf_43 : decode cX2_costOf 43 = .ok (.iadd, 1) := by decide +kernel
theorem dX2_costOf_44 : decode cX2_costOf 44 = .ok (.ireturn, 1) := by decide +kernel
theorem dX2_farOf_0 : decode cX2_farOf 0 = .ok (.aload_n 1, 1) := by decide +kernel
theorem dX2_farOf_1 : decode cX2_farOf 1 = .ok (.getfield 48, 3) := by decide +kernel
theorem dX2_farOf_4 : decode cX2_farOf 4 = .ok (.bipush 60, 2) := by decide +kernel
theorem dX2_farOf_6 : decode cX2_farOf 6 = .ok (.imul, 1) := by decide +kernel
theorem dX2_farOf_7 : decode cX2_farOf 7 = .ok (.aload_n 2, 1) := by decide +kernel
theorem dX2_farOf_8 : decode cX2_farOf 8 = .ok (.getfield 48, 3) := by decide +kernel
theorem dX2_farOf_11 : decode cX2_farOf 11 = .ok (.iadd, 1) := by decide +kernel
theorem dX2_farOf_12 : decode cX2_farOf 12 = .ok (.istore_n 3, 1) := by decide +kernel
theorem dX2_farOf_13 : decode cX2_farOf 13 = .ok (.iload_n 3, 1) := by decide +kernel
theorem dX2_farOf_14 : decode cX2_farOf 14 = .ok (.ifCond .lt 12, 3) := by decide +kernel
theorem dX2_farOf_17 : decode cX2_farOf 17 = .ok (.iload_n 3, 1) := by decide +kernel
theorem dX2_farOf_18 : decode cX2_farOf 18 = .ok (.aload_n 0, 1) := by decide +kernel
theorem dX2_farOf_19 : decode cX2_farOf 19 = .ok (.getfield 9, 3) := by decide +kernel
theorem dX2_farOf_22 : decode cX2_farOf 22 = .ok (.arraylength, 1) := by decide +kernel
theorem dX2_farOf_23 : decode cX2_farOf 23 = .ok (.if_icmp .lt 7, 3) := by decide +kernel
theorem dX2_farOf_26 : decode cX2_farOf 26 = .ok (.iconst (-1), 1) := by decide +kernel
theorem dX2_farOf_27 : decode cX2_farOf 27 = .ok (.goto 9, 3) := by decide +kernel
theorem dX2_farOf_30 : decode cX2_farOf 30 = .ok (.aload_n 0, 1) := by decide +kernel
theorem dX2_farOf_31 : decode cX2_farOf 31 = .ok (.getfield 9, 3) := by decide +kernel
theorem dX2_farOf_34 : decode cX2_farOf 34 = .ok (.iload_n 3, 1) := by decide +kernel
theorem dX2_farOf_35 : decode cX2_farOf 35 = .ok (.iaload, 1) := by decide +kernel
theorem dX2_farOf_36 : decode cX2_farOf 36 = .ok (.ireturn, 1) := by decide +kernel
theorem dX2_measure_0 : decode cX2_measure 0 = .ok (.aload_n 1, 1) := by decide +kernel
theorem dX2_measure_1 : decode cX2_measure 1 = .ok (.getfield 48, 3) := by decide +kernel
theorem dX2_measure_4 : decode cX2_measure 4 = .ok (.aload_n 1, 1) := by decide +kernel
theorem dX2_measure_5 : decode cX2_measure 5 = .ok (.getfield 52, 3) := by decide +kernel
theorem dX2_measure_8 : decode cX2_measure 8 = .ok (.iadd, 1) := by decide +kernel
theorem dX2_measure_9 : decode cX2_measure 9 = .ok (.istore_n 2, 1) := by decide +kernel
theorem dX2_measure_10 : decode cX2_measure 10 = .ok (.aload_n 0, 1) := by decide +kernel
theorem dX2_measure_11 : decode cX2_measure 11 = .ok (.getfield 19, 3) := by decide +kernel
theorem dX2_measure_14 : decode cX2_measure 14 = .ok (.ifnull 33, 3) := by decide +kernel
theorem dX2_measure_17 : decode cX2_measure 17 = .ok (.aload_n 0, 1) := by decide +kernel
theorem dX2_measure_18 : decode cX2_measure 18 = .ok (.getfield 23, 3) := by decide +kernel
theorem dX2_measure_21 : decode cX2_measure 21 = .ok (.ifnull 26, 3) := by decide +kernel
theorem dX2_measure_24 : decode cX2_measure 24 = .ok (.iload_n 2, 1) := by decide +kernel
theorem dX2_measure_25 : decode cX2_measure 25 = .ok (.aload_n 0, 1) := by decide +kernel
theorem dX2_measure_26 : decode cX2_measure 26 = .ok (.getfield 19, 3) := by decide +kernel
theorem dX2_measure_29 : decode cX2_measure 29 = .ok (.getfield 55, 3) := by decide +kernel
theorem dX2_measure_32 : decode cX2_measure 32 = .ok (.if_icmp .ge 15, 3) := by decide +kernel
theorem dX2_measure_35 : decode cX2_measure 35 = .ok (.aload_n 0, 1) := by decide +kernel
theorem dX2_measure_36 : decode cX2_measure 36 = .ok (.getfield 15, 3) := by decide +kernel
theorem dX2_measure_39 : decode cX2_measure 39 = .ok (.aload_n 1, 1) := by decide +kernel
theorem dX2_measure_40 : decode cX2_measure 40 = .ok (.getfield 48, 3) := by decide +kernel
theorem dX2_measure_43 : decode cX2_measure 43 = .ok (.baload, 1) := by decide +kernel
theorem dX2_measure_44 : decode cX2_measure 44 = .ok (.ifCond .eq 4, 3) := by decide +kernel
theorem dX2_measure_47 : decode cX2_measure 47 = .ok (.return_, 1) := by decide +kernel
theorem dX2_measure_48 : decode cX2_measure 48 = .ok (.iload_n 2, 1) := by decide +kernel
theorem dX2_measure_49 : decode cX2_measure 49 = .ok (.istore_n 3, 1) := by decide +kernel
theorem dX2_measure_50 : decode cX2_measure 50 = .ok (.iload_n 3, 1) := by decide +kernel
theorem dX2_measure_51 : decode cX2_measure 51 = .ok (.aload_n 1, 1) := by decide +kernel
theorem dX2_measure_52 : decode cX2_measure 52 = .ok (.getfield 48, 3) := by decide +kernel
theorem dX2_measure_55 : decode cX2_measure 55 = .ok (.if_icmp .lt 55, 3) := by decide +kernel
theorem dX2_measure_58 : decode cX2_measure 58 = .ok (.aload_n 0, 1) := by decide +kernel
theorem dX2_measure_59 : decode cX2_measure 59 = .ok (.getfield 19, 3) := by decide +kernel
theorem dX2_measure_62 : decode cX2_measure 62 = .ok (.iload_n 3, 1) := by decide +kernel
theorem dX2_measure_63 : decode cX2_measure 63 = .ok (.invokevirtual 60, 3) := by decide +kernel
theorem dX2_measure_66 : decode cX2_measure 66 = .ok (.astore 4, 2) := by decide +kernel
theorem dX2_measure_68 : decode cX2_measure 68 = .ok (.aload 4, 2) := by decide +kernel
theorem dX2_measure_70 : decode cX2_measure 70 = .ok (.ifnull 34, 3) := by decide +kernel
theorem dX2_measure_73 : decode cX2_measure 73 = .ok (.aload_n 0, 1) := by decide +kernel
theorem dX2_measure_74 : decode cX2_measure 74 = .ok (.getfield 15, 3) := by decide +kernel
theorem dX2_measure_77 : decode cX2_measure 77 = .ok (.iload_n 3, 1) := by decide +kernel
theorem dX2_measure_78 : decode cX2_measure 78 = .ok (.baload, 1) := by decide +kernel
theorem dX2_measure_79 : decode cX2_measure 79 = .ok (.ifCond .ne 25, 3) := by decide +kernel
theorem dX2_measure_82 : decode cX2_measure 82 = .ok (.aload 4, 2) := by decide +kernel
theorem dX2_measure_84 : decode cX2_measure 84 = .ok (.getfield 45, 3) := by decide +kernel
theorem dX2_measure_87 : decode cX2_measure 87 = .ok (.ifnonnull 11, 3) := by decide +kernel
theorem dX2_measure_90 : decode cX2_measure 90 = .ok (.iload_n 3, 1) := by decide +kernel
theorem dX2_measure_91 : decode cX2_measure 91 = .ok (.aload_n 1, 1) := by decide +kernel
theorem dX2_measure_92 : decode cX2_measure 92 = .ok (.getfield 48, 3) := by decide +kernel
theorem dX2_measure_95 : decode cX2_measure 95 = .ok (.if_icmp .ne 9, 3) := by decide +kernel
theorem dX2_measure_98 : decode cX2_measure 98 = .ok (.aload_n 0, 1) := by decide +kernel
theorem dX2_measure_99 : decode cX2_measure 99 = .ok (.aload 4, 2) := by decide +kernel
theorem dX2_measure_101 : decode cX2_measure 101 = .ok (.invokevirtual 64, 3) := by decide +kernel
theorem dX2_measure_104 : decode cX2_measure 104 = .ok (.iinc 3 (-1), 3) := by decide +kernel
theorem dX2_measure_107 : decode cX2_measure 107 = .ok (.goto (-57), 3) := by decide +kernel
theorem dX2_measure_110 : decode cX2_measure 110 = .ok (.aload_n 1, 1) := by decide +kernel
theorem dX2_measure_111 : decode cX2_measure 111 = .ok (.getfield 48, 3) := by decide +kernel
theorem dX2_measure_114 : decode cX2_measure 114 = .ok (.istore_n 3, 1) := by decide +kernel
theorem dX2_measure_115 : decode cX2_measure 115 = .ok (.iload_n 3, 1) := by decide +kernel
theorem dX2_measure_116 : decode cX2_measure 116 = .ok (.iload_n 2, 1) := by decide +kernel
theorem dX2_measure_117 : decode cX2_measure 117 = .ok (.if_icmp .gt 16, 3) := by decide +kernel
theorem dX2_measure_120 : decode cX2_measure 120 = .ok (.aload_n 0, 1) := by decide +kernel
theorem dX2_measure_121 : decode cX2_measure 121 = .ok (.getfield 15, 3) := by decide +kernel
theorem dX2_measure_124 : decode cX2_measure 124 = .ok (.iload_n 3, 1) := by decide +kernel
theorem dX2_measure_125 : decode cX2_measure 125 = .ok (.iconst 1, 1) := by decide +kernel
theorem dX2_measure_126 : decode cX2_measure 126 = .ok (.bastore, 1) := by decide +kernel
theorem dX2_measure_127 : decode cX2_measure 127 = .ok (.iinc 3 1, 3) := by decide +kernel
theorem dX2_measure_130 : decode cX2_measure 130 = .ok (.goto (-15), 3) := by decide +kernel
theorem dX2_measure_133 : decode cX2_measure 133 = .ok (.return_, 1) := by decide +kernel
theorem dX2_measureKey_0 : decode cX2_measureKey 0 = .ok (.aload_n 0, 1) := by decide +kernel
theorem dX2_measureKey_1 : decode cX2_measureKey 1 = .ok (.getfield 23, 3) := by decide +kernel
theorem dX2_measureKey_4 : decode cX2_measureKey 4 = .ok (.getfield 55, 3) := by decide +kernel
theorem dX2_measureKey_7 : decode cX2_measureKey 7 = .ok (.iconst 1, 1) := by decide +kernel
theorem dX2_measureKey_8 : decode cX2_measureKey 8 = .ok (.isub, 1) := by decide +kernel
theorem dX2_measureKey_9 : decode cX2_measureKey 9 = .ok (.istore_n 2, 1) := by decide +kernel
theorem dX2_measureKey_10 : decode cX2_measureKey 10 = .ok (.iload_n 2, 1) := by decide +kernel
theorem dX2_measureKey_11 : decode cX2_measureKey 11 = .ok (.ifCond .lt 39, 3) := by decide +kernel
theorem dX2_measureKey_14 : decode cX2_measureKey 14 = .ok (.aload_n 0, 1) := by decide +kernel
theorem dX2_measureKey_15 : decode cX2_measureKey 15 = .ok (.getfield 23, 3) := by decide +kernel
theorem dX2_measureKey_18 : decode cX2_measureKey 18 = .ok (.iload_n 2, 1) := by decide +kernel
theorem dX2_measureKey_19 : decode cX2_measureKey 19 = .ok (.invokevirtual 60, 3) := by decide +kernel
theorem dX2_measureKey_22 : decode cX2_measureKey 22 = .ok (.astore_n 3, 1) := by decide +kernel
theorem dX2_measureKey_23 : decode cX2_measureKey 23 = .ok (.aload_n 3, 1) := by decide +kernel
theorem dX2_measureKey_24 : decode cX2_measureKey 24 = .ok (.ifnull 20, 3) := by decide +kernel
theorem dX2_measureKey_27 : decode cX2_measureKey 27 = .ok (.aload_n 3, 1) := by decide +kernel
theorem dX2_measureKey_28 : decode cX2_measureKey 28 = .ok (.getfield 45, 3) := by decide +kernel
theorem dX2_measureKey_31 : decode cX2_measureKey 31 = .ok (.ifnonnull 7, 3) := by decide +kernel
theorem dX2_measureKey_34 : decode cX2_measureKey 34 = .ok (.iload_n 2, 1) := by decide +kernel
theorem dX2_measureKey_35 : decode cX2_measureKey 35 = .ok (.ifCond .ne 9, 3) := by decide +kernel
theorem dX2_measureKey_38 : decode cX2_measureKey 38 = .ok (.aload_n 0, 1) := by decide +kernel
theorem dX2_measureKey_39 : decode cX2_measureKey 39 = .ok (.aload_n 1, 1) := by decide +kernel
theorem dX2_measureKey_40 : decode cX2_measureKey 40 = .ok (.aload_n 3, 1) := by decide +kernel
theorem dX2_measureKey_41 : decode cX2_measureKey 41 = .ok (.invokevirtual 68, 3) := by decide +kernel
theorem dX2_measureKey_44 : decode cX2_measureKey 44 = .ok (.iinc 2 (-1), 3) := by decide +kernel
theorem dX2_measureKey_47 : decode cX2_measureKey 47 = .ok (.goto (-37), 3) := by decide +kernel
theorem dX2_measureKey_50 : decode cX2_measureKey 50 = .ok (.return_, 1) := by decide +kernel
theorem dX2_measureForests_0 : decode cX2_measureForests 0 = .ok (.aload_n 1, 1) := by decide +kernel
theorem dX2_measureForests_1 : decode cX2_measureForests 1 = .ok (.getfield 48, 3) := by decide +kernel
theorem dX2_measureForests_4 : decode cX2_measureForests 4 = .ok (.aload_n 1, 1) := by decide +kernel
theorem dX2_measureForests_5 : decode cX2_measureForests 5 = .ok (.getfield 52, 3) := by decide +kernel
theorem dX2_measureForests_8 : decode cX2_measureForests 8 = .ok (.iadd, 1) := by decide +kernel
theorem dX2_measureForests_9 : decode cX2_measureForests 9 = .ok (.iconst 1, 1) := by decide +kernel
theorem dX2_measureForests_10 : decode cX2_measureForests 10 = .ok (.iadd, 1) := by decide +kernel
theorem dX2_measureForests_11 : decode cX2_measureForests 11 = .ok (.istore_n 3, 1) := by decide +kernel
theorem dX2_measureForests_12 : decode cX2_measureForests 12 = .ok (.aload_n 2, 1) := by decide +kernel
theorem dX2_measureForests_13 : decode cX2_measureForests 13 = .ok (.getfield 48, 3) := by decide +kernel
theorem dX2_measureForests_16 : decode cX2_measureForests 16 = .ok (.aload_n 2, 1) := by decide +kernel
theorem dX2_measureForests_17 : decode cX2_measureForests 17 = .ok (.getfield 52, 3) := by decide +kernel
theorem dX2_measureForests_20 : decode cX2_measureForests 20 = .ok (.iadd, 1) := by decide +kernel
theorem dX2_measureForests_21 : decode cX2_measureForests 21 = .ok (.iconst 1, 1) := by decide +kernel
theorem dX2_measureForests_22 : decode cX2_measureForests 22 = .ok (.iadd, 1) := by decide +kernel
theorem dX2_measureForests_23 : decode cX2_measureForests 23 = .ok (.istore 4, 2) := by decide +kernel
theorem dX2_measureForests_25 : decode cX2_measureForests 25 = .ok (.iload_n 3, 1) := by decide +kernel
theorem dX2_measureForests_26 : decode cX2_measureForests 26 = .ok (.aload_n 0, 1) := by decide +kernel
theorem dX2_measureForests_27 : decode cX2_measureForests 27 = .ok (.getfield 19, 3) := by decide +kernel
theorem dX2_measureForests_30 : decode cX2_measureForests 30 = .ok (.getfield 55, 3) := by decide +kernel
theorem dX2_measureForests_33 : decode cX2_measureForests 33 = .ok (.if_icmp .gt 15, 3) := by decide +kernel
theorem dX2_measureForests_36 : decode cX2_measureForests 36 = .ok (.iload 4, 2) := by decide +kernel
theorem dX2_measureForests_38 : decode cX2_measureForests 38 = .ok (.aload_n 0, 1) := by decide +kernel
theorem dX2_measureForests_39 : decode cX2_measureForests 39 = .ok (.getfield 23, 3) := by decide +kernel
theorem dX2_measureForests_42 : decode cX2_measureForests 42 = .ok (.getfield 55, 3) := by decide +kernel
theorem dX2_measureForests_45 : decode cX2_measureForests 45 = .ok (.if_icmp .le 4, 3) := by decide +kernel
theorem dX2_measureForests_48 : decode cX2_measureForests 48 = .ok (.return_, 1) := by decide +kernel
theorem dX2_measureForests_49 : decode cX2_measureForests 49 = .ok (.aload_n 0, 1) := by decide +kernel
theorem dX2_measureForests_50 : decode cX2_measureForests 50 = .ok (.getfield 26, 3) := by decide +kernel
theorem dX2_measureForests_53 : decode cX2_measureForests 53 = .ok (.iload_n 3, 1) := by decide +kernel
theorem dX2_measureForests_54 : decode cX2_measureForests 54 = .ok (.bipush 61, 2) := by decide +kernel
theorem dX2_measureForests_56 : decode cX2_measureForests 56 = .ok (.imul, 1) := by decide +kernel
theorem dX2_measureForests_57 : decode cX2_measureForests 57 = .ok (.iload 4, 2) := by decide +kernel
theorem dX2_measureForests_59 : decode cX2_measureForests 59 = .ok (.iadd, 1) := by decide +kernel
theorem dX2_measureForests_60 : decode cX2_measureForests 60 = .ok (.iconst 0, 1) := by decide +kernel
theorem dX2_measureForests_61 : decode cX2_measureForests 61 = .ok (.iastore, 1) := by decide +kernel
theorem dX2_measureForests_62 : decode cX2_measureForests 62 = .ok (.iload 4, 2) := by decide +kernel
theorem dX2_measureForests_64 : decode cX2_measureForests 64 = .ok (.iconst 1, 1) := by decide +kernel
theorem dX2_measureForests_65 : decode cX2_measureForests 65 = .ok (.isub, 1) := by decide +kernel
theorem dX2_measureForests_66 : decode cX2_measureForests 66 = .ok (.istore 5, 2) := by decide +kernel
theorem dX2_measureForests_68 : decode cX2_measureForests 68 = .ok (.iload 5, 2) := by decide +kernel
theorem dX2_measureForests_70 : decode cX2_measureForests 70 = .ok (.aload_n 2, 1) := by decide +kernel
theorem dX2_measureForests_71 : decode cX2_measureForests 71 = .ok (.getfield 48, 3) := by decide +kernel
theorem dX2_measureForests_74 : decode cX2_measureForests 74 = .ok (.if_icmp .lt 28, 3) := by decide +kernel
theorem dX2_measureForests_77 : decode cX2_measureForests 77 = .ok (.aload_n 0, 1) := by decide +kernel
theorem dX2_measureForests_78 : decode cX2_measureForests 78 = .ok (.getfield 26, 3) := by decide +kernel
theorem dX2_measureForests_81 : decode cX2_measureForests 81 = .ok (.iload_n 3, 1) := by decide +kernel
theorem dX2_measureForests_82 : decode cX2_measureForests 82 = .ok (.bipush 61, 2) := by decide +kernel
theorem dX2_measureForests_84 : decode cX2_measureForests 84 = .ok (.imul, 1) := by decide +kernel
theorem dX2_measureForests_85 : decode cX2_measureForests 85 = .ok (.iload 5, 2) := by decide +kernel
theorem dX2_measureForests_87 : decode cX2_measureForests 87 = .ok (.iadd, 1) := by decide +kernel
theorem dX2_measureForests_88 : decode cX2_measureForests 88 = .ok (.iload 4, 2) := by decide +kernel
theorem dX2_measureForests_90 : decode cX2_measureForests 90 = .ok (.iload 5, 2) := by decide +kernel
theorem dX2_measureForests_92 : decode cX2_measureForests 92 = .ok (.isub, 1) := by decide +kernel
theorem dX2_measureForests_93 : decode cX2_measureForests 93 = .ok (.iconst 3, 1) := by decide +kernel
theorem dX2_measureForests_94 : decode cX2_measureForests 94 = .ok (.imul, 1) := by decide +kernel
theorem dX2_measureForests_95 : decode cX2_measureForests 95 = .ok (.iastore, 1) := by decide +kernel
theorem dX2_measureForests_96 : decode cX2_measureForests 96 = .ok (.iinc 5 (-1), 3) := by decide +kernel
theorem dX2_measureForests_99 : decode cX2_measureForests 99 = .ok (.goto (-31), 3) := by decide +kernel
theorem dX2_measureForests_102 : decode cX2_measureForests 102 = .ok (.iload_n 3, 1) := by decide +kernel
theorem dX2_measureForests_103 : decode cX2_measureForests 103 = .ok (.iconst 1, 1) := by decide +kernel
theorem dX2_measureForests_104 : decode cX2_measureForests 104 = .ok (.isub, 1) := by decide +kernel
theorem dX2_measureForests_105 : decode cX2_measureForests 105 = .ok (.istore 5, 2) := by decide +kernel
theorem dX2_measureForests_107 : decode cX2_measureForests 107 = .ok (.iload 5, 2) := by decide +kernel
theorem dX2_measureForests_109 : decode cX2_measureForests 109 = .ok (.aload_n 1, 1) := by decide +kernel
theorem dX2_measureForests_110 : decode cX2_measureForests 110 = .ok (.getfield 48, 3) := by decide +kernel
theorem dX2_measureForests_113 : decode cX2_measureForests 113 = .ok (.if_icmp .lt 273, 3) := by decide +kernel
theorem dX2_measureForests_116 : decode cX2_measureForests 116 = .ok (.aload_n 0, 1) := by decide +kernel
theorem dX2_measureForests_117 : decode cX2_measureForests 117 = .ok (.getfield 26, 3) := by decide +kernel
theorem dX2_measureForests_120 : decode cX2_measureForests 120 = .ok (.iload 5, 2) := by decide +kernel
theorem dX2_measureForests_122 : decode cX2_measureForests 122 = .ok (.bipush 61, 2) := by decide +kernel
theorem dX2_measureForests_124 : decode cX2_measureForests 124 = .ok (.imul, 1) := by decide +kernel
theorem dX2_measureForests_125 : decode cX2_measureForests 125 = .ok (.iload 4, 2) := by decide +kernel
theorem dX2_measureForests_127 : decode cX2_measureForests 127 = .ok (.iadd, 1) := by decide +kernel
theorem dX2_measureForests_128 : decode cX2_measureForests 128 = .ok (.iload_n 3, 1) := by decide +kernel
theorem dX2_measureForests_129 : decode cX2_measureForests 129 = .ok (.iload 5, 2) := by decide +kernel
theorem dX2_measureForests_131 : decode cX2_measureForests 131 = .ok (.isub, 1) := by decide +kernel
theorem dX2_measureForests_132 : decode cX2_measureForests 132 = .ok (.iconst 3, 1) := by decide +kernel
theorem dX2_measureForests_133 : decode cX2_measureForests 133 = .ok (.imul, 1) := by decide +kernel
theorem dX2_measureForests_134 : decode cX2_measureForests 134 = .ok (.iastore, 1) := by decide +kernel
theorem dX2_measureForests_135 : decode cX2_measureForests 135 = .ok (.aload_n 0, 1) := by decide +kernel
theorem dX2_measureForests_136 : decode cX2_measureForests 136 = .ok (.getfield 19, 3) := by decide +kernel
theorem dX2_measureForests_139 : decode cX2_measureForests 139 = .ok (.iload 5, 2) := by decide +kernel
theorem dX2_measureForests_141 : decode cX2_measureForests 141 = .ok (.invokevirtual 60, 3) := by decide +kernel
theorem dX2_measureForests_144 : decode cX2_measureForests 144 = .ok (.astore 6, 2) := by decide +kernel
theorem dX2_measureForests_146 : decode cX2_measureForests 146 = .ok (.aload 6, 2) := by decide +kernel
theorem dX2_measureForests_148 : decode cX2_measureForests 148 = .ok (.ifnull 15, 3) := by decide +kernel
theorem dX2_measureForests_151 : decode cX2_measureForests 151 = .ok (.iload 5, 2) := by decide +kernel
theorem dX2_measureForests_153 : decode cX2_measureForests 153 = .ok (.aload 6, 2) := by decide +kernel
theorem dX2_measureForests_155 : decode cX2_measureForests 155 = .ok (.getfield 52, 3) := by decide +kernel
theorem dX2_measureForests_158 : decode cX2_measureForests 158 = .ok (.iadd, 1) := by decide +kernel
theorem dX2_measureForests_159 : decode cX2_measureForests 159 = .ok (.iload_n 3, 1) := by decide +kernel
theorem dX2_measureForests_160 : decode cX2_measureForests 160 = .ok (.if_icmp .lt 4, 3) := by decide +kernel
theorem dX2_measureForests_163 : decode cX2_measureForests 163 = .ok (.return_, 1) := by decide +kernel
theorem dX2_measureForests_164 : decode cX2_measureForests 164 = .ok (.iload 5, 2) := by decide +kernel
theorem dX2_measureForests_166 : decode cX2_measureForests 166 = .ok (.aload 6, 2) := by decide +kernel
theorem dX2_measureForests_168 : decode cX2_measureForests 168 = .ok (.getfield 52, 3) := by decide +kernel
theorem dX2_measureForests_171 : decode cX2_measureForests 171 = .ok (.iadd, 1) := by decide +kernel
theorem dX2_measureForests_172 : decode cX2_measureForests 172 = .ok (.iconst 1, 1) := by decide +kernel
theorem dX2_measureForests_173 : decode cX2_measureForests 173 = .ok (.iadd, 1) := by decide +kernel
theorem dX2_measureForests_174 : decode cX2_measureForests 174 = .ok (.istore 7, 2) := by decide +kernel
theorem dX2_measureForests_176 : decode cX2_measureForests 176 = .ok (.iload 4, 2) := by decide +kernel
theorem dX2_measureForests_178 : decode cX2_measureForests 178 = .ok (.iconst 1, 1) := by decide +kernel
theorem dX2_measureForests_179 : decode cX2_measureForests 179 = .ok (.isub, 1) := by decide +kernel
theorem dX2_measureForests_180 : decode cX2_measureForests 180 = .ok (.istore 8, 2) := by decide +kernel
theorem dX2_measureForests_182 : decode cX2_measureForests 182 = .ok (.iload 8, 2) := by decide +kernel
theorem dX2_measureForests_184 : decode cX2_measureForests 184 = .ok (.aload_n 2, 1) := by decide +kernel
theorem dX2_measureForests_185 : decode cX2_measureForests 185 = .ok (.getfield 48, 3) := by decide +kernel
theorem dX2_measureForests_188 : decode cX2_measureForests 188 = .ok (.if_icmp .lt 192, 3) := by decide +kernel
theorem dX2_measureForests_191 : decode cX2_measureForests 191 = .ok (.aload_n 0, 1) := by decide +kernel
theorem dX2_measureForests_192 : decode cX2_measureForests 192 = .ok (.getfield 23, 3) := by decide +kernel
theorem dX2_measureForests_195 : decode cX2_measureForests 195 = .ok (.iload 8, 2) := by decide +kernel
theorem dX2_measureForests_197 : decode cX2_measureForests 197 = .ok (.invokevirtual 60, 3) := by decide +kernel
theorem dX2_measureForests_200 : decode cX2_measureForests 200 = .ok (.astore 9, 2) := by decide +kernel
theorem dX2_measureForests_202 : decode cX2_measureForests 202 = .ok (.aload 9, 2) := by decide +kernel
theorem dX2_measureForests_204 : decode cX2_measureForests 204 = .ok (.ifnull 16, 3) := by decide +kernel
theorem dX2_measureForests_207 : decode cX2_measureForests 207 = .ok (.iload 8, 2) := by decide +kernel
theorem dX2_measureForests_209 : decode cX2_measureForests 209 = .ok (.aload 9, 2) := by decide +kernel
theorem dX2_measureForests_211 : decode cX2_measureForests 211 = .ok (.getfield 52, 3) := by decide +kernel
theorem dX2_measureForests_214 : decode cX2_measureForests 214 = .ok (.iadd, 1) := by decide +kernel
theorem dX2_measureForests_215 : decode cX2_measureForests 215 = .ok (.iload 4, 2) := by decide +kernel
theorem dX2_measureForests_217 : decode cX2_measureForests 217 = .ok (.if_icmp .lt 4, 3) := by decide +kernel
theorem dX2_measureForests_220 : decode cX2_measureForests 220 = .ok (.return_, 1) := by decide +kernel
theorem dX2_measureForests_221 : decode cX2_measureForests 221 = .ok (.iload 8, 2) := by decide +kernel
theorem dX2_measureForests_223 : decode cX2_measureForests 223 = .ok (.aload 9, 2) := by decide +kernel
theorem dX2_measureForests_225 : decode cX2_measureForests 225 = .ok (.getfield 52, 3) := by decide +kernel
theorem dX2_measureForests_228 : decode cX2_measureForests 228 = .ok (.iadd, 1) := by decide +kernel
theorem dX2_measureForests_229 : decode cX2_measureForests 229 = .ok (.iconst 1, 1) := by decide +kernel
theorem dX2_measureForests_230 : decode cX2_measureForests 230 = .ok (.iadd, 1) := by decide +kernel
theorem dX2_measureForests_231 : decode cX2_measureForests 231 = .ok (.istore 10, 2) := by decide +kernel
theorem dX2_measureForests_233 : decode cX2_measureForests 233 = .ok (.iload 5, 2) := by decide +kernel
theorem dX2_measureForests_235 : decode cX2_measureForests 235 = .ok (.bipush 61, 2) := by decide +kernel
theorem dX2_measureForests_237 : decode cX2_measureForests 237 = .ok (.imul, 1) := by decide +kernel
theorem dX2_measureForests_238 : decode cX2_measureForests 238 = .ok (.iload 8, 2) := by decide +kernel
theorem dX2_measureForests_240 : decode cX2_measureForests 240 = .ok (.iadd, 1) := by decide +kernel
theorem dX2_measureForests_241 : decode cX2_measureForests 241 = .ok (.istore 11, 2) := by decide +kernel
theorem dX2_measureForests_243 : decode cX2_measureForests 243 = .ok (.aload_n 0, 1) := by decide +kernel
theorem dX2_measureForests_244 : decode cX2_measureForests 244 = .ok (.getfield 26, 3) := by decide +kernel
theorem dX2_measureForests_247 : decode cX2_measureForests 247 = .ok (.iload 11, 2) := by decide +kernel
theorem dX2_measureForests_249 : decode cX2_measureForests 249 = .ok (.bipush 61, 2) := by decide +kernel
theorem dX2_measureForests_251 : decode cX2_measureForests 251 = .ok (.iadd, 1) := by decide +kernel
theorem dX2_measureForests_252 : decode cX2_measureForests 252 = .ok (.iaload, 1) := by decide +kernel
theorem dX2_measureForests_253 : decode cX2_measureForests 253 = .ok (.aload_n 0, 1) := by decide +kernel
theorem dX2_measureForests_254 : decode cX2_measureForests 254 = .ok (.getfield 26, 3) := by decide +kernel
theorem dX2_measureForests_257 : decode cX2_measureForests 257 = .ok (.iload 11, 2) := by decide +kernel
theorem dX2_measureForests_259 : decode cX2_measureForests 259 = .ok (.iconst 1, 1) := by decide +kernel
theorem dX2_measureForests_260 : decode cX2_measureForests 260 = .ok (.iadd, 1) := by decide +kernel
theorem dX2_measureForests_261 : decode cX2_measureForests 261 = .ok (.iaload, 1) := by decide +kernel
theorem dX2_measureForests_262 : decode cX2_measureForests 262 = .ok (.invokestatic 72, 3) := by decide +kernel
theorem dX2_measureForests_265 : decode cX2_measureForests 265 = .ok (.iconst 3, 1) := by decide +kernel
theorem dX2_measureForests_266 : decode cX2_measureForests 266 = .ok (.iadd, 1) := by decide +kernel
theorem dX2_measureForests_267 : decode cX2_measureForests 267 = .ok (.istore 12, 2) := by decide +kernel
theorem dX2_measureForests_269 : decode cX2_measureForests 269 = .ok (.iload 7, 2) := by decide +kernel
theorem dX2_measureForests_271 : decode cX2_measureForests 271 = .ok (.iload_n 3, 1) := by decide +kernel
theorem dX2_measureForests_272 : decode cX2_measureForests 272 = .ok (.if_icmp .ne 55, 3) := by decide +kernel
theorem dX2_measureForests_275 : decode cX2_measureForests 275 = .ok (.iload 10, 2) := by decide +kernel
theorem dX2_measureForests_277 : decode cX2_measureForests 277 = .ok (.iload 4, 2) := by decide +kernel
theorem dX2_measureForests_279 : decode cX2_measureForests 279 = .ok (.if_icmp .ne 48, 3) := by decide +kernel
theorem dX2_measureForests_282 : decode cX2_measureForests 282 = .ok (.iload 12, 2) := by decide +kernel
theorem dX2_measureForests_284 : decode cX2_measureForests 284 = .ok (.aload_n 0, 1) := by decide +kernel
theorem dX2_measureForests_285 : decode cX2_measureForests 285 = .ok (.getfield 26, 3) := by decide +kernel
theorem dX2_measureForests_288 : decode cX2_measureForests 288 = .ok (.iload 11, 2) := by decide +kernel
theorem dX2_measureForests_290 : decode cX2_measureForests 290 = .ok (.bipush 61, 2) := by decide +kernel
theorem dX2_measureForests_292 : decode cX2_measureForests 292 = .ok (.iadd, 1) := by decide +kernel
theorem dX2_measureForests_293 : decode cX2_measureForests 293 = .ok (.iconst 1, 1) := by decide +kernel
theorem dX2_measureForests_294 : decode cX2_measureForests 294 = .ok (.iadd, 1) := by decide +kernel
theorem dX2_measureForests_295 : decode cX2_measureForests 295 = .ok (.iaload, 1) := by decide +kernel
theorem dX2_measureForests_296 : decode cX2_measureForests 296 = .ok (.aload 6, 2) := by decide +kernel
theorem dX2_measureForests_298 : decode cX2_measureForests 298 = .ok (.aload 9, 2) := by decide +kernel
theorem dX2_measureForests_300 : decode cX2_measureForests 300 = .ok (.invokestatic 78, 3) := by decide +kernel
theorem dX2_measureForests_303 : decode cX2_measureForests 303 = .ok (.iadd, 1) := by decide +kernel
theorem dX2_measureForests_304 : decode cX2_measureForests 304 = .ok (.invokestatic 72, 3) := by decide +kernel
theorem dX2_measureForests_307 : decode cX2_measureForests 307 = .ok (.istore 12, 2) := by decide +kernel
theorem dX2_measureForests_309 : decode cX2_measureForests 309 = .ok (.aload_n 0, 1) := by decide +kernel
theorem dX2_measureForests_310 : decode cX2_measureForests 310 = .ok (.getfield 9, 3) := by decide +kernel
theorem dX2_measureForests_313 : decode cX2_measureForests 313 = .ok (.iload 5, 2) := by decide +kernel
theorem dX2_measureForests_315 : decode cX2_measureForests 315 = .ok (.bipush 60, 2) := by decide +kernel
theorem dX2_measureForests_317 : decode cX2_measureForests 317 = .ok (.imul, 1) := by decide +kernel
theorem dX2_measureForests_318 : decode cX2_measureForests 318 = .ok (.iload 8, 2) := by decide +kernel
theorem dX2_measureForests_320 : decode cX2_measureForests 320 = .ok (.iadd, 1) := by decide +kernel
theorem dX2_measureForests_321 : decode cX2_measureForests 321 = .ok (.iload 12, 2) := by decide +kernel
theorem dX2_measureForests_323 : decode cX2_measureForests 323 = .ok (.iastore, 1) := by decide +kernel
theorem dX2_measureForests_324 : decode cX2_measureForests 324 = .ok (.goto 41, 3) := by decide +kernel
theorem dX2_measureForests_327 : decode cX2_measureForests 327 = .ok (.aload_n 0, 1) := by decide +kernel
theorem dX2_measureForests_328 : decode cX2_measureForests 328 = .ok (.getfield 26, 3) := by decide +kernel
theorem dX2_measureForests_331 : decode cX2_measureForests 331 = .ok (.iload 7, 2) := by decide +kernel
theorem dX2_measureForests_333 : decode cX2_measureForests 333 = .ok (.bipush 61, 2) := by decide +kernel
theorem dX2_measureForests_335 : decode cX2_measureForests 335 = .ok (.imul, 1) := by decide +kernel
theorem dX2_measureForests_336 : decode cX2_measureForests 336 = .ok (.iload 10, 2) := by decide +kernel
theorem dX2_measureForests_338 : decode cX2_measureForests 338 = .ok (.iadd, 1) := by decide +kernel
theorem dX2_measureForests_339 : decode cX2_measureForests 339 = .ok (.iaload, 1) := by decide +kernel
theorem dX2_measureForests_340 : decode cX2_measureForests 340 = .ok (.aload_n 0, 1) := by decide +kernel
theorem dX2_measureForests_341 : decode cX2_measureForests 341 = .ok (.getfield 9, 3) := by decide +kernel
theorem dX2_measureForests_344 : decode cX2_measureForests 344 = .ok (.iload 5, 2) := by decide +kernel
theorem dX2_measureForests_346 : decode cX2_measureForests 346 = .ok (.bipush 60, 2) := by decide +kernel
theorem dX2_measureForests_348 : decode cX2_measureForests 348 = .ok (.imul, 1) := by decide +kernel
theorem dX2_measureForests_349 : decode cX2_measureForests 349 = .ok (.iload 8, 2) := by decide +kernel
theorem dX2_measureForests_351 : decode cX2_measureForests 351 = .ok (.iadd, 1) := by decide +kernel
theorem dX2_measureForests_352 : decode cX2_measureForests 352 = .ok (.iaload, 1) := by decide +kernel
theorem dX2_measureForests_353 : decode cX2_measureForests 353 = .ok (.iadd, 1) := by decide +kernel
theorem dX2_measureForests_354 : decode cX2_measureForests 354 = .ok (.istore 13, 2) := by decide +kernel
theorem dX2_measureForests_356 : decode cX2_measureForests 356 = .ok (.iload 12, 2) := by decide +kernel
theorem dX2_measureForests_358 : decode cX2_measureForests 358 = .ok (.iload 13, 2) := by decide +kernel
theorem dX2_measureForests_360 : decode cX2_measureForests 360 = .ok (.invokestatic 72, 3) := by decide +kernel
theorem dX2_measureForests_363 : decode cX2_measureForests 363 = .ok (.istore 12, 2) := by decide +kernel
theorem dX2_measureForests_365 : decode cX2_measureForests 365 = .ok (.aload_n 0, 1) := by decide +kernel
theorem dX2_measureForests_366 : decode cX2_measureForests 366 = .ok (.getfield 26, 3) := by decide +kernel
theorem dX2_measureForests_369 : decode cX2_measureForests 369 = .ok (.iload 11, 2) := by decide +kernel
theorem dX2_measureForests_371 : decode cX2_measureForests 371 = .ok (.iload 12, 2) := by decide +kernel
theorem dX2_measureForests_373 : decode cX2_measureForests 373 = .ok (.iastore, 1) := by decide +kernel
theorem dX2_measureForests_374 : decode cX2_measureForests 374 = .ok (.iinc 8 (-1), 3) := by decide +kernel
theorem dX2_measureForests_377 : decode cX2_measureForests 377 = .ok (.goto (-195), 3) := by decide +kernel
theorem dX2_measureForests_380 : decode cX2_measureForests 380 = .ok (.iinc 5 (-1), 3) := by decide +kernel
theorem dX2_measureForests_383 : decode cX2_measureForests 383 = .ok (.goto (-276), 3) := by decide +kernel
theorem dX2_measureForests_386 : decode cX2_measureForests 386 = .ok (.return_, 1) := by decide +kernel
theorem dX2_change_0 : decode cX2_change 0 = .ok (.aload_n 0, 1) := by decide +kernel
theorem dX2_change_1 : decode cX2_change 1 = .ok (.getfield 81, 3) := by decide +kernel
theorem dX2_change_4 : decode cX2_change 4 = .ok (.aload_n 1, 1) := by decide +kernel
theorem dX2_change_5 : decode cX2_change 5 = .ok (.getfield 81, 3) := by decide +kernel
theorem dX2_change_8 : decode cX2_change 8 = .ok (.lcmp, 1) := by decide +kernel
theorem dX2_change_9 : decode cX2_change 9 = .ok (.ifCond .ne 7, 3) := by decide +kernel
theorem dX2_change_12 : decode cX2_change 12 = .ok (.iconst 0, 1) := by decide +kernel
theorem dX2_change_13 : decode cX2_change 13 = .ok (.goto 4, 3) := by decide +kernel
theorem dX2_change_16 : decode cX2_change 16 = .ok (.iconst 4, 1) := by decide +kernel
theorem dX2_change_17 : decode cX2_change 17 = .ok (.aload_n 0, 1) := by decide +kernel
theorem dX2_change_18 : decode cX2_change 18 = .ok (.getfield 85, 3) := by decide +kernel
theorem dX2_change_21 : decode cX2_change 21 = .ok (.aload_n 1, 1) := by decide +kernel
theorem dX2_change_22 : decode cX2_change 22 = .ok (.getfield 85, 3) := by decide +kernel
theorem dX2_change_25 : decode cX2_change 25 = .ok (.lcmp, 1) := by decide +kernel
theorem dX2_change_26 : decode cX2_change 26 = .ok (.ifCond .ne 7, 3) := by decide +kernel
theorem dX2_change_29 : decode cX2_change 29 = .ok (.iconst 0, 1) := by decide +kernel
theorem dX2_change_30 : decode cX2_change 30 = .ok (.goto 4, 3) := by decide +kernel
theorem dX2_change_33 : decode cX2_change 33 = .ok (.iconst 2, 1) := by decide +kernel
theorem dX2_change_34 : decode cX2_change 34 = .ok (.iadd, 1) := by decide +kernel
theorem dX2_change_35 : decode cX2_change 35 = .ok (.aload_n 0, 1) := by decide +kernel
theorem dX2_change_36 : decode cX2_change 36 = .ok (.aload_n 1, 1) := by decide +kernel
theorem dX2_change_37 : decode cX2_change 37 = .ok (.invokevirtual 88, 3) := by decide +kernel
theorem dX2_change_40 : decode cX2_change 40 = .ok (.ifCond .eq 7, 3) := by decide +kernel
theorem dX2_change_43 : decode cX2_change 43 = .ok (.iconst 0, 1) := by decide +kernel
theorem dX2_change_44 : decode cX2_change 44 = .ok (.goto 4, 3) := by decide +kernel
theorem dX2_change_47 : decode cX2_change 47 = .ok (.iconst 1, 1) := by decide +kernel
theorem dX2_change_48 : decode cX2_change 48 = .ok (.iadd, 1) := by decide +kernel
theorem dX2_change_49 : decode cX2_change 49 = .ok (.ireturn, 1) := by decide +kernel
theorem dX2_changeAlone_0 : decode cX2_changeAlone 0 = .ok (.aload_n 0, 1) := by decide +kernel
theorem dX2_changeAlone_1 : decode cX2_changeAlone 1 = .ok (.ifnull 7, 3) := by decide +kernel
theorem dX2_changeAlone_4 : decode cX2_changeAlone 4 = .ok (.aload_n 1, 1) := by decide +kernel
theorem dX2_changeAlone_5 : decode cX2_changeAlone 5 = .ok (.ifnonnull 14, 3) := by decide +kernel
theorem dX2_changeAlone_8 : decode cX2_changeAlone 8 = .ok (.aload_n 0, 1) := by decide +kernel
theorem dX2_changeAlone_9 : decode cX2_changeAlone 9 = .ok (.aload_n 1, 1) := by decide +kernel
theorem dX2_changeAlone_10 : decode cX2_changeAlone 10 = .ok (.if_acmp .ne 7, 3) := by decide +kernel
theorem dX2_changeAlone_13 : decode cX2_changeAlone 13 = .ok (.iconst 0, 1) := by decide +kernel
theorem dX2_changeAlone_14 : decode cX2_changeAlone 14 = .ok (.goto 4, 3) := by decide +kernel
theorem dX2_changeAlone_17 : decode cX2_changeAlone 17 = .ok (.iconst 3, 1) := by decide +kernel
theorem dX2_changeAlone_18 : decode cX2_changeAlone 18 = .ok (.ireturn, 1) := by decide +kernel
theorem dX2_changeAlone_19 : decode cX2_changeAlone 19 = .ok (.aload_n 0, 1) := by decide +kernel
theorem dX2_changeAlone_20 : decode cX2_changeAlone 20 = .ok (.aload_n 1, 1) := by decide +kernel
theorem dX2_changeAlone_21 : decode cX2_changeAlone 21 = .ok (.invokestatic 78, 3) := by decide +kernel
theorem dX2_changeAlone_24 : decode cX2_changeAlone 24 = .ok (.ireturn, 1) := by decide +kernel
theorem dX3_init_0 : decode cX3_init 0 = .ok (.aload_n 0, 1) := by decide +kernel
theorem dX3_init_1 : decode cX3_init 1 = .ok (.invokespecial 3, 3) := by decide +kernel
theorem dX3_init_4 : decode cX3_init 4 = .ok (.aload_n 0, 1) := by decide +kernel
theorem dX3_init_5 : decode cX3_init 5 = .ok (.aload_n 1, 1) := by decide +kernel
theorem dX3_init_6 : decode cX3_init 6 = .ok (.putfield 9, 3) := by decide +kernel
theorem dX3_init_9 : decode cX3_init 9 = .ok (.aload_n 0, 1) := by decide +kernel
theorem dX3_init_10 : decode cX3_init 10 = .ok (.iload_n 2, 1) := by decide +kernel
theorem dX3_init_11 : decode cX3_init 11 = .ok (.putfield 15, 3) := by decide +kernel
theorem dX3_init_14 : decode cX3_init 14 = .ok (.aload_n 0, 1) := by decide +kernel
theorem dX3_init_15 : decode cX3_init 15 = .ok (.iload_n 3, 1) := by decide +kernel
theorem dX3_init_16 : decode cX3_init 16 = .ok (.putfield 19, 3) := by decide +kernel
theorem dX3_init_19 : decode cX3_init 19 = .ok (.aload_n 0, 1) := by decide +kernel
theorem dX3_init_20 : decode cX3_init 20 = .ok (.iload 4, 2) := by decide +kernel
theorem dX3_init_22 : decode cX3_init 22 = .ok (.putfield 22, 3) := by decide +kernel
theorem dX3_init_25 : decode cX3_init 25 = .ok (.return_, 1) := by decide +kernel
theorem dX3_of_0 : decode cX3_of 0 = .ok (.aload_n 0, 1) := by decide +kernel
theorem dX3_of_1 : decode cX3_of 1 = .ok (.getfield 25, 3) := by decide +kernel
theorem dX3_of_4 : decode cX3_of 4 = .ok (.aload_n 1, 1) := by decide +kernel
theorem dX3_of_5 : decode cX3_of 5 = .ok (.getfield 25, 3) := by decide +kernel
theorem dX3_of_8 : decode cX3_of 8 = .ok (.if_icmp .eq 5, 3) := by decide +kernel
theorem dX3_of_11 : decode cX3_of 11 = .ok (.aconst_null, 1) := by decide +kernel
theorem dX3_of_12 : decode cX3_of 12 = .ok (.areturn, 1) := by decide +kernel
theorem dX3_of_13 : decode cX3_of 13 = .ok (.aconst_null, 1) := by decide +kernel
theorem dX3_of_14 : decode cX3_of 14 = .ok (.astore_n 2, 1) := by decide +kernel
theorem dX3_of_15 : decode cX3_of 15 = .ok (.aconst_null, 1) := by decide +kernel
theorem dX3_of_16 : decode cX3_of 16 = .ok (.astore_n 3, 1) := by decide +kernel
theorem dX3_of_17 : decode cX3_of 17 = .ok (.aload_n 0, 1) := by decide +kernel
theorem dX3_of_18 : decode cX3_of 18 = .ok (.astore 4, 2) := by decide +kernel
theorem dX3_of_20 : decode cX3_of 20 = .ok (.aload_n 1, 1) := by decide +kernel
theorem dX3_of_21 : decode cX3_of 21 = .ok (.astore 5, 2) := by decide +kernel
theorem dX3_of_23 : decode cX3_of 23 = .ok (.aload 4, 2) := by decide +kernel
theorem dX3_of_25 : decode cX3_of 25 = .ok (.ifnull 81, 3) := by decide +kernel
theorem dX3_of_28 : decode cX3_of 28 = .ok (.aload 5, 2) := by decide +kernel
theorem dX3_of_30 : decode cX3_of 30 = .ok (.ifnull 76, 3) := by decide +kernel
theorem dX3_of_33 : decode cX3_of 33 = .ok (.aload 4, 2) := by decide +kernel
theorem dX3_of_35 : decode cX3_of 35 = .ok (.getfield 30, 3) := by decide +kernel
theorem dX3_of_38 : decode cX3_of 38 = .ok (.aload 5, 2) := by decide +kernel
theorem dX3_of_40 : decode cX3_of 40 = .ok (.getfield 30, 3) := by decide +kernel
theorem dX3_of_43 : decode cX3_of 43 = .ok (.if_icmp .eq 7, 3) := by decide +kernel
theorem dX3_of_46 : decode cX3_of 46 = .ok (.iconst 1, 1) := by decide +kernel
theorem dX3_of_47 : decode cX3_of 47 = .ok (.goto 4, 3) := by decide +kernel
theorem dX3_of_50 : decode cX3_of 50 = .ok (.iconst 0, 1) := by decide +kernel
theorem dX3_of_51 : decode cX3_of 51 = .ok (.istore 6, 2) := by decide +kernel
theorem dX3_of_53 : decode cX3_of 53 = .ok (.aload 4, 2) := by decide +kernel
theorem dX3_of_55 : decode cX3_of 55 = .ok (.getfield 33, 3) := by decide +kernel
theorem dX3_of_58 : decode cX3_of 58 = .ok (.aload 5, 2) := by decide +kernel
theorem dX3_of_60 : decode cX3_of 60 = .ok (.getfield 33, 3) := by decide +kernel
theorem dX3_of_63 : decode cX3_of 63 = .ok (.lcmp, 1) := by decide +kernel
theorem dX3_of_64 : decode cX3_of 64 = .ok (.ifCond .ne 12, 3) := by decide +kernel
theorem dX3_of_67 : decode cX3_of 67 = .ok (.iload 6, 2) := by decide +kernel
theorem dX3_of_69 : decode cX3_of 69 = .ok (.ifCond .eq 9, 3) := by decide +kernel
theorem dX3_of_72 : decode cX3_of 72 = .ok (.aload_n 2, 1) := by decide +kernel
theorem dX3_of_73 : decode cX3_of 73 = .ok (.ifnull 5, 3) := by decide +kernel
theorem dX3_of_76 : decode cX3_of 76 = .ok (.aconst_null, 1) := by decide +kernel
theorem dX3_of_77 : decode cX3_of 77 = .ok (.areturn, 1) := by decide +kernel
theorem dX3_of_78 : decode cX3_of 78 = .ok (.iload 6, 2) := by decide +kernel
theorem dX3_of_80 : decode cX3_of 80 = .ok (.ifCond .eq 9, 3) := by decide +kernel
theorem dX3_of_83 : decode cX3_of 83 = .ok (.aload 4, 2) := by decide +kernel
theorem dX3_of_85 : decode cX3_of 85 = .ok (.astore_n 2, 1) := by decide +kernel
theorem dX3_of_86 : decode cX3_of 86 = .ok (.aload 5, 2) := by decide +kernel
theorem dX3_of_88 : decode cX3_of 88 = .ok (.astore_n 3, 1) := by decide +kernel
theorem dX3_of_89 : decode cX3_of 89 = .ok (.aload 4, 2) := by decide +kernel
theorem dX3_of_91 : decode cX3_of 91 = .ok (.getfield 37, 3) := by decide +kernel
theorem dX3_of_94 : decode cX3_of 94 = .ok (.astore 4, 2) := by decide +kernel
theorem dX3_of_96 : decode cX3_of 96 = .ok (.aload 5, 2) := by decide +kernel
theorem dX3_of_98 : decode cX3_of 98 = .ok (.getfield 37, 3) := by decide +kernel
theorem dX3_of_101 : decode cX3_of 101 = .ok (.astore 5, 2) := by decide +kernel
theorem dX3_of_103 : decode cX3_of 103 = .ok (.goto (-80), 3) := by decide +kernel
theorem dX3_of_106 : decode cX3_of 106 = .ok (.aload_n 2, 1) := by decide +kernel
theorem dX3_of_107 : decode cX3_of 107 = .ok (.ifnull 7, 3) := by decide +kernel
theorem dX3_of_110 : decode cX3_of 110 = .ok (.aload_n 3, 1) := by decide +kernel
theorem dX3_of_111 : decode cX3_of 111 = .ok (.ifnonnull 5, 3) := by decide +kernel
theorem dX3_of_114 : decode cX3_of 114 = .ok (.aconst_null, 1) := by decide +kernel
theorem dX3_of_115 : decode cX3_of 115 = .ok (.areturn, 1) := by decide +kernel
theorem dX3_of_116 : decode cX3_of 116 = .ok (.aload_n 2, 1) := by decide +kernel
theorem dX3_of_117 : decode cX3_of 117 = .ok (.getfield 30, 3) := by decide +kernel
theorem dX3_of_120 : decode cX3_of 120 = .ok (.aload_n 3, 1) := by decide +kernel
theorem dX3_of_121 : decode cX3_of 121 = .ok (.getfield 30, 3) := by decide +kernel
theorem dX3_of_124 : decode cX3_of 124 = .ok (.invokestatic 40, 3) := by decide +kernel
theorem dX3_of_127 : decode cX3_of 127 = .ok (.istore 6, 2) := by decide +kernel
theorem dX3_of_129 : decode cX3_of 129 = .ok (.new 10, 3) := by decide +kernel
theorem dX3_of_132 : decode cX3_of 132 = .ok (.dup, 1) := by decide +kernel
theorem dX3_of_133 : decode cX3_of 133 = .ok (.aload_n 0, 1) := by decide +kernel
theorem dX3_of_134 : decode cX3_of 134 = .ok (.aload_n 2, 1) := by decide +kernel
theorem dX3_of_135 : decode cX3_of 135 = .ok (.getfield 25, 3) := by decide +kernel
theorem dX3_of_138 : decode cX3_of 138 = .ok (.iload 6, 2) := by decide +kernel
theorem dX3_of_140 : decode cX3_of 140 = .ok (.aload_n 2, 1) := by decide +kernel
theorem dX3_of_141 : decode cX3_of 141 = .ok (.getfield 30, 3) := by decide +kernel
theorem dX3_of_144 : decode cX3_of 144 = .ok (.aload_n 3, 1) := by decide +kernel
theorem dX3_of_145 : decode cX3_of 145 = .ok (.getfield 30, 3) := by decide +kernel
theorem dX3_of_148 : decode cX3_of 148 = .ok (.isub, 1) := by decide +kernel
theorem dX3_of_149 : decode cX3_of 149 = .ok (.invokestatic 46, 3) := by decide +kernel
theorem dX3_of_152 : decode cX3_of 152 = .ok (.invokespecial 50, 3) := by decide +kernel
theorem dX3_of_155 : decode cX3_of 155 = .ok (.areturn, 1) := by decide +kernel
theorem dX3_stepOn_0 : decode cX3_stepOn 0 = .ok (.aload_n 0, 1) := by decide +kernel
theorem dX3_stepOn_1 : decode cX3_stepOn 1 = .ok (.getfield 19, 3) := by decide +kernel
theorem dX3_stepOn_4 : decode cX3_stepOn 4 = .ok (.iload_n 2, 1) := by decide +kernel
theorem dX3_stepOn_5 : decode cX3_stepOn 5 = .ok (.aload_n 0, 1) := by decide +kernel
theorem dX3_stepOn_6 : decode cX3_stepOn 6 = .ok (.getfield 22, 3) := by decide +kernel
theorem dX3_stepOn_9 : decode cX3_stepOn 9 = .ok (.imul, 1) := by decide +kernel
theorem dX3_stepOn_10 : decode cX3_stepOn 10 = .ok (.iadd, 1) := by decide +kernel
theorem dX3_stepOn_11 : decode cX3_stepOn 11 = .ok (.istore_n 3, 1) := by decide +kernel
theorem dX3_stepOn_12 : decode cX3_stepOn 12 = .ok (.iconst 0, 1) := by decide +kernel
theorem dX3_stepOn_13 : decode cX3_stepOn 13 = .ok (.istore 4, 2) := by decide +kernel
theorem dX3_stepOn_15 : decode cX3_stepOn 15 = .ok (.iload 4, 2) := by decide +kernel
theorem dX3_stepOn_17 : decode cX3_stepOn 17 = .ok (.aload_n 1, 1) := by decide +kernel
theorem dX3_stepOn_18 : decode cX3_stepOn 18 = .ok (.getfield 53, 3) := by decide +kernel
theorem dX3_stepOn_21 : decode cX3_stepOn 21 = .ok (.if_icmp .ge 42, 3) := by decide +kernel
theorem dX3_stepOn_24 : decode cX3_stepOn 24 = .ok (.aload_n 1, 1) := by decide +kernel
theorem dX3_stepOn_25 : decode cX3_stepOn 25 = .ok (.iload 4, 2) := by decide +kernel
theorem dX3_stepOn_27 : decode cX3_stepOn 27 = .ok (.invokevirtual 58, 3) := by decide +kernel
theorem dX3_stepOn_30 : decode cX3_stepOn 30 = .ok (.astore 5, 2) := by decide +kernel
theorem dX3_stepOn_32 : decode cX3_stepOn 32 = .ok (.aload 5, 2) := by decide +kernel
theorem dX3_stepOn_34 : decode cX3_stepOn 34 = .ok (.ifnull 23, 3) := by decide +kernel
theorem dX3_stepOn_37 : decode cX3_stepOn 37 = .ok (.aload 5, 2) := by decide +kernel
theorem dX3_stepOn_39 : decode cX3_stepOn 39 = .ok (.aload_n 0, 1) := by decide +kernel
theorem dX3_stepOn_40 : decode cX3_stepOn 40 = .ok (.getfield 9, 3) := by decide +kernel
theorem dX3_stepOn_43 : decode cX3_stepOn 43 = .ok (.aload_n 0, 1) := by decide +kernel
theorem dX3_stepOn_44 : decode cX3_stepOn 44 = .ok (.getfield 15, 3) := by decide +kernel
theorem dX3_stepOn_47 : decode cX3_stepOn 47 = .ok (.iload_n 3, 1) := by decide +kernel
theorem dX3_stepOn_48 : decode cX3_stepOn 48 = .ok (.invokevirtual 62, 3) := by decide +kernel
theorem dX3_stepOn_51 : decode cX3_stepOn 51 = .ok (.ifCond .eq 6, 3) := by decide +kernel
theorem dX3_stepOn_54 : decode cX3_stepOn 54 = .ok (.aload 5, 2) := by decide +kernel
theorem dX3_stepOn_56 : decode cX3_stepOn 56 = .ok (.areturn, 1) := by decide +kernel
theorem dX3_stepOn_57 : decode cX3_stepOn 57 = .ok (.iinc 4 1, 3) := by decide +kernel
theorem dX3_stepOn_60 : decode cX3_stepOn 60 = .ok (.goto (-45), 3) := by decide +kernel
theorem dX3_stepOn_63 : decode cX3_stepOn 63 = .ok (.aconst_null, 1) := by decide +kernel
theorem dX3_stepOn_64 : decode cX3_stepOn 64 = .ok (.areturn, 1) := by decide +kernel
theorem dX3_countRows_0 : decode cX3_countRows 0 = .ok (.iconst 0, 1) := by decide +kernel
theorem dX3_countRows_1 : decode cX3_countRows 1 = .ok (.istore_n 2, 1) := by decide +kernel
theorem dX3_countRows_2 : decode cX3_countRows 2 = .ok (.iload_n 2, 1) := by decide +kernel
theorem dX3_countRows_3 : decode cX3_countRows 3 = .ok (.bipush 60, 2) := by decide +kernel
theorem dX3_countRows_5 : decode cX3_countRows 5 = .ok (.if_icmp .ge 18, 3) := by decide +kernel
theorem dX3_countRows_8 : decode cX3_countRows 8 = .ok (.aload_n 0, 1) := by decide +kernel
theorem dX3_countRows_9 : decode cX3_countRows 9 = .ok (.aload_n 1, 1) := by decide +kernel
theorem dX3_countRows_10 : decode cX3_countRows 10 = .ok (.iload_n 2, 1) := by decide +kernel
theorem dX3_countRows_11 : decode cX3_countRows 11 = .ok (.invokevirtual 66, 3) := by decide +kernel
theorem dX3_countRows_14 : decode cX3_countRows 14 = .ok (.ifnull 9, 3) := by decide +kernel
theorem dX3_countRows_17 : decode cX3_countRows 17 = .ok (.iinc 2 1, 3) := by decide +kernel
theorem dX3_countRows_20 : decode cX3_countRows 20 = .ok (.goto (-18), 3) := by decide +kernel
theorem dX3_countRows_23 : decode cX3_countRows 23 = .ok (.iload_n 2, 1) := by decide +kernel
theorem dX3_countRows_24 : decode cX3_countRows 24 = .ok (.ireturn, 1) := by decide +kernel
theorem dX3_rowOn_0 : decode cX3_rowOn 0 = .ok (.iconst 0, 1) := by decide +kernel
theorem dX3_rowOn_1 : decode cX3_rowOn 1 = .ok (.istore_n 3, 1) := by decide +kernel
theorem dX3_rowOn_2 : decode cX3_rowOn 2 = .ok (.iload_n 3, 1) := by decide +kernel
theorem dX3_rowOn_3 : decode cX3_rowOn 3 = .ok (.bipush 60, 2) := by decide +kernel
theorem dX3_rowOn_5 : decode cX3_rowOn 5 = .ok (.if_icmp .ge 35, 3) := by decide +kernel
theorem dX3_rowOn_8 : decode cX3_rowOn 8 = .ok (.iload_n 3, 1) := by decide +kernel
theorem dX3_rowOn_9 : decode cX3_rowOn 9 = .ok (.iload_n 2, 1) := by decide +kernel
theorem dX3_rowOn_10 : decode cX3_rowOn 10 = .ok (.if_icmp .gt 30, 3) := by decide +kernel
theorem dX3_rowOn_13 : decode cX3_rowOn 13 = .ok (.aload_n 0, 1) := by decide +kernel
theorem dX3_rowOn_14 : decode cX3_rowOn 14 = .ok (.aload_n 1, 1) := by decide +kernel
theorem dX3_rowOn_15 : decode cX3_rowOn 15 = .ok (.iload_n 3, 1) := by decide +kernel
theorem dX3_rowOn_16 : decode cX3_rowOn 16 = .ok (.invokevirtual 66, 3) := by decide +kernel
theorem dX3_rowOn_19 : decode cX3_rowOn 19 = .ok (.astore 4, 2) := by decide +kernel
theorem dX3_rowOn_21 : decode cX3_rowOn 21 = .ok (.aload 4, 2) := by decide +kernel
theorem dX3_rowOn_23 : decode cX3_rowOn 23 = .ok (.ifnull 8, 3) := by decide +kernel
theorem dX3_rowOn_26 : decode cX3_rowOn 26 = .ok (.iload_n 3, 1) := by decide +kernel
theorem dX3_rowOn_27 : decode cX3_rowOn 27 = .ok (.iload_n 2, 1) := by decide +kernel
theorem dX3_rowOn_28 : decode cX3_rowOn 28 = .ok (.if_icmp .ne 6, 3) := by decide +kernel
theorem dX3_rowOn_31 : decode cX3_rowOn 31 = .ok (.aload 4, 2) := by decide +kernel
theorem dX3_rowOn_33 : decode cX3_rowOn 33 = .ok (.areturn, 1) := by decide +kernel
theorem dX3_rowOn_34 : decode cX3_rowOn 34 = .ok (.iinc 3 1, 3) := by decide +kernel
theorem dX3_rowOn_37 : decode cX3_rowOn 37 = .ok (.goto (-35), 3) := by decide +kernel
theorem dX3_rowOn_40 : decode cX3_rowOn 40 = .ok (.aconst_null, 1) := by decide +kernel
theorem dX3_rowOn_41 : decode cX3_rowOn 41 = .ok (.areturn, 1) := by decide +kernel
theorem dX4_init_0 : decode cX4_init 0 = .ok (.aload_n 0, 1) := by decide +kernel
theorem dX4_init_1 : decode cX4_init 1 = .ok (.invokespecial 3, 3) := by decide +kernel
theorem dX4_init_4 : decode cX4_init 4 = .ok (.aload_n 0, 1) := by decide +kernel
theorem dX4_init_5 : decode cX4_init 5 = .ok (.bipush 60, 2) := by decide +kernel
theorem dX4_init_7 : decode cX4_init 7 = .ok (.anewarray 9, 3) := by decide +kernel
theorem dX4_init_10 : decode cX4_init 10 = .ok (.putfield 11, 3) := by decide +kernel
theorem dX4_init_13 : decode cX4_init 13 = .ok (.aload_n 0, 1) := by decide +kernel
theorem dX4_init_14 : decode cX4_init 14 = .ok (.iconst 0, 1) := by decide +kernel
theorem dX4_init_15 : decode cX4_init 15 = .ok (.putfield 17, 3) := by decide +kernel
theorem dX4_init_18 : decode cX4_init 18 = .ok (.return_, 1) := by decide +kernel
theorem dX4_at_0 : decode cX4_at 0 = .ok (.iload_n 1, 1) := by decide +kernel
theorem dX4_at_1 : decode cX4_at 1 = .ok (.ifCond .lt 11, 3) := by decide +kernel
theorem dX4_at_4 : decode cX4_at 4 = .ok (.iload_n 1, 1) := by decide +kernel
theorem dX4_at_5 : decode cX4_at 5 = .ok (.aload_n 0, 1) := by decide +kernel
theorem dX4_at_6 : decode cX4_at 6 = .ok (.getfield 17, 3) := by decide +kernel
theorem dX4_at_9 : decode cX4_at 9 = .ok (.if_icmp .lt 7, 3) := by decide +kernel
theorem dX4_at_12 : decode cX4_at 12 = .ok (.aconst_null, 1) := by decide +kernel
theorem dX4_at_13 : decode cX4_at 13 = .ok (.goto 9, 3) := by decide +kernel
theorem dX4_at_16 : decode cX4_at 16 = .ok (.aload_n 0, 1) := by decide +kernel
theorem dX4_at_17 : decode cX4_at 17 = .ok (.getfield 11, 3) := by decide +kernel
theorem dX4_at_20 : decode cX4_at 20 = .ok (.iload_n 1, 1) := by decide +kernel
theorem dX4_at_21 : decode cX4_at 21 = .ok (.aaload, 1) := by decide +kernel
theorem dX4_at_22 : decode cX4_at 22 = .ok (.areturn, 1) := by decide +kernel
theorem dX4_add_0 : decode cX4_add 0 = .ok (.aload_n 0, 1) := by decide +kernel
theorem dX4_add_1 : decode cX4_add 1 = .ok (.getfield 17, 3) := by decide +kernel
theorem dX4_add_4 : decode cX4_add 4 = .ok (.bipush 60, 2) := by decide +kernel
theorem dX4_add_6 : decode cX4_add 6 = .ok (.if_icmp .lt 5, 3) := by decide +kernel
theorem dX4_add_9 : decode cX4_add 9 = .ok (.aconst_null, 1) := by decide +kernel
theorem dX4_add_10 : decode cX4_add 10 = .ok (.areturn, 1) := by decide +kernel
theorem dX4_add_11 : decode cX4_add 11 = .ok (.new 9, 3) := by decide +kernel
theorem dX4_add_14 : decode cX4_add 14 = .ok (.dup, 1) := by decide +kernel
theorem dX4_add_15 : decode cX4_add 15 = .ok (.aload_n 0, 1) := by decide +kernel
theorem dX4_add_16 : decode cX4_add 16 = .ok (.lload_n 1, 1) := by decide +kernel
theorem dX4_add_17 : decode cX4_add 17 = .ok (.aload_n 3, 1) := by decide +kernel
theorem dX4_add_18 : decode cX4_add 18 = .ok (.aload 4, 2) := by decide +kernel
theorem dX4_add_20 : decode cX4_add 20 = .ok (.invokespecial 21, 3) := by decide +kernel
theorem dX4_add_23 : decode cX4_add 23 = .ok (.astore 5, 2) := by decide +kernel
theorem dX4_add_25 : decode cX4_add 25 = .ok (.aload 4, 2) := by decide +kernel
theorem dX4_add_27 : decode cX4_add 27 = .ok (.ifnull 10, 3) := by decide +kernel
theorem dX4_add_30 : decode cX4_add 30 = .ok (.aload 4, 2) := by decide +kernel
theorem dX4_add_32 : decode cX4_add 32 = .ok (.aload 5, 2) := by decide +kernel
theorem dX4_add_34 : decode cX4_add 34 = .ok (.putfield 24, 3) := by decide +kernel
theorem dX4_add_37 : decode cX4_add 37 = .ok (.aload_n 3, 1) := by decide +kernel
theorem dX4_add_38 : decode cX4_add 38 = .ok (.astore 6, 2) := by decide +kernel
theorem dX4_add_40 : decode cX4_add 40 = .ok (.aload 6, 2) := by decide +kernel
theorem dX4_add_42 : decode cX4_add 42 = .ok (.ifnull 24, 3) := by decide +kernel
theorem dX4_add_45 : decode cX4_add 45 = .ok (.aload 6, 2) := by decide +kernel
theorem dX4_add_47 : decode cX4_add 47 = .ok (.dup, 1) := by decide +kernel
theorem dX4_add_48 : decode cX4_add 48 = .ok (.getfield 28, 3) := by decide +kernel
theorem dX4_add_51 : decode cX4_add 51 = .ok (.iconst 1, 1) := by decide +kernel
theorem dX4_add_52 : decode cX4_add 52 = .ok (.iadd, 1) := by decide +kernel
theorem dX4_add_53 : decode cX4_add 53 = .ok (.putfield 28, 3) := by decide +kernel
theorem dX4_add_56 : decode cX4_add 56 = .ok (.aload 6, 2) := by decide +kernel
theorem dX4_add_58 : decode cX4_add 58 = .ok (.getfield 31, 3) := by decide +kernel
theorem dX4_add_61 : decode cX4_add 61 = .ok (.astore 6, 2) := by decide +kernel
theorem dX4_add_63 : decode cX4_add 63 = .ok (.goto (-23), 3) := by decide +kernel
theorem dX4_add_66 : decode cX4_add 66 = .ok (.aload_n 0, 1) := by decide +kernel
theorem dX4_add_67 : decode cX4_add 67 = .ok (.getfield 11, 3) := by decide +kernel
theorem dX4_add_70 : decode cX4_add 70 = .ok (.aload_n 0, 1) := by decide +kernel
theorem dX4_add_71 : decode cX4_add 71 = .ok (.getfield 17, 3) := by decide +kernel
theorem dX4_add_74 : decode cX4_add 74 = .ok (.aload 5, 2) := by decide +kernel
theorem dX4_add_76 : decode cX4_add 76 = .ok (.aastore, 1) := by decide +kernel
theorem dX4_add_77 : decode cX4_add 77 = .ok (.aload_n 0, 1) := by decide +kernel
theorem dX4_add_78 : decode cX4_add 78 = .ok (.dup, 1) := by decide +kernel
theorem dX4_add_79 : decode cX4_add 79 = .ok (.getfield 17, 3) := by decide +kernel
theorem dX4_add_82 : decode cX4_add 82 = .ok (.iconst 1, 1) := by decide +kernel
theorem dX4_add_83 : decode cX4_add 83 = .ok (.iadd, 1) := by decide +kernel
theorem dX4_add_84 : decode cX4_add 84 = .ok (.putfield 17, 3) := by decide +kernel
theorem dX4_add_87 : decode cX4_add 87 = .ok (.aload 5, 2) := by decide +kernel
theorem dX4_add_89 : decode cX4_add 89 = .ok (.areturn, 1) := by decide +kernel
theorem dX4_countFitting_0 : decode cX4_countFitting 0 = .ok (.iconst 0, 1) := by decide +kernel
theorem dX4_countFitting_1 : decode cX4_countFitting 1 = .ok (.istore_n 3, 1) := by decide +kernel
theorem dX4_countFitting_2 : decode cX4_countFitting 2 = .ok (.iconst 0, 1) := by decide +kernel
theorem dX4_countFitting_3 : decode cX4_countFitting 3 = .ok (.istore 4, 2) := by decide +kernel
theorem dX4_countFitting_5 : decode cX4_countFitting 5 = .ok (.iload 4, 2) := by decide +kernel
theorem dX4_countFitting_7 : decode cX4_countFitting 7 = .ok (.aload_n 0, 1) := by decide +kernel
theorem dX4_countFitting_8 : decode cX4_countFitting 8 = .ok (.getfield 17, 3) := by decide +kernel
theorem dX4_countFitting_11 : decode cX4_countFitting 11 = .ok (.if_icmp .ge 35, 3) := by decide +kernel
theorem dX4_countFitting_14 : decode cX4_countFitting 14 = .ok (.aload_n 0, 1) := by decide +kernel
theorem dX4_countFitting_15 : decode cX4_countFitting 15 = .ok (.iload 4, 2) := by decide +kernel
theorem dX4_countFitting_17 : decode cX4_countFitting 17 = .ok (.invokevirtual 34, 3) := by decide +kernel
theorem dX4_countFitting_20 : decode cX4_countFitting 20 = .ok (.astore 5, 2) := by decide +kernel
theorem dX4_countFitting_22 : decode cX4_countFitting 22 = .ok (.aload 5, 2) := by decide +kernel
theorem dX4_countFitting_24 : decode cX4_countFitting 24 = .ok (.ifnull 16, 3) := by decide +kernel
theorem dX4_countFitting_27 : decode cX4_countFitting 27 = .ok (.aload 5, 2) := by decide +kernel
theorem dX4_countFitting_29 : decode cX4_countFitting 29 = .ok (.aload_n 1, 1) := by decide +kernel
theorem dX4_countFitting_30 : decode cX4_countFitting 30 = .ok (.iload_n 2, 1) := by decide +kernel
theorem dX4_countFitting_31 : decode cX4_countFitting 31 = .ok (.invokevirtual 38, 3) := by decide +kernel
theorem dX4_countFitting_34 : decode cX4_countFitting 34 = .ok (.ifCond .eq 6, 3) := by decide +kernel
theorem dX4_countFitting_37 : decode cX4_countFitting 37 = .ok (.iinc 3 1, 3) := by decide +kernel
theorem dX4_countFitting_40 : decode cX4_countFitting 40 = .ok (.iinc 4 1, 3) := by decide +kernel
theorem dX4_countFitting_43 : decode cX4_countFitting 43 = .ok (.goto (-38), 3) := by decide +kernel
theorem dX4_countFitting_46 : decode cX4_countFitting 46 = .ok (.iload_n 3, 1) := by decide +kernel
theorem dX4_countFitting_47 : decode cX4_countFitting 47 = .ok (.ireturn, 1) := by decide +kernel
theorem dX4_fitting_0 : decode cX4_fitting 0 = .ok (.iload_n 3, 1) := by decide +kernel
theorem dX4_fitting_1 : decode cX4_fitting 1 = .ok (.istore 4, 2) := by decide +kernel
theorem dX4_fitting_3 : decode cX4_fitting 3 = .ok (.iconst 0, 1) := by decide +kernel
theorem dX4_fitting_4 : decode cX4_fitting 4 = .ok (.istore 5, 2) := by decide +kernel
theorem dX4_fitting_6 : decode cX4_fitting 6 = .ok (.iload 5, 2) := by decide +kernel
theorem dX4_fitting_8 : decode cX4_fitting 8 = .ok (.aload_n 0, 1) := by decide +kernel
theorem dX4_fitting_9 : decode cX4_fitting 9 = .ok (.getfield 17, 3) := by decide +kernel
theorem dX4_fitting_12 : decode cX4_fitting 12 = .ok (.if_icmp .ge 48, 3) := by decide +kernel
theorem dX4_fitting_15 : decode cX4_fitting 15 = .ok (.iload 4, 2) := by decide +kernel
theorem dX4_fitting_17 : decode cX4_fitting 17 = .ok (.ifCond .lt 43, 3) := by decide +kernel
theorem dX4_fitting_20 : decode cX4_fitting 20 = .ok (.aload_n 0, 1) := by decide +kernel
theorem dX4_fitting_21 : decode cX4_fitting 21 = .ok (.iload 5, 2) := by decide +kernel
theorem dX4_fitting_23 : decode cX4_fitting 23 = .ok (.invokevirtual 34, 3) := by decide +kernel
theorem dX4_fitting_26 : decode cX4_fitting 26 = .ok (.astore 6, 2) := by decide +kernel
theorem dX4_fitting_28 : decode cX4_fitting 28 = .ok (.aload 6, 2) := by decide +kernel
theorem dX4_fitting_30 : decode cX4_fitting 30 = .ok (.ifnull 24, 3) := by decide +kernel
theorem dX4_fitting_33 : decode cX4_fitting 33 = .ok (.aload 6, 2) := by decide +kernel
theorem dX4_fitting_35 : decode cX4_fitting 35 = .ok (.aload_n 1, 1) := by decide +kernel
theorem dX4_fitting_36 : decode cX4_fitting 36 = .ok (.iload_n 2, 1) := by decide +kernel
theorem dX4_fitting_37 : decode cX4_fitting 37 = .ok (.invokevirtual 38, 3) := by decide +kernel
theorem dX4_fitting_40 : decode cX4_fitting 40 = .ok (.ifCond .eq 14, 3) := by decide +kernel
theorem dX4_fitting_43 : decode cX4_fitting 43 = .ok (.iload 4, 2) := by decide +kernel
theorem dX4_fitting_45 : decode cX4_fitting 45 = .ok (.ifCond .ne 6, 3) := by decide +kernel
theorem dX4_fitting_48 : decode cX4_fitting 48 = .ok (.aload 6, 2) := by decide +kernel
theorem dX4_fitting_50 : decode cX4_fitting 50 = .ok (.areturn, 1) := by decide +kernel
theorem dX4_fitting_51 : decode cX4_fitting 51 = .ok (.iinc 4 (-1), 3) := by decide +kernel
theorem dX4_fitting_54 : decode cX4_fitting 54 = .ok (.iinc 5 1, 3) := by decide +kernel
theorem dX4_fitting_57 : decode cX4_fitting 57 = .ok (.goto (-51), 3) := by decide +kernel
theorem dX4_fitting_60 : decode cX4_fitting 60 = .ok (.aconst_null, 1) := by decide +kernel
theorem dX4_fitting_61 : decode cX4_fitting 61 = .ok (.areturn, 1) := by decide +kernel
theorem dX5_init_0 : decode cX5_init 0 = .ok (.aload_n 0, 1) := by decide +kernel
theorem dX5_init_1 : decode cX5_init 1 = .ok (.invokespecial 3, 3) := by decide +kernel
theorem dX5_init_4 : decode cX5_init 4 = .ok (.aload_n 0, 1) := by decide +kernel
theorem dX5_init_5 : decode cX5_init 5 = .ok (.aconst_null, 1) := by decide +kernel
theorem dX5_init_6 : decode cX5_init 6 = .ok (.putfield 9, 3) := by decide +kernel
theorem dX5_init_9 : decode cX5_init 9 = .ok (.aload_n 0, 1) := by decide +kernel
theorem dX5_init_10 : decode cX5_init 10 = .ok (.iconst 0, 1) := by decide +kernel
theorem dX5_init_11 : decode cX5_init 11 = .ok (.putfield 15, 3) := by decide +kernel
theorem dX5_init_14 : decode cX5_init 14 = .ok (.aload_n 0, 1) := by decide +kernel
theorem dX5_init_15 : decode cX5_init 15 = .ok (.lconst 0, 1) := by decide +kernel
theorem dX5_init_16 : decode cX5_init 16 = .ok (.putfield 19, 3) := by decide +kernel
theorem dX5_init_19 : decode cX5_init 19 = .ok (.aload_n 0, 1) := by decide +kernel
theorem dX5_init_20 : decode cX5_init 20 = .ok (.lconst 0, 1) := by decide +kernel
theorem dX5_init_21 : decode cX5_init 21 = .ok (.putfield 23, 3) := by decide +kernel
theorem dX5_init_24 : decode cX5_init 24 = .ok (.aload_n 0, 1) := by decide +kernel
theorem dX5_init_25 : decode cX5_init 25 = .ok (.lconst 0, 1) := by decide +kernel
theorem dX5_init_26 : decode cX5_init 26 = .ok (.putfield 26, 3) := by decide +kernel
theorem dX5_init_29 : decode cX5_init 29 = .ok (.aload_n 0, 1) := by decide +kernel
theorem dX5_init_30 : decode cX5_init 30 = .ok (.iconst (-1), 1) := by decide +kernel
theorem dX5_init_31 : decode cX5_init 31 = .ok (.putfield 29, 3) := by decide +kernel
theorem dX5_init_34 : decode cX5_init 34 = .ok (.aload_n 0, 1) := by decide +kernel
theorem dX5_init_35 : decode cX5_init 35 = .ok (.iconst 0, 1) := by decide +kernel
theorem dX5_init_36 : decode cX5_init 36 = .ok (.putfield 32, 3) := by decide +kernel
theorem dX5_init_39 : decode cX5_init 39 = .ok (.aload_n 0, 1) := by decide +kernel
theorem dX5_init_40 : decode cX5_init 40 = .ok (.iconst 0, 1) := by decide +kernel
theorem dX5_init_41 : decode cX5_init 41 = .ok (.putfield 36, 3) := by decide +kernel
theorem dX5_init_44 : decode cX5_init 44 = .ok (.aload_n 0, 1) := by decide +kernel
theorem dX5_init_45 : decode cX5_init 45 = .ok (.iconst 0, 1) := by decide +kernel
theorem dX5_init_46 : decode cX5_init 46 = .ok (.putfield 39, 3) := by decide +kernel
theorem dX5_init_49 : decode cX5_init 49 = .ok (.aload_n 0, 1) := by decide +kernel
theorem dX5_init_50 : decode cX5_init 50 = .ok (.aload_n 1, 1) := by decide +kernel
theorem dX5_init_51 : decode cX5_init 51 = .ok (.putfield 42, 3) := by decide +kernel
theorem dX5_init_54 : decode cX5_init 54 = .ok (.aload_n 0, 1) := by decide +kernel
theorem dX5_init_55 : decode cX5_init 55 = .ok (.lload_n 2, 1) := by decide +kernel
theorem dX5_init_56 : decode cX5_init 56 = .ok (.putfield 46, 3) := by decide +kernel
theorem dX5_init_59 : decode cX5_init 59 = .ok (.aload_n 0, 1) := by decide +kernel
theorem dX5_init_60 : decode cX5_init 60 = .ok (.aload 4, 2) := by decide +kernel
theorem dX5_init_62 : decode cX5_init 62 = .ok (.putfield 49, 3) := by decide +kernel
theorem dX5_init_65 : decode cX5_init 65 = .ok (.aload_n 0, 1) := by decide +kernel
theorem dX5_init_66 : decode cX5_init 66 = .ok (.aload 5, 2) := by decide +kernel
theorem dX5_init_68 : decode cX5_init 68 = .ok (.putfield 52, 3) := by decide +kernel
theorem dX5_init_71 : decode cX5_init 71 = .ok (.aload_n 0, 1) := by decide +kernel
theorem dX5_init_72 : decode cX5_init 72 = .ok (.aload_n 1, 1) := by decide +kernel
theorem dX5_init_73 : decode cX5_init 73 = .ok (.getfield 55, 3) := by decide +kernel
theorem dX5_init_76 : decode cX5_init 76 = .ok (.putfield 60, 3) := by decide +kernel
theorem dX5_init_79 : decode cX5_init 79 = .ok (.aload_n 0, 1) := by decide +kernel
theorem dX5_init_80 : decode cX5_init 80 = .ok (.aload_n 1, 1) := by decide +kernel
theorem dX5_init_81 : decode cX5_init 81 = .ok (.aload_n 1, 1) := by decide +kernel
theorem dX5_init_82 : decode cX5_init 82 = .ok (.getfield 55, 3) := by decide +kernel
theorem dX5_init_85 : decode cX5_init 85 = .ok (.iconst 1, 1) := by decide +kernel
theorem dX5_init_86 : decode cX5_init 86 = .ok (.isub, 1) := by decide +kernel
theorem dX5_init_87 : decode cX5_init 87 = .ok (.invokevirtual 63, 3) := by decide +kernel
theorem dX5_init_90 : decode cX5_init 90 = .ok (.invokestatic 67, 3) := by decide +kernel
theorem dX5_init_93 : decode cX5_init 93 = .ok (.putfield 71, 3) := by decide +kernel
theorem dX5_init_96 : decode cX5_init 96 = .ok (.aload_n 0, 1) := by decide +kernel
theorem dX5_init_97 : decode cX5_init 97 = .ok (.aload 5, 2) := by decide +kernel
theorem dX5_init_99 : decode cX5_init 99 = .ok (.lload_n 2, 1) := by decide +kernel
theorem dX5_init_100 : decode cX5_init 100 = .ok (.invokestatic 74, 3) := by decide +kernel
theorem dX5_init_103 : decode cX5_init 103 = .ok (.putfield 78, 3) := by decide +kernel
theorem dX5_init_106 : decode cX5_init 106 = .ok (.aload_n 0, 1) := by decide +kernel
theorem dX5_init_107 : decode cX5_init 107 = .ok (.aload 4, 2) := by decide +kernel
theorem dX5_init_109 : decode cX5_init 109 = .ok (.ifnonnull 7, 3) := by decide +kernel
theorem dX5_init_112 : decode cX5_init 112 = .ok (.iconst 0, 1) := by decide +kernel
theorem dX5_init_113 : decode cX5_init 113 = .ok (.goto 10, 3) := by decide +kernel
theorem dX5_init_116 : decode cX5_init 116 = .ok (.aload 4, 2) := by decide +kernel
theorem dX5_init_118 : decode cX5_init 118 = .ok (.getfield 81, 3) := by decide +kernel
theorem dX5_init_121 : decode cX5_init 121 = .ok (.iconst 1, 1) := by decide +kernel
theorem dX5_init_122 : decode cX5_init 122 = .ok (.iadd, 1) := by decide +kernel
theorem dX5_init_123 : decode cX5_init 123 = .ok (.putfield 81, 3) := by decide +kernel
theorem dX5_init_126 : decode cX5_init 126 = .ok (.return_, 1) := by decide +kernel
theorem dX5_labelBehind_0 : decode cX5_labelBehind 0 = .ok (.aload_n 0, 1) := by decide +kernel
theorem dX5_labelBehind_1 : decode cX5_labelBehind 1 = .ok (.ifnonnull 5, 3) := by decide +kernel
theorem dX5_labelBehind_4 : decode cX5_labelBehind 4 = .ok (.aconst_null, 1) := by decide +kernel
theorem dX5_labelBehind_5 : decode cX5_labelBehind 5 = .ok (.areturn, 1) := by decide +kernel
theorem dX5_labelBehind_6 : decode cX5_labelBehind 6 = .ok (.aload_n 0, 1) := by decide +kernel
theorem dX5_labelBehind_7 : decode cX5_labelBehind 7 = .ok (.getfield 46, 3) := by decide +kernel
theorem dX5_labelBehind_10 : decode cX5_labelBehind 10 = .ok (.ldc2_w 84, 3) := by decide +kernel
theorem dX5_labelBehind_13 : decode cX5_labelBehind 13 = .ok (.lcmp, 1) := by decide +kernel
theorem dX5_labelBehind_14 : decode cX5_labelBehind 14 = .ok (.ifCond .ne 14, 3) := by decide +kernel
theorem dX5_labelBehind_17 : decode cX5_labelBehind 17 = .ok (.aload_n 0, 1) := by decide +kernel
theorem dX5_labelBehind_18 : decode cX5_labelBehind 18 = .ok (.getfield 29, 3) := by decide +kernel
theorem dX5_labelBehind_21 : decode cX5_labelBehind 21 = .ok (.ifCond .le 7, 3) := by decide +kernel
theorem dX5_labelBehind_24 : decode cX5_labelBehind 24 = .ok (.aload_n 0, 1) := by decide +kernel
theorem dX5_labelBehind_25 : decode cX5_labelBehind 25 = .ok (.goto 7, 3) := by decide +kernel
theorem dX5_labelBehind_28 : decode cX5_labelBehind 28 = .ok (.aload_n 0, 1) := by decide +kernel
theorem dX5_labelBehind_29 : decode cX5_labelBehind 29 = .ok (.getfield 71, 3) := by decide +kernel
theorem dX5_labelBehind_32 : decode cX5_labelBehind 32 = .ok (.areturn, 1) := by decide +kernel
theorem dX5_turnBehind_0 : decode cX5_turnBehind 0 = .ok (.aload_n 0, 1) := by decide +kernel
theorem dX5_turnBehind_1 : decode cX5_turnBehind 1 = .ok (.astore_n 3, 1) := by decide +kernel
theorem dX5_turnBehind_2 : decode cX5_turnBehind 2 = .ok (.aload_n 3, 1) := by decide +kernel
theorem dX5_turnBehind_3 : decode cX5_turnBehind 3 = .ok (.ifnull 27, 3) := by decide +kernel
theorem dX5_turnBehind_6 : decode cX5_turnBehind 6 = .ok (.aload_n 3, 1) := by decide +kernel
theorem dX5_turnBehind_7 : decode cX5_turnBehind 7 = .ok (.getfield 46, 3) := by decide +kernel
theorem dX5_turnBehind_10 : decode cX5_turnBehind 10 = .ok (.lload_n 1, 1) := by decide +kernel
theorem dX5_turnBehind_11 : decode cX5_turnBehind 11 = .ok (.lcmp, 1) := by decide +kernel
theorem dX5_turnBehind_12 : decode cX5_turnBehind 12 = .ok (.ifCond .ne 10, 3) := by decide +kernel
theorem dX5_turnBehind_15 : decode cX5_turnBehind 15 = .ok (.aload_n 3, 1) := by decide +kernel
theorem dX5_turnBehind_16 : decode cX5_turnBehind 16 = .ok (.getfield 78, 3) := by decide +kernel
theorem dX5_turnBehind_19 : decode cX5_turnBehind 19 = .ok (.iconst 1, 1) := by decide +kernel
theorem dX5_turnBehind_20 : decode cX5_turnBehind 20 = .ok (.iadd, 1) := by decide +kernel
theorem dX5_turnBehind_21 : decode cX5_turnBehind 21 = .ok (.ireturn, 1) := by decide +kernel
theorem dX5_turnBehind_22 : decode cX5_turnBehind 22 = .ok (.aload_n 3, 1) := by decide +kernel
theorem dX5_turnBehind_23 : decode cX5_turnBehind 23 = .ok (.getfield 52, 3) := by decide +kernel
theorem dX5_turnBehind_26 : decode cX5_turnBehind 26 = .ok (.astore_n 3, 1) := by decide +kernel
theorem dX5_turnBehind_27 : decode cX5_turnBehind 27 = .ok (.goto (-25), 3) := by decide +kernel
theorem dX5_turnBehind_30 : decode cX5_turnBehind 30 = .ok (.iconst 0, 1) := by decide +kernel
theorem dX5_turnBehind_31 : decode cX5_turnBehind 31 = .ok (.ireturn, 1) := by decide +kernel
theorem dX5_textByte_0 : decode cX5_textByte 0 = .ok (.iload_n 1, 1) := by decide +kernel
theorem dX5_textByte_1 : decode cX5_textByte 1 = .ok (.ifCond .lt 11, 3) := by decide +kernel
theorem dX5_textByte_4 : decode cX5_textByte 4 = .ok (.iload_n 1, 1) := by decide +kernel
theorem dX5_textByte_5 : decode cX5_textByte 5 = .ok (.aload_n 0, 1) := by decide +kernel
theorem dX5_textByte_6 : decode cX5_textByte 6 = .ok (.getfield 29, 3) := by decide +kernel
theorem dX5_textByte_9 : decode cX5_textByte 9 = .ok (.if_icmp .lt 5, 3) := by decide +kernel
theorem dX5_textByte_12 : decode cX5_textByte 12 = .ok (.iconst (-1), 1) := by decide +kernel
theorem dX5_textByte_13 : decode cX5_textByte 13 = .ok (.ireturn, 1) := by decide +kernel
theorem dX5_textByte_14 : decode cX5_textByte 14 = .ok (.iload_n 1, 1) := by decide +kernel
theorem dX5_textByte_15 : decode cX5_textByte 15 = .ok (.bipush 8, 2) := by decide +kernel
theorem dX5_textByte_17 : decode cX5_textByte 17 = .ok (.if_icmp .ge 7, 3) := by decide +kernel
theorem dX5_textByte_20 : decode cX5_textByte 20 = .ok (.iconst 1, 1) := by decide +kernel
theorem dX5_textByte_21 : decode cX5_textByte 21 = .ok (.goto 4, 3) := by decide +kernel
theorem dX5_textByte_24 : decode cX5_textByte 24 = .ok (.iconst 0, 1) := by decide +kernel
theorem dX5_textByte_25 : decode cX5_textByte 25 = .ok (.istore_n 2, 1) := by decide +kernel
theorem dX5_textByte_26 : decode cX5_textByte 26 = .ok (.iload_n 2, 1) := by decide +kernel
theorem dX5_textByte_27 : decode cX5_textByte 27 = .ok (.ifCond .eq 10, 3) := by decide +kernel
theorem dX5_textByte_30 : decode cX5_textByte 30 = .ok (.aload_n 0, 1) := by decide +kernel
theorem dX5_textByte_31 : decode cX5_textByte 31 = .ok (.getfield 23, 3) := by decide +kernel
theorem dX5_textByte_34 : decode cX5_textByte 34 = .ok (.goto 7, 3) := by decide +kernel
theorem dX5_textByte_37 : decode cX5_textByte 37 = .ok (.aload_n 0, 1) := by decide +kernel
theorem dX5_textByte_38 : decode cX5_textByte 38 = .ok (.getfield 26, 3) := by decide +kernel
theorem dX5_textByte_41 : decode cX5_textByte 41 = .ok (.lstore_n 3, 1) := by decide +kernel
theorem dX5_textByte_42 : decode cX5_textByte 42 = .ok (.lload_n 3, 1) := by decide +kernel
theorem dX5_textByte_43 : decode cX5_textByte 43 = .ok (.bipush 8, 2) := by decide +kernel
theorem dX5_textByte_45 : decode cX5_textByte 45 = .ok (.iload_n 2, 1) := by decide +kernel
theorem dX5_textByte_46 : decode cX5_textByte 46 = .ok (.ifCond .eq 7, 3) := by decide +kernel
theorem dX5_textByte_49 : decode cX5_textByte 49 = .ok (.iload_n 1, 1) := by decide +kernel
theorem dX5_textByte_50 : decode cX5_textByte 50 = .ok (.goto 7, 3) := by decide +kernel
theorem dX5_textByte_53 : decode cX5_textByte 53 = .ok (.iload_n 1, 1) := by decide +kernel
theorem dX5_textByte_54 : decode cX5_textByte 54 = .ok (.bipush 8, 2) := by decide +kernel
theorem dX5_textByte_56 : decode cX5_textByte 56 = .ok (.isub, 1) := by decide +kernel
theorem dX5_textByte_57 : decode cX5_textByte 57 = .ok (.imul, 1) := by decide +kernel
theorem dX5_textByte_58 : decode cX5_textByte 58 = .ok (.lshr, 1) := by decide +kernel
theorem dX5_textByte_59 : decode cX5_textByte 59 = .ok (.l2i, 1) := by decide +kernel
theorem dX5_textByte_60 : decode cX5_textByte 60 = .ok (.sipush 255, 3) := by decide +kernel
theorem dX5_textByte_63 : decode cX5_textByte 63 = .ok (.iand, 1) := by decide +kernel
theorem dX5_textByte_64 : decode cX5_textByte 64 = .ok (.ireturn, 1) := by decide +kernel
theorem dX5_isHarmful_0 : decode cX5_isHarmful 0 = .ok (.aload_n 0, 1) := by decide +kernel
theorem dX5_isHarmful_1 : decode cX5_isHarmful 1 = .ok (.astore_n 1, 1) := by decide +kernel
theorem dX5_isHarmful_2 : decode cX5_isHarmful 2 = .ok (.aload_n 1, 1) := by decide +kernel
theorem dX5_isHarmful_3 : decode cX5_isHarmful 3 = .ok (.ifnull 20, 3) := by decide +kernel
theorem dX5_isHarmful_6 : decode cX5_isHarmful 6 = .ok (.aload_n 1, 1) := by decide +kernel
theorem dX5_isHarmful_7 : decode cX5_isHarmful 7 = .ok (.getfield 32, 3) := by decide +kernel
theorem dX5_isHarmful_10 : decode cX5_isHarmful 10 = .ok (.ifCond .eq 5, 3) := by decide +kernel
theorem dX5_isHarmful_13 : decode cX5_isHarmful 13 = .ok (.iconst 1, 1) := by decide +kernel
theorem dX5_isHarmful_14 : decode cX5_isHarmful 14 = .ok (.ireturn, 1) := by decide +kernel
theorem dX5_isHarmful_15 : decode cX5_isHarmful 15 = .ok (.aload_n 1, 1) := by decide +kernel
theorem dX5_isHarmful_16 : decode cX5_isHarmful 16 = .ok (.getfield 49, 3) := by decide +kernel
theorem dX5_isHarmful_19 : decode cX5_isHarmful 19 = .ok (.astore_n 1, 1) := by decide +kernel
theorem dX5_isHarmful_20 : decode cX5_isHarmful 20 = .ok (.goto (-18), 3) := by decide +kernel
theorem dX5_isHarmful_23 : decode cX5_isHarmful 23 = .ok (.iconst 0, 1) := by decide +kernel
theorem dX5_isHarmful_24 : decode cX5_isHarmful 24 = .ok (.ireturn, 1) := by decide +kernel
theorem dX5_hasTextOf_0 : decode cX5_hasTextOf 0 = .ok (.aload_n 0, 1) := by decide +kernel
theorem dX5_hasTextOf_1 : decode cX5_hasTextOf 1 = .ok (.getfield 29, 3) := by decide +kernel
theorem dX5_hasTextOf_4 : decode cX5_hasTextOf 4 = .ok (.aload_n 1, 1) := by decide +kernel
theorem dX5_hasTextOf_5 : decode cX5_hasTextOf 5 = .ok (.getfield 29, 3) := by decide +kernel
theorem dX5_hasTextOf_8 : decode cX5_hasTextOf 8 = .ok (.if_icmp .ne 31, 3) := by decide +kernel
theorem dX5_hasTextOf_11 : decode cX5_hasTextOf 11 = .ok (.aload_n 0, 1) := by decide +kernel
theorem dX5_hasTextOf_12 : decode cX5_hasTextOf 12 = .ok (.getfield 23, 3) := by decide +kernel
theorem dX5_hasTextOf_15 : decode cX5_hasTextOf 15 = .ok (.aload_n 1, 1) := by decide +kernel
theorem dX5_hasTextOf_16 : decode cX5_hasTextOf 16 = .ok (.getfield 23, 3) := by decide +kernel
theorem dX5_hasTextOf_19 : decode cX5_hasTextOf 19 = .ok (.lcmp, 1) := by decide +kernel
theorem dX5_hasTextOf_20 : decode cX5_hasTextOf 20 = .ok (.ifCond .ne 19, 3) := by decide +kernel
theorem dX5_hasTextOf_23 : decode cX5_hasTextOf 23 = .ok (.aload_n 0, 1) := by decide +kernel
theorem dX5_hasTextOf_24 : decode cX5_hasTextOf 24 = .ok (.getfield 26, 3) := by decide +kernel
theorem dX5_hasTextOf_27 : decode cX5_hasTextOf 27 = .ok (.aload_n 1, 1) := by decide +kernel
theorem dX5_hasTextOf_28 : decode cX5_hasTextOf 28 = .ok (.getfield 26, 3) := by decide +kernel
theorem dX5_hasTextOf_31 : decode cX5_hasTextOf 31 = .ok (.lcmp, 1) := by decide +kernel
theorem dX5_hasTextOf_32 : decode cX5_hasTextOf 32 = .ok (.ifCond .ne 7, 3) := by decide +kernel
theorem dX5_hasTextOf_35 : decode cX5_hasTextOf 35 = .ok (.iconst 1, 1) := by decide +kernel
theorem dX5_hasTextOf_36 : decode cX5_hasTextOf 36 = .ok (.goto 4, 3) := by decide +kernel
theorem dX5_hasTextOf_39 : decode cX5_hasTextOf 39 = .ok (.iconst 0, 1) := by decide +kernel
theorem dX5_hasTextOf_40 : decode cX5_hasTextOf 40 = .ok (.ireturn, 1) := by decide +kernel
theorem dX5_hasPathOf_0 : decode cX5_hasPathOf 0 = .ok (.aload_n 0, 1) := by decide +kernel
theorem dX5_hasPathOf_1 : decode cX5_hasPathOf 1 = .ok (.astore 4, 2) := by decide +kernel
theorem dX5_hasPathOf_3 : decode cX5_hasPathOf 3 = .ok (.aload_n 1, 1) := by decide +kernel
theorem dX5_hasPathOf_4 : decode cX5_hasPathOf 4 = .ok (.astore 5, 2) := by decide +kernel
theorem dX5_hasPathOf_6 : decode cX5_hasPathOf 6 = .ok (.aload 4, 2) := by decide +kernel
theorem dX5_hasPathOf_8 : decode cX5_hasPathOf 8 = .ok (.ifnull 71, 3) := by decide +kernel
theorem dX5_hasPathOf_11 : decode cX5_hasPathOf 11 = .ok (.aload 5, 2) := by decide +kernel
theorem dX5_hasPathOf_13 : decode cX5_hasPathOf 13 = .ok (.ifnull 66, 3) := by decide +kernel
theorem dX5_hasPathOf_16 : decode cX5_hasPathOf 16 = .ok (.aload 5, 2) := by decide +kernel
theorem dX5_hasPathOf_18 : decode cX5_hasPathOf 18 = .ok (.getfield 81, 3) := by decide +kernel
theorem dX5_hasPathOf_21 : decode cX5_hasPathOf 21 = .ok (.iload_n 2, 1) := by decide +kernel
theorem dX5_hasPathOf_22 : decode cX5_hasPathOf 22 = .ok (.if_icmp .ne 7, 3) := by decide +kernel
theorem dX5_hasPathOf_25 : decode cX5_hasPathOf 25 = .ok (.iload_n 3, 1) := by decide +kernel
theorem dX5_hasPathOf_26 : decode cX5_hasPathOf 26 = .ok (.goto 8, 3) := by decide +kernel
theorem dX5_hasPathOf_29 : decode cX5_hasPathOf 29 = .ok (.aload 5, 2) := by decide +kernel
theorem dX5_hasPathOf_31 : decode cX5_hasPathOf 31 = .ok (.getfield 78, 3) := by decide +kernel
theorem dX5_hasPathOf_34 : decode cX5_hasPathOf 34 = .ok (.istore 6, 2) := by decide +kernel
theorem dX5_hasPathOf_36 : decode cX5_hasPathOf 36 = .ok (.aload 4, 2) := by decide +kernel
theorem dX5_hasPathOf_38 : decode cX5_hasPathOf 38 = .ok (.getfield 46, 3) := by decide +kernel
theorem dX5_hasPathOf_41 : decode cX5_hasPathOf 41 = .ok (.aload 5, 2) := by decide +kernel
theorem dX5_hasPathOf_43 : decode cX5_hasPathOf 43 = .ok (.getfield 46, 3) := by decide +kernel
theorem dX5_hasPathOf_46 : decode cX5_hasPathOf 46 = .ok (.lcmp, 1) := by decide +kernel
theorem dX5_hasPathOf_47 : decode cX5_hasPathOf 47 = .ok (.ifCond .ne 13, 3) := by decide +kernel
theorem dX5_hasPathOf_50 : decode cX5_hasPathOf 50 = .ok (.aload 4, 2) := by decide +kernel
theorem dX5_hasPathOf_52 : decode cX5_hasPathOf 52 = .ok (.getfield 78, 3) := by decide +kernel
theorem dX5_hasPathOf_55 : decode cX5_hasPathOf 55 = .ok (.iload 6, 2) := by decide +kernel
theorem dX5_hasPathOf_57 : decode cX5_hasPathOf 57 = .ok (.if_icmp .eq 5, 3) := by decide +kernel
theorem dX5_hasPathOf_60 : decode cX5_hasPathOf 60 = .ok (.iconst 0, 1) := by decide +kernel
theorem dX5_hasPathOf_61 : decode cX5_hasPathOf 61 = .ok (.ireturn, 1) := by decide +kernel
theorem dX5_hasPathOf_62 : decode cX5_hasPathOf 62 = .ok (.aload 4, 2) := by decide +kernel
theorem dX5_hasPathOf_64 : decode cX5_hasPathOf 64 = .ok (.getfield 49, 3) := by decide +kernel
theorem dX5_hasPathOf_67 : decode cX5_hasPathOf 67 = .ok (.astore 4, 2) := by decide +kernel
theorem dX5_hasPathOf_69 : decode cX5_hasPathOf 69 = .ok (.aload 5, 2) := by decide +kernel
theorem dX5_hasPathOf_71 : decode cX5_hasPathOf 71 = .ok (.getfield 49, 3) := by decide +kernel
theorem dX5_hasPathOf_74 : decode cX5_hasPathOf 74 = .ok (.astore 5, 2) := by decide +kernel
theorem dX5_hasPathOf_76 : decode cX5_hasPathOf 76 = .ok (.goto (-70), 3) := by decide +kernel
theorem dX5_hasPathOf_79 : decode cX5_hasPathOf 79 = .ok (.aload 4, 2) := by decide +kernel
theorem dX5_hasPathOf_81 : decode cX5_hasPathOf 81 = .ok (.ifnonnull 12, 3) := by decide +kernel
theorem dX5_hasPathOf_84 : decode cX5_hasPathOf 84 = .ok (.aload 5, 2) := by decide +kernel
theorem dX5_hasPathOf_86 : decode cX5_hasPathOf 86 = .ok (.ifnonnull 7, 3) := by decide +kernel
theorem dX5_hasPathOf_89 : decode cX5_hasPathOf 89 = .ok (.iconst 1, 1) := by decide +kernel
theorem dX5_hasPathOf_90 : decode cX5_hasPathOf 90 = .ok (.goto 4, 3) := by decide +kernel
theorem dX5_hasPathOf_93 : decode cX5_hasPathOf 93 = .ok (.iconst 0, 1) := by decide +kernel
theorem dX5_hasPathOf_94 : decode cX5_hasPathOf 94 = .ok (.ireturn, 1) := by decide +kernel
theorem dX5_marksSharedWith_0 : decode cX5_marksSharedWith 0 = .ok (.iconst 0, 1) := by decide +kernel
theorem dX5_marksSharedWith_1 : decode cX5_marksSharedWith 1 = .ok (.istore_n 2, 1) := by decide +kernel
theorem dX5_marksSharedWith_2 : decode cX5_marksSharedWith 2 = .ok (.iload_n 2, 1) := by decide +kernel
theorem dX5_marksSharedWith_3 : decode cX5_marksSharedWith 3 = .ok (.aload_n 0, 1) := by decide +kernel
theorem dX5_marksSharedWith_4 : decode cX5_marksSharedWith 4 = .ok (.getfield 19, 3) := by decide +kernel
theorem dX5_marksSharedWith_7 : decode cX5_marksSharedWith 7 = .ok (.aload_n 1, 1) := by decide +kernel
theorem dX5_marksSharedWith_8 : decode cX5_marksSharedWith 8 = .ok (.getfield 19, 3) := by decide +kernel
theorem dX5_marksSharedWith_11 : decode cX5_marksSharedWith 11 = .ok (.lcmp, 1) := by decide +kernel
theorem dX5_marksSharedWith_12 : decode cX5_marksSharedWith 12 = .ok (.ifCond .ne 7, 3) := by decide +kernel
theorem dX5_marksSharedWith_15 : decode cX5_marksSharedWith 15 = .ok (.iconst 1, 1) := by decide +kernel
theorem dX5_marksSharedWith_16 : decode cX5_marksSharedWith 16 = .ok (.goto 4, 3) := by decide +kernel
theorem dX5_marksSharedWith_19 : decode cX5_marksSharedWith 19 = .ok (.iconst 0, 1) := by decide +kernel
theorem dX5_marksSharedWith_20 : decode cX5_marksSharedWith 20 = .ok (.ior, 1) := by decide +kernel
theorem dX5_marksSharedWith_21 : decode cX5_marksSharedWith 21 = .ok (.istore_n 2, 1) := by decide +kernel
theorem dX5_marksSharedWith_22 : decode cX5_marksSharedWith 22 = .ok (.iload_n 2, 1) := by decide +kernel
theorem dX5_marksSharedWith_23 : decode cX5_marksSharedWith 23 = .ok (.aload_n 0, 1) := by decide +kernel
theorem dX5_marksSharedWith_24 : decode cX5_marksSharedWith 24 = .ok (.aload_n 1, 1) := by decide +kernel
theorem dX5_marksSharedWith_25 : decode cX5_marksSharedWith 25 = .ok (.invokevirtual 88, 3) := by decide +kernel
theorem dX5_marksSharedWith_28 : decode cX5_marksSharedWith 28 = .ok (.ifCond .eq 7, 3) := by decide +kernel
theorem dX5_marksSharedWith_31 : decode cX5_marksSharedWith 31 = .ok (.iconst 2, 1) := by decide +kernel
theorem dX5_marksSharedWith_32 : decode cX5_marksSharedWith 32 = .ok (.goto 4, 3) := by decide +kernel
theorem dX5_marksSharedWith_35 : decode cX5_marksSharedWith 35 = .ok (.iconst 0, 1) := by decide +kernel
theorem dX5_marksSharedWith_36 : decode cX5_marksSharedWith 36 = .ok (.ior, 1) := by decide +kernel
theorem dX5_marksSharedWith_37 : decode cX5_marksSharedWith 37 = .ok (.istore_n 2, 1) := by decide +kernel
theorem dX5_marksSharedWith_38 : decode cX5_marksSharedWith 38 = .ok (.iload_n 2, 1) := by decide +kernel
theorem dX5_marksSharedWith_39 : decode cX5_marksSharedWith 39 = .ok (.aload_n 0, 1) := by decide +kernel
theorem dX5_marksSharedWith_40 : decode cX5_marksSharedWith 40 = .ok (.getfield 46, 3) := by decide +kernel
theorem dX5_marksSharedWith_43 : decode cX5_marksSharedWith 43 = .ok (.aload_n 1, 1) := by decide +kernel
theorem dX5_marksSharedWith_44 : decode cX5_marksSharedWith 44 = .ok (.getfield 46, 3) := by decide +kernel
theorem dX5_marksSharedWith_47 : decode cX5_marksSharedWith 47 = .ok (.lcmp, 1) := by decide +kernel
theorem dX5_marksSharedWith_48 : decode cX5_marksSharedWith 48 = .ok (.ifCond .ne 7, 3) := by decide +kernel
theorem dX5_marksSharedWith_51 : decode cX5_marksSharedWith 51 = .ok (.iconst 4, 1) := by decide +kernel
theorem dX5_marksSharedWith_52 : decode cX5_marksSharedWith 52 = .ok (.goto 4, 3) := by decide +kernel
theorem dX5_marksSharedWith_55 : decode cX5_marksSharedWith 55 = .ok (.iconst 0, 1) := by decide +kernel
theorem dX5_marksSharedWith_56 : decode cX5_marksSharedWith 56 = .ok (.ior, 1) := by decide +kernel
theorem dX5_marksSharedWith_57 : decode cX5_marksSharedWith 57 = .ok (.istore_n 2, 1) := by decide +kernel
theorem dX5_marksSharedWith_58 : decode cX5_marksSharedWith 58 = .ok (.iload_n 2, 1) := by decide +kernel
theorem dX5_marksSharedWith_59 : decode cX5_marksSharedWith 59 = .ok (.aload_n 0, 1) := by decide +kernel
theorem dX5_marksSharedWith_60 : decode cX5_marksSharedWith 60 = .ok (.getfield 78, 3) := by decide +kernel
theorem dX5_marksSharedWith_63 : decode cX5_marksSharedWith 63 = .ok (.aload_n 1, 1) := by decide +kernel
theorem dX5_marksSharedWith_64 : decode cX5_marksSharedWith 64 = .ok (.getfield 78, 3) := by decide +kernel
theorem dX5_marksSharedWith_67 : decode cX5_marksSharedWith 67 = .ok (.if_icmp .ne 8, 3) := by decide +kernel
theorem dX5_marksSharedWith_70 : decode cX5_marksSharedWith 70 = .ok (.bipush 8, 2) := by decide +kernel
theorem dX5_marksSharedWith_72 : decode cX5_marksSharedWith 72 = .ok (.goto 4, 3) := by decide +kernel
theorem dX5_marksSharedWith_75 : decode cX5_marksSharedWith 75 = .ok (.iconst 0, 1) := by decide +kernel
theorem dX5_marksSharedWith_76 : decode cX5_marksSharedWith 76 = .ok (.ior, 1) := by decide +kernel
theorem dX5_marksSharedWith_77 : decode cX5_marksSharedWith 77 = .ok (.istore_n 2, 1) := by decide +kernel
theorem dX5_marksSharedWith_78 : decode cX5_marksSharedWith 78 = .ok (.iload_n 2, 1) := by decide +kernel
theorem dX5_marksSharedWith_79 : decode cX5_marksSharedWith 79 = .ok (.aload_n 0, 1) := by decide +kernel
theorem dX5_marksSharedWith_80 : decode cX5_marksSharedWith 80 = .ok (.getfield 49, 3) := by decide +kernel
theorem dX5_marksSharedWith_83 : decode cX5_marksSharedWith 83 = .ok (.invokestatic 92, 3) := by decide +kernel
theorem dX5_marksSharedWith_86 : decode cX5_marksSharedWith 86 = .ok (.aload_n 1, 1) := by decide +kernel
theorem dX5_marksSharedWith_87 : decode cX5_marksSharedWith 87 = .ok (.getfield 49, 3) := by decide +kernel
theorem dX5_marksSharedWith_90 : decode cX5_marksSharedWith 90 = .ok (.invokestatic 92, 3) := by decide +kernel
theorem dX5_marksSharedWith_93 : decode cX5_marksSharedWith 93 = .ok (.lcmp, 1) := by decide +kernel
theorem dX5_marksSharedWith_94 : decode cX5_marksSharedWith 94 = .ok (.ifCond .ne 8, 3) := by decide +kernel
theorem dX5_marksSharedWith_97 : decode cX5_marksSharedWith 97 = .ok (.bipush 16, 2) := by decide +kernel
theorem dX5_marksSharedWith_99 : decode cX5_marksSharedWith 99 = .ok (.goto 4, 3) := by decide +kernel
theorem dX5_marksSharedWith_102 : decode cX5_marksSharedWith 102 = .ok (.iconst 0, 1) := by decide +kernel
theorem dX5_marksSharedWith_103 : decode cX5_marksSharedWith 103 = .ok (.ior, 1) := by decide +kernel
theorem dX5_marksSharedWith_104 : decode cX5_marksSharedWith 104 = .ok (.istore_n 2, 1) := by decide +kernel
theorem dX5_marksSharedWith_105 : decode cX5_marksSharedWith 105 = .ok (.iload_n 2, 1) := by decide +kernel
theorem dX5_marksSharedWith_106 : decode cX5_marksSharedWith 106 = .ok (.aload_n 0, 1) := by decide +kernel
theorem dX5_marksSharedWith_107 : decode cX5_marksSharedWith 107 = .ok (.getfield 49, 3) := by decide +kernel
theorem dX5_marksSharedWith_110 : decode cX5_marksSharedWith 110 = .ok (.invokestatic 96, 3) := by decide +kernel
theorem dX5_marksSharedWith_113 : decode cX5_marksSharedWith 113 = .ok (.aload_n 1, 1) := by decide +kernel
theorem dX5_marksSharedWith_114 : decode cX5_marksSharedWith 114 = .ok (.getfield 49, 3) := by decide +kernel
theorem dX5_marksSharedWith_117 : decode cX5_marksSharedWith 117 = .ok (.invokestatic 96, 3) := by decide +kernel
theorem dX5_marksSharedWith_120 : decode cX5_marksSharedWith 120 = .ok (.lcmp, 1) := by decide +kernel
theorem dX5_marksSharedWith_121 : decode cX5_marksSharedWith 121 = .ok (.ifCond .ne 8, 3) := by decide +kernel
theorem dX5_marksSharedWith_124 : decode cX5_marksSharedWith 124 = .ok (.bipush 32, 2) := by decide +kernel
theorem dX5_marksSharedWith_126 : decode cX5_marksSharedWith 126 = .ok (.goto 4, 3) := by decide +kernel
theorem dX5_marksSharedWith_129 : decode cX5_marksSharedWith 129 = .ok (.iconst 0, 1) := by decide +kernel
theorem dX5_marksSharedWith_130 : decode cX5_marksSharedWith 130 = .ok (.ior, 1) := by decide +kernel
theorem dX5_marksSharedWith_131 : decode cX5_marksSharedWith 131 = .ok (.istore_n 2, 1) := by decide +kernel
theorem dX5_marksSharedWith_132 : decode cX5_marksSharedWith 132 = .ok (.iload_n 2, 1) := by decide +kernel
theorem dX5_marksSharedWith_133 : decode cX5_marksSharedWith 133 = .ok (.aload_n 0, 1) := by decide +kernel
theorem dX5_marksSharedWith_134 : decode cX5_marksSharedWith 134 = .ok (.getfield 71, 3) := by decide +kernel
theorem dX5_marksSharedWith_137 : decode cX5_marksSharedWith 137 = .ok (.aload_n 1, 1) := by decide +kernel
theorem dX5_marksSharedWith_138 : decode cX5_marksSharedWith 138 = .ok (.getfield 71, 3) := by decide +kernel
theorem dX5_marksSharedWith_141 : decode cX5_marksSharedWith 141 = .ok (.invokestatic 99, 3) := by decide +kernel
theorem dX5_marksSharedWith_144 : decode cX5_marksSharedWith 144 = .ok (.ifCond .eq 8, 3) := by decide +kernel
theorem dX5_marksSharedWith_147 : decode cX5_marksSharedWith 147 = .ok (.bipush 64, 2) := by decide +kernel
theorem dX5_marksSharedWith_149 : decode cX5_marksSharedWith 149 = .ok (.goto 4, 3) := by decide +kernel
theorem dX5_marksSharedWith_152 : decode cX5_marksSharedWith 152 = .ok (.iconst 0, 1) := by decide +kernel
theorem dX5_marksSharedWith_153 : decode cX5_marksSharedWith 153 = .ok (.ior, 1) := by decide +kernel
theorem dX5_marksSharedWith_154 : decode cX5_marksSharedWith 154 = .ok (.istore_n 2, 1) := by decide +kernel
theorem dX5_marksSharedWith_155 : decode cX5_marksSharedWith 155 = .ok (.iload_n 2, 1) := by decide +kernel
theorem dX5_marksSharedWith_156 : decode cX5_marksSharedWith 156 = .ok (.aload_n 0, 1) := by decide +kernel
theorem dX5_marksSharedWith_157 : decode cX5_marksSharedWith 157 = .ok (.aload_n 1, 1) := by decide +kernel
theorem dX5_marksSharedWith_158 : decode cX5_marksSharedWith 158 = .ok (.iconst (-1), 1) := by decide +kernel
theorem dX5_marksSharedWith_159 : decode cX5_marksSharedWith 159 = .ok (.iconst 0, 1) := by decide +kernel
theorem dX5_marksSharedWith_160 : decode cX5_marksSharedWith 160 = .ok (.invokevirtual 103, 3) := by decide +kernel
theorem dX5_marksSharedWith_163 : decode cX5_marksSharedWith 163 = .ok (.ifCond .eq 9, 3) := by decide +kernel
theorem dX5_marksSharedWith_166 : decode cX5_marksSharedWith 166 = .ok (.sipush 128, 3) := by decide +kernel
theorem dX5_marksSharedWith_169 : decode cX5_marksSharedWith 169 = .ok (.goto 4, 3) := by decide +kernel
theorem dX5_marksSharedWith_172 : decode cX5_marksSharedWith 172 = .ok (.iconst 0, 1) := by decide +kernel
theorem dX5_marksSharedWith_173 : decode cX5_marksSharedWith 173 = .ok (.ior, 1) := by decide +kernel
theorem dX5_marksSharedWith_174 : decode cX5_marksSharedWith 174 = .ok (.istore_n 2, 1) := by decide +kernel
theorem dX5_marksSharedWith_175 : decode cX5_marksSharedWith 175 = .ok (.iload_n 2, 1) := by decide +kernel
theorem dX5_marksSharedWith_176 : decode cX5_marksSharedWith 176 = .ok (.ireturn, 1) := by decide +kernel
theorem dX5_fitsMarksOf_0 : decode cX5_fitsMarksOf 0 = .ok (.aload_n 0, 1) := by decide +kernel
theorem dX5_fitsMarksOf_1 : decode cX5_fitsMarksOf 1 = .ok (.aload_n 1, 1) := by decide +kernel
theorem dX5_fitsMarksOf_2 : decode cX5_fitsMarksOf 2 = .ok (.invokevirtual 107, 3) := by decide +kernel
theorem dX5_fitsMarksOf_5 : decode cX5_fitsMarksOf 5 = .ok (.iload_n 2, 1) := by decide +kernel
theorem dX5_fitsMarksOf_6 : decode cX5_fitsMarksOf 6 = .ok (.iand, 1) := by decide +kernel
theorem dX5_fitsMarksOf_7 : decode cX5_fitsMarksOf 7 = .ok (.iload_n 2, 1) := by decide +kernel
theorem dX5_fitsMarksOf_8 : decode cX5_fitsMarksOf 8 = .ok (.if_icmp .ne 7, 3) := by decide +kernel
theorem dX5_fitsMarksOf_11 : decode cX5_fitsMarksOf 11 = .ok (.iconst 1, 1) := by decide +kernel
theorem dX5_fitsMarksOf_12 : decode cX5_fitsMarksOf 12 = .ok (.goto 4, 3) := by decide +kernel
theorem dX5_fitsMarksOf_15 : decode cX5_fitsMarksOf 15 = .ok (.iconst 0, 1) := by decide +kernel
theorem dX5_fitsMarksOf_16 : decode cX5_fitsMarksOf 16 = .ok (.ireturn, 1) := by decide +kernel
theorem dX5_kindOf_0 : decode cX5_kindOf 0 = .ok (.aload_n 0, 1) := by decide +kernel
theorem dX5_kindOf_1 : decode cX5_kindOf 1 = .ok (.ifnonnull 7, 3) := by decide +kernel
theorem dX5_kindOf_4 : decode cX5_kindOf 4 = .ok (.lconst 0, 1) := by decide +kernel
theorem dX5_kindOf_5 : decode cX5_kindOf 5 = .ok (.goto 7, 3) := by decide +kernel
theorem dX5_kindOf_8 : decode cX5_kindOf 8 = .ok (.aload_n 0, 1) := by decide +kernel
theorem dX5_kindOf_9 : decode cX5_kindOf 9 = .ok (.getfield 46, 3) := by decide +kernel
theorem dX5_kindOf_12 : decode cX5_kindOf 12 = .ok (.lreturn, 1) := by decide +kernel
theorem dX5_nameOf_0 : decode cX5_nameOf 0 = .ok (.aload_n 0, 1) := by decide +kernel
theorem dX5_nameOf_1 : decode cX5_nameOf 1 = .ok (.ifnonnull 7, 3) := by decide +kernel
theorem dX5_nameOf_4 : decode cX5_nameOf 4 = .ok (.lconst 0, 1) := by decide +kernel
theorem dX5_nameOf_5 : decode cX5_nameOf 5 = .ok (.goto 7, 3) := by decide +kernel
theorem dX5_nameOf_8 : decode cX5_nameOf 8 = .ok (.aload_n 0, 1) := by decide +kernel
theorem dX5_nameOf_9 : decode cX5_nameOf 9 = .ok (.getfield 19, 3) := by decide +kernel
theorem dX5_nameOf_12 : decode cX5_nameOf 12 = .ok (.lreturn, 1) := by decide +kernel
theorem dX5_sameLabel_0 : decode cX5_sameLabel 0 = .ok (.aload_n 0, 1) := by decide +kernel
theorem dX5_sameLabel_1 : decode cX5_sameLabel 1 = .ok (.ifnull 7, 3) := by decide +kernel
theorem dX5_sameLabel_4 : decode cX5_sameLabel 4 = .ok (.aload_n 1, 1) := by decide +kernel
theorem dX5_sameLabel_5 : decode cX5_sameLabel 5 = .ok (.ifnonnull 16, 3) := by decide +kernel
theorem dX5_sameLabel_8 : decode cX5_sameLabel 8 = .ok (.aload_n 0, 1) := by decide +kernel
theorem dX5_sameLabel_9 : decode cX5_sameLabel 9 = .ok (.aload_n 1, 1) := by decide +kernel
theorem dX5_sameLabel_10 : decode cX5_sameLabel 10 = .ok (.if_acmp .ne 7, 3) := by decide +kernel
theorem dX5_sameLabel_13 : decode cX5_sameLabel 13 = .ok (.iconst 1, 1) := by decide +kernel
theorem dX5_sameLabel_14 : decode cX5_sameLabel 14 = .ok (.goto 12, 3) := by decide +kernel
theorem dX5_sameLabel_17 : decode cX5_sameLabel 17 = .ok (.iconst 0, 1) := by decide +kernel
theorem dX5_sameLabel_18 : decode cX5_sameLabel 18 = .ok (.goto 8, 3) := by decide +kernel
theorem dX5_sameLabel_21 : decode cX5_sameLabel 21 = .ok (.aload_n 0, 1) := by decide +kernel
theorem dX5_sameLabel_22 : decode cX5_sameLabel 22 = .ok (.aload_n 1, 1) := by decide +kernel
theorem dX5_sameLabel_23 : decode cX5_sameLabel 23 = .ok (.invokevirtual 88, 3) := by decide +kernel
theorem dX5_sameLabel_26 : decode cX5_sameLabel 26 = .ok (.ireturn, 1) := by decide +kernel
theorem dX6_init_0 : decode cX6_init 0 = .ok (.aload_n 0, 1) := by decide +kernel
theorem dX6_init_1 : decode cX6_init 1 = .ok (.invokespecial 3, 3) := by decide +kernel
theorem dX6_init_4 : decode cX6_init 4 = .ok (.aload_n 0, 1) := by decide +kernel
theorem dX6_init_5 : decode cX6_init 5 = .ok (.iconst 0, 1) := by decide +kernel
theorem dX6_init_6 : decode cX6_init 6 = .ok (.putfield 11, 3) := by decide +kernel
theorem dX6_init_9 : decode cX6_init 9 = .ok (.aload_n 0, 1) := by decide +kernel
theorem dX6_init_10 : decode cX6_init 10 = .ok (.iconst (-1), 1) := by decide +kernel
theorem dX6_init_11 : decode cX6_init 11 = .ok (.putfield 15, 3) := by decide +kernel
theorem dX6_init_14 : decode cX6_init 14 = .ok (.aload_n 0, 1) := by decide +kernel
theorem dX6_init_15 : decode cX6_init 15 = .ok (.iconst 0, 1) := by decide +kernel
theorem dX6_init_16 : decode cX6_init 16 = .ok (.putfield 18, 3) := by decide +kernel
theorem dX6_init_19 : decode cX6_init 19 = .ok (.aload_n 0, 1) := by decide +kernel
theorem dX6_init_20 : decode cX6_init 20 = .ok (.aconst_null, 1) := by decide +kernel
theorem dX6_init_21 : decode cX6_init 21 = .ok (.putfield 21, 3) := by decide +kernel
theorem dX6_init_24 : decode cX6_init 24 = .ok (.aload_n 0, 1) := by decide +kernel
theorem dX6_init_25 : decode cX6_init 25 = .ok (.aconst_null, 1) := by decide +kernel
theorem dX6_init_26 : decode cX6_init 26 = .ok (.putfield 25, 3) := by decide +kernel
theorem dX6_init_29 : decode cX6_init 29 = .ok (.aload_n 0, 1) := by decide +kernel
theorem dX6_init_30 : decode cX6_init 30 = .ok (.new 28, 3) := by decide +kernel
theorem dX6_init_33 : decode cX6_init 33 = .ok (.dup, 1) := by decide +kernel
theorem dX6_init_34 : decode cX6_init 34 = .ok (.aload_n 1, 1) := by decide +kernel
theorem dX6_init_35 : decode cX6_init 35 = .ok (.invokespecial 30, 3) := by decide +kernel
theorem dX6_init_38 : decode cX6_init 38 = .ok (.putfield 33, 3) := by decide +kernel
theorem dX6_init_41 : decode cX6_init 41 = .ok (.return_, 1) := by decide +kernel
theorem dX6_readPage_0 : decode cX6_readPage 0 = .ok (.new 37, 3) := by decide +kernel
theorem dX6_readPage_3 : decode cX6_readPage 3 = .ok (.dup, 1) := by decide +kernel
theorem dX6_readPage_4 : decode cX6_readPage 4 = .ok (.invokespecial 39, 3) := by decide +kernel
theorem dX6_readPage_7 : decode cX6_readPage 7 = .ok (.astore_n 1, 1) := by decide +kernel
theorem dX6_readPage_8 : decode cX6_readPage 8 = .ok (.aload_n 0, 1) := by decide +kernel
theorem dX6_readPage_9 : decode cX6_readPage 9 = .ok (.getfield 33, 3) := by decide +kernel
theorem dX6_readPage_12 : decode cX6_readPage 12 = .ok (.invokevirtual 40, 3) := by decide +kernel
theorem dX6_readPage_15 : decode cX6_readPage 15 = .ok (.aload_n 0, 1) := by decide +kernel
theorem dX6_readPage_16 : decode cX6_readPage 16 = .ok (.iconst 0, 1) := by decide +kernel
theorem dX6_readPage_17 : decode cX6_readPage 17 = .ok (.putfield 11, 3) := by decide +kernel
theorem dX6_readPage_20 : decode cX6_readPage 20 = .ok (.aload_n 0, 1) := by decide +kernel
theorem dX6_readPage_21 : decode cX6_readPage 21 = .ok (.iconst (-1), 1) := by decide +kernel
theorem dX6_readPage_22 : decode cX6_readPage 22 = .ok (.putfield 15, 3) := by decide +kernel
theorem dX6_readPage_25 : decode cX6_readPage 25 = .ok (.aload_n 0, 1) := by decide +kernel
theorem dX6_readPage_26 : decode cX6_readPage 26 = .ok (.iconst 0, 1) := by decide +kernel
theorem dX6_readPage_27 : decode cX6_readPage 27 = .ok (.putfield 18, 3) := by decide +kernel
theorem dX6_readPage_30 : decode cX6_readPage 30 = .ok (.aload_n 0, 1) := by decide +kernel
theorem dX6_readPage_31 : decode cX6_readPage 31 = .ok (.aconst_null, 1) := by decide +kernel
theorem dX6_readPage_32 : decode cX6_readPage 32 = .ok (.putfield 21, 3) := by decide +kernel
theorem dX6_readPage_35 : decode cX6_readPage 35 = .ok (.aload_n 0, 1) := by decide +kernel
theorem dX6_readPage_36 : decode cX6_readPage 36 = .ok (.aconst_null, 1) := by decide +kernel
theorem dX6_readPage_37 : decode cX6_readPage 37 = .ok (.putfield 25, 3) := by decide +kernel
theorem dX6_readPage_40 : decode cX6_readPage 40 = .ok (.iconst 0, 1) := by decide +kernel
theorem dX6_readPage_41 : decode cX6_readPage 41 = .ok (.istore_n 2, 1) := by decide +kernel
theorem dX6_readPage_42 : decode cX6_readPage 42 = .ok (.iload_n 2, 1) := by decide +kernel
theorem dX6_readPage_43 : decode cX6_readPage 43 = .ok (.sipush 1600, 3) := by decide +kernel
theorem dX6_readPage_46 : decode cX6_readPage 46 = .ok (.if_icmp .gt 54, 3) := by decide +kernel
theorem dX6_readPage_49 : decode cX6_readPage 49 = .ok (.aload_n 0, 1) := by decide +kernel
theorem dX6_readPage_50 : decode cX6_readPage 50 = .ok (.getfield 33, 3) := by decide +kernel
theorem dX6_readPage_53 : decode cX6_readPage 53 = .ok (.invokevirtual 43, 3) := by decide +kernel
theorem dX6_readPage_56 : decode cX6_readPage 56 = .ok (.aload_n 0, 1) := by decide +kernel
theorem dX6_readPage_57 : decode cX6_readPage 57 = .ok (.getfield 33, 3) := by decide +kernel
theorem dX6_readPage_60 : decode cX6_readPage 60 = .ok (.getfield 46, 3) := by decide +kernel
theorem dX6_readPage_63 : decode cX6_readPage 63 = .ok (.ifCond .ne 20, 3) := by decide +kernel
theorem dX6_readPage_66 : decode cX6_readPage 66 = .ok (.aload_n 0, 1) := by decide +kernel
theorem dX6_readPage_67 : decode cX6_readPage 67 = .ok (.getfield 18, 3) := by decide +kernel
theorem dX6_readPage_70 : decode cX6_readPage 70 = .ok (.iconst 2, 1) := by decide +kernel
theorem dX6_readPage_71 : decode cX6_readPage 71 = .ok (.if_icmp .lt 12, 3) := by decide +kernel
theorem dX6_readPage_74 : decode cX6_readPage 74 = .ok (.aload_n 0, 1) := by decide +kernel
theorem dX6_readPage_75 : decode cX6_readPage 75 = .ok (.getfield 21, 3) := by decide +kernel
theorem dX6_readPage_78 : decode cX6_readPage 78 = .ok (.ifnonnull 5, 3) := by decide +kernel
theorem dX6_readPage_81 : decode cX6_readPage 81 = .ok (.aload_n 1, 1) := by decide +kernel
theorem dX6_readPage_82 : decode cX6_readPage 82 = .ok (.areturn, 1) := by decide +kernel
theorem dX6_readPage_83 : decode cX6_readPage 83 = .ok (.aload_n 0, 1) := by decide +kernel
theorem dX6_readPage_84 : decode cX6_readPage 84 = .ok (.aload_n 1, 1) := by decide +kernel
theorem dX6_readPage_85 : decode cX6_readPage 85 = .ok (.invokevirtual 49, 3) := by decide +kernel
theorem dX6_readPage_88 : decode cX6_readPage 88 = .ok (.ifCond .ne 6, 3) := by decide +kernel
theorem dX6_readPage_91 : decode cX6_readPage 91 = .ok (.goto 9, 3) := by decide +kernel
theorem dX6_readPage_94 : decode cX6_readPage 94 = .ok (.iinc 2 1, 3) := by decide +kernel
theorem dX6_readPage_97 : decode cX6_readPage 97 = .ok (.goto (-55), 3) := by decide +kernel
theorem dX6_readPage_100 : decode cX6_readPage 100 = .ok (.aload_n 0, 1) := by decide +kernel
theorem dX6_readPage_101 : decode cX6_readPage 101 = .ok (.aload_n 0, 1) := by decide +kernel
theorem dX6_readPage_102 : decode cX6_readPage 102 = .ok (.getfield 33, 3) := by decide +kernel
theorem dX6_readPage_105 : decode cX6_readPage 105 = .ok (.getfield 46, 3) := by decide +kernel
theorem dX6_readPage_108 : decode cX6_readPage 108 = .ok (.bipush 7, 2) := by decide +kernel
theorem dX6_readPage_110 : decode cX6_readPage 110 = .ok (.if_icmp .ne 7, 3) := by decide +kernel
theorem dX6_readPage_113 : decode cX6_readPage 113 = .ok (.iconst 1, 1) := by decide +kernel
theorem dX6_readPage_114 : decode cX6_readPage 114 = .ok (.goto 4, 3) := by decide +kernel
theorem dX6_readPage_117 : decode cX6_readPage 117 = .ok (.iconst 2, 1) := by decide +kernel
theorem dX6_readPage_118 : decode cX6_readPage 118 = .ok (.putfield 11, 3) := by decide +kernel
theorem dX6_readPage_121 : decode cX6_readPage 121 = .ok (.aload_n 0, 1) := by decide +kernel
theorem dX6_readPage_122 : decode cX6_readPage 122 = .ok (.aload_n 0, 1) := by decide +kernel
theorem dX6_readPage_123 : decode cX6_readPage 123 = .ok (.getfield 33, 3) := by decide +kernel
theorem dX6_readPage_126 : decode cX6_readPage 126 = .ok (.getfield 53, 3) := by decide +kernel
theorem dX6_readPage_129 : decode cX6_readPage 129 = .ok (.putfield 15, 3) := by decide +kernel
theorem dX6_readPage_132 : decode cX6_readPage 132 = .ok (.aconst_null, 1) := by decide +kernel
theorem dX6_readPage_133 : decode cX6_readPage 133 = .ok (.areturn, 1) := by decide +kernel
theorem dX6_takeToken_0 : decode cX6_takeToken 0 = .ok (.aload_n 0, 1) := by decide +kernel
theorem dX6_takeToken_1 : decode cX6_takeToken 1 = .ok (.getfield 33, 3) := by decide +kernel
theorem dX6_takeToken_4 : decode cX6_takeToken 4 = .ok (.getfield 46, 3) := by decide +kernel
theorem dX6_takeToken_7 : decode cX6_takeToken 7 = .ok (.tableswitch 85 1 6 #[37, 65, 58, 70, 75, 80], 37) := by decide +kernel
theorem dX6_takeToken_44 : decode cX6_takeToken 44 = .ok (.aload_n 0, 1) := by decide +kernel
theorem dX6_takeToken_45 : decode cX6_takeToken 45 = .ok (.getfield 18, 3) := by decide +kernel
theorem dX6_takeToken_48 : decode cX6_takeToken 48 = .ok (.iconst 1, 1) := by decide +kernel
theorem dX6_takeToken_49 : decode cX6_takeToken 49 = .ok (.if_icmp .ne 10, 3) := by decide +kernel
theorem dX6_takeToken_52 : decode cX6_takeToken 52 = .ok (.aload_n 0, 1) := by decide +kernel
theorem dX6_takeToken_53 : decode cX6_takeToken 53 = .ok (.invokevirtual 56, 3) := by decide +kernel
theorem dX6_takeToken_56 : decode cX6_takeToken 56 = .ok (.goto 8, 3) := by decide +kernel
theorem dX6_takeToken_59 : decode cX6_takeToken 59 = .ok (.aload_n 0, 1) := by decide +kernel
theorem dX6_takeToken_60 : decode cX6_takeToken 60 = .ok (.aload_n 1, 1) := by decide +kernel
theorem dX6_takeToken_61 : decode cX6_takeToken 61 = .ok (.invokevirtual 60, 3) := by decide +kernel
theorem dX6_takeToken_64 : decode cX6_takeToken 64 = .ok (.ireturn, 1) := by decide +kernel
theorem dX6_takeToken_65 : decode cX6_takeToken 65 = .ok (.aload_n 0, 1) := by decide +kernel
theorem dX6_takeToken_66 : decode cX6_takeToken 66 = .ok (.iconst 2, 1) := by decide +kernel
theorem dX6_takeToken_67 : decode cX6_takeToken 67 = .ok (.iconst 1, 1) := by decide +kernel
theorem dX6_takeToken_68 : decode cX6_takeToken 68 = .ok (.invokevirtual 63, 3) := by decide +kernel
theorem dX6_takeToken_71 : decode cX6_takeToken 71 = .ok (.ireturn, 1) := by decide +kernel
theorem dX6_takeToken_72 : decode cX6_takeToken 72 = .ok (.aload_n 0, 1) := by decide +kernel
theorem dX6_takeToken_73 : decode cX6_takeToken 73 = .ok (.invokevirtual 67, 3) := by decide +kernel
theorem dX6_takeToken_76 : decode cX6_takeToken 76 = .ok (.ireturn, 1) := by decide +kernel
theorem dX6_takeToken_77 : decode cX6_takeToken 77 = .ok (.aload_n 0, 1) := by decide +kernel
theorem dX6_takeToken_78 : decode cX6_takeToken 78 = .ok (.invokevirtual 70, 3) := by decide +kernel
theorem dX6_takeToken_81 : decode cX6_takeToken 81 = .ok (.ireturn, 1) := by decide +kernel
theorem dX6_takeToken_82 : decode cX6_takeToken 82 = .ok (.aload_n 0, 1) := by decide +kernel
theorem dX6_takeToken_83 : decode cX6_takeToken 83 = .ok (.invokevirtual 73, 3) := by decide +kernel
theorem dX6_takeToken_86 : decode cX6_takeToken 86 = .ok (.ireturn, 1) := by decide +kernel
theorem dX6_takeToken_87 : decode cX6_takeToken 87 = .ok (.aload_n 0, 1) := by decide +kernel
theorem dX6_takeToken_88 : decode cX6_takeToken 88 = .ok (.invokevirtual 76, 3) := by decide +kernel
theorem dX6_takeToken_91 : decode cX6_takeToken 91 = .ok (.ireturn, 1) := by decide +kernel
theorem dX6_takeToken_92 : decode cX6_takeToken 92 = .ok (.iconst 0, 1) := by decide +kernel
theorem dX6_takeToken_93 : decode cX6_takeToken 93 = .ok (.ireturn, 1) := by decide +kernel
theorem dX6_move_0 : decode cX6_move 0 = .ok (.aload_n 0, 1) := by decide +kernel
theorem dX6_move_1 : decode cX6_move 1 = .ok (.getfield 25, 3) := by decide +kernel
theorem dX6_move_4 : decode cX6_move 4 = .ok (.ifnull 19, 3) := by decide +kernel
theorem dX6_move_7 : decode cX6_move 7 = .ok (.aload_n 0, 1) := by decide +kernel
theorem dX6_move_8 : decode cX6_move 8 = .ok (.getfield 18, 3) := by decide +kernel
theorem dX6_move_11 : decode cX6_move 11 = .ok (.iconst 2, 1) := by decide +kernel
theorem dX6_move_12 : decode cX6_move 12 = .ok (.if_icmp .lt 11, 3) := by decide +kernel
theorem dX6_move_15 : decode cX6_move 15 = .ok (.aload_n 0, 1) := by decide +kernel
theorem dX6_move_16 : decode cX6_move 16 = .ok (.getfield 18, 3) := by decide +kernel
theorem dX6_move_19 : decode cX6_move 19 = .ok (.iload_n 1, 1) := by decide +kernel
theorem dX6_move_20 : decode cX6_move 20 = .ok (.if_icmp .le 5, 3) := by decide +kernel
theorem dX6_move_23 : decode cX6_move 23 = .ok (.iconst 0, 1) := by decide +kernel
theorem dX6_move_24 : decode cX6_move 24 = .ok (.ireturn, 1) := by decide +kernel
theorem dX6_move_25 : decode cX6_move 25 = .ok (.aload_n 0, 1) := by decide +kernel
theorem dX6_move_26 : decode cX6_move 26 = .ok (.iload_n 2, 1) := by decide +kernel
theorem dX6_move_27 : decode cX6_move 27 = .ok (.putfield 18, 3) := by decide +kernel
theorem dX6_move_30 : decode cX6_move 30 = .ok (.iconst 1, 1) := by decide +kernel
theorem dX6_move_31 : decode cX6_move 31 = .ok (.ireturn, 1) := by decide +kernel
theorem dX6_takeKind_0 : decode cX6_takeKind 0 = .ok (.aload_n 0, 1) := by decide +kernel
theorem dX6_takeKind_1 : decode cX6_takeKind 1 = .ok (.getfield 18, 3) := by decide +kernel
theorem dX6_takeKind_4 : decode cX6_takeKind 4 = .ok (.ifCond .eq 7, 3) := by decide +kernel
theorem dX6_takeKind_7 : decode cX6_takeKind 7 = .ok (.iconst 1, 1) := by decide +kernel
theorem dX6_takeKind_8 : decode cX6_takeKind 8 = .ok (.goto 4, 3) := by decide +kernel
theorem dX6_takeKind_11 : decode cX6_takeKind 11 = .ok (.iconst 0, 1) := by decide +kernel
theorem dX6_takeKind_12 : decode cX6_takeKind 12 = .ok (.istore_n 2, 1) := by decide +kernel
theorem dX6_takeKind_13 : decode cX6_takeKind 13 = .ok (.iload_n 2, 1) := by decide +kernel
theorem dX6_takeKind_14 : decode cX6_takeKind 14 = .ok (.ifCond .eq 12, 3) := by decide +kernel
theorem dX6_takeKind_17 : decode cX6_takeKind 17 = .ok (.aload_n 0, 1) := by decide +kernel
theorem dX6_takeKind_18 : decode cX6_takeKind 18 = .ok (.getfield 21, 3) := by decide +kernel
theorem dX6_takeKind_21 : decode cX6_takeKind 21 = .ok (.ifnonnull 5, 3) := by decide +kernel
theorem dX6_takeKind_24 : decode cX6_takeKind 24 = .ok (.iconst 0, 1) := by decide +kernel
theorem dX6_takeKind_25 : decode cX6_takeKind 25 = .ok (.ireturn, 1) := by decide +kernel
theorem dX6_takeKind_26 : decode cX6_takeKind 26 = .ok (.aload_n 1, 1) := by decide +kernel
theorem dX6_takeKind_27 : decode cX6_takeKind 27 = .ok (.getfield 79, 3) := by decide +kernel
theorem dX6_takeKind_30 : decode cX6_takeKind 30 = .ok (.bipush 60, 2) := by decide +kernel
theorem dX6_takeKind_32 : decode cX6_takeKind 32 = .ok (.if_icmp .ge 22, 3) := by decide +kernel
theorem dX6_takeKind_35 : decode cX6_takeKind 35 = .ok (.aload_n 0, 1) := by decide +kernel
theorem dX6_takeKind_36 : decode cX6_takeKind 36 = .ok (.getfield 21, 3) := by decide +kernel
theorem dX6_takeKind_39 : decode cX6_takeKind 39 = .ok (.ifnull 17, 3) := by decide +kernel
theorem dX6_takeKind_42 : decode cX6_takeKind 42 = .ok (.aload_n 0, 1) := by decide +kernel
theorem dX6_takeKind_43 : decode cX6_takeKind 43 = .ok (.getfield 21, 3) := by decide +kernel
theorem dX6_takeKind_46 : decode cX6_takeKind 46 = .ok (.getfield 82, 3) := by decide +kernel
theorem dX6_takeKind_49 : decode cX6_takeKind 49 = .ok (.bipush 11, 2) := by decide +kernel
theorem dX6_takeKind_51 : decode cX6_takeKind 51 = .ok (.if_icmp .lt 5, 3) := by decide +kernel
theorem dX6_takeKind_54 : decode cX6_takeKind 54 = .ok (.iconst 0, 1) := by decide +kernel
theorem dX6_takeKind_55 : decode cX6_takeKind 55 = .ok (.ireturn, 1) := by decide +kernel
theorem dX6_takeKind_56 : decode cX6_takeKind 56 = .ok (.aload_n 0, 1) := by decide +kernel
theorem dX6_takeKind_57 : decode cX6_takeKind 57 = .ok (.aload_n 1, 1) := by decide +kernel
theorem dX6_takeKind_58 : decode cX6_takeKind 58 = .ok (.aload_n 0, 1) := by decide +kernel
theorem dX6_takeKind_59 : decode cX6_takeKind 59 = .ok (.getfield 33, 3) := by decide +kernel
theorem dX6_takeKind_62 : decode cX6_takeKind 62 = .ok (.getfield 87, 3) := by decide +kernel
theorem dX6_takeKind_65 : decode cX6_takeKind 65 = .ok (.aload_n 0, 1) := by decide +kernel
theorem dX6_takeKind_66 : decode cX6_takeKind 66 = .ok (.getfield 21, 3) := by decide +kernel
theorem dX6_takeKind_69 : decode cX6_takeKind 69 = .ok (.iload_n 2, 1) := by decide +kernel
theorem dX6_takeKind_70 : decode cX6_takeKind 70 = .ok (.ifCond .eq 10, 3) := by decide +kernel
theorem dX6_takeKind_73 : decode cX6_takeKind 73 = .ok (.aload_n 0, 1) := by decide +kernel
theorem dX6_takeKind_74 : decode cX6_takeKind 74 = .ok (.getfield 25, 3) := by decide +kernel
theorem dX6_takeKind_77 : decode cX6_takeKind 77 = .ok (.goto 4, 3) := by decide +kernel
theorem dX6_takeKind_80 : decode cX6_takeKind 80 = .ok (.aconst_null, 1) := by decide +kernel
theorem dX6_takeKind_81 : decode cX6_takeKind 81 = .ok (.invokevirtual 91, 3) := by decide +kernel
theorem dX6_takeKind_84 : decode cX6_takeKind 84 = .ok (.putfield 25, 3) := by decide +kernel
theorem dX6_takeKind_87 : decode cX6_takeKind 87 = .ok (.aload_n 0, 1) := by decide +kernel
theorem dX6_takeKind_88 : decode cX6_takeKind 88 = .ok (.iconst 2, 1) := by decide +kernel
theorem dX6_takeKind_89 : decode cX6_takeKind 89 = .ok (.putfield 18, 3) := by decide +kernel
theorem dX6_takeKind_92 : decode cX6_takeKind 92 = .ok (.iconst 1, 1) := by decide +kernel
theorem dX6_takeKind_93 : decode cX6_takeKind 93 = .ok (.ireturn, 1) := by decide +kernel
theorem dX6_takeName_0 : decode cX6_takeName 0 = .ok (.aload_n 0, 1) := by decide +kernel
theorem dX6_takeName_1 : decode cX6_takeName 1 = .ok (.getfield 25, 3) := by decide +kernel
theorem dX6_takeName_4 : decode cX6_takeName 4 = .ok (.ifnonnull 5, 3) := by decide +kernel
theorem dX6_takeName_7 : decode cX6_takeName 7 = .ok (.iconst 0, 1) := by decide +kernel
theorem dX6_takeName_8 : decode cX6_takeName 8 = .ok (.ireturn, 1) := by decide +kernel
theorem dX6_takeName_9 : decode cX6_takeName 9 = .ok (.aload_n 0, 1) := by decide +kernel
theorem dX6_takeName_10 : decode cX6_takeName 10 = .ok (.getfield 25, 3) := by decide +kernel
theorem dX6_takeName_13 : decode cX6_takeName 13 = .ok (.aload_n 0, 1) := by decide +kernel
theorem dX6_takeName_14 : decode cX6_takeName 14 = .ok (.getfield 33, 3) := by decide +kernel
theorem dX6_takeName_17 : decode cX6_takeName 17 = .ok (.getfield 87, 3) := by decide +kernel
theorem dX6_takeName_20 : decode cX6_takeName 20 = .ok (.putfield 95, 3) := by decide +kernel
theorem dX6_takeName_23 : decode cX6_takeName 23 = .ok (.aload_n 0, 1) := by decide +kernel
theorem dX6_takeName_24 : decode cX6_takeName 24 = .ok (.iconst 3, 1) := by decide +kernel
theorem dX6_takeName_25 : decode cX6_takeName 25 = .ok (.putfield 18, 3) := by decide +kernel
theorem dX6_takeName_28 : decode cX6_takeName 28 = .ok (.iconst 1, 1) := by decide +kernel
theorem dX6_takeName_29 : decode cX6_takeName 29 = .ok (.ireturn, 1) := by decide +kernel
theorem dX6_takeText_0 : decode cX6_takeText 0 = .ok (.aload_n 0, 1) := by decide +kernel
theorem dX6_takeText_1 : decode cX6_takeText 1 = .ok (.iconst 3, 1) := by decide +kernel
theorem dX6_takeText_2 : decode cX6_takeText 2 = .ok (.iconst 4, 1) := by decide +kernel
theorem dX6_takeText_3 : decode cX6_takeText 3 = .ok (.invokevirtual 63, 3) := by decide +kernel
theorem dX6_takeText_6 : decode cX6_takeText 6 = .ok (.ifCond .ne 5, 3) := by decide +kernel
theorem dX6_takeText_9 : decode cX6_takeText 9 = .ok (.iconst 0, 1) := by decide +kernel
theorem dX6_takeText_10 : decode cX6_takeText 10 = .ok (.ireturn, 1) := by decide +kernel
theorem dX6_takeText_11 : decode cX6_takeText 11 = .ok (.aload_n 0, 1) := by decide +kernel
theorem dX6_takeText_12 : decode cX6_takeText 12 = .ok (.getfield 25, 3) := by decide +kernel
theorem dX6_takeText_15 : decode cX6_takeText 15 = .ok (.aload_n 0, 1) := by decide +kernel
theorem dX6_takeText_16 : decode cX6_takeText 16 = .ok (.getfield 33, 3) := by decide +kernel
theorem dX6_takeText_19 : decode cX6_takeText 19 = .ok (.getfield 98, 3) := by decide +kernel
theorem dX6_takeText_22 : decode cX6_takeText 22 = .ok (.putfield 101, 3) := by decide +kernel
theorem dX6_takeText_25 : decode cX6_takeText 25 = .ok (.aload_n 0, 1) := by decide +kernel
theorem dX6_takeText_26 : decode cX6_takeText 26 = .ok (.getfield 25, 3) := by decide +kernel
theorem dX6_takeText_29 : decode cX6_takeText 29 = .ok (.aload_n 0, 1) := by decide +kernel
theorem dX6_takeText_30 : decode cX6_takeText 30 = .ok (.getfield 33, 3) := by decide +kernel
theorem dX6_takeText_33 : decode cX6_takeText 33 = .ok (.getfield 102, 3) := by decide +kernel
theorem dX6_takeText_36 : decode cX6_takeText 36 = .ok (.putfield 105, 3) := by decide +kernel
theorem dX6_takeText_39 : decode cX6_takeText 39 = .ok (.aload_n 0, 1) := by decide +kernel
theorem dX6_takeText_40 : decode cX6_takeText 40 = .ok (.getfield 25, 3) := by decide +kernel
theorem dX6_takeText_43 : decode cX6_takeText 43 = .ok (.aload_n 0, 1) := by decide +kernel
theorem dX6_takeText_44 : decode cX6_takeText 44 = .ok (.getfield 33, 3) := by decide +kernel
theorem dX6_takeText_47 : decode cX6_takeText 47 = .ok (.getfield 106, 3) := by decide +kernel
theorem dX6_takeText_50 : decode cX6_takeText 50 = .ok (.putfield 109, 3) := by decide +kernel
theorem dX6_takeText_53 : decode cX6_takeText 53 = .ok (.iconst 1, 1) := by decide +kernel
theorem dX6_takeText_54 : decode cX6_takeText 54 = .ok (.ireturn, 1) := by decide +kernel
theorem dX6_takeHarm_0 : decode cX6_takeHarm 0 = .ok (.aload_n 0, 1) := by decide +kernel
theorem dX6_takeHarm_1 : decode cX6_takeHarm 1 = .ok (.iconst 4, 1) := by decide +kernel
theorem dX6_takeHarm_2 : decode cX6_takeHarm 2 = .ok (.iconst 5, 1) := by decide +kernel
theorem dX6_takeHarm_3 : decode cX6_takeHarm 3 = .ok (.invokevirtual 63, 3) := by decide +kernel
theorem dX6_takeHarm_6 : decode cX6_takeHarm 6 = .ok (.ifCond .ne 5, 3) := by decide +kernel
theorem dX6_takeHarm_9 : decode cX6_takeHarm 9 = .ok (.iconst 0, 1) := by decide +kernel
theorem dX6_takeHarm_10 : decode cX6_takeHarm 10 = .ok (.ireturn, 1) := by decide +kernel
theorem dX6_takeHarm_11 : decode cX6_takeHarm 11 = .ok (.aload_n 0, 1) := by decide +kernel
theorem dX6_takeHarm_12 : decode cX6_takeHarm 12 = .ok (.getfield 25, 3) := by decide +kernel
theorem dX6_takeHarm_15 : decode cX6_takeHarm 15 = .ok (.iconst 1, 1) := by decide +kernel
theorem dX6_takeHarm_16 : decode cX6_takeHarm 16 = .ok (.putfield 110, 3) := by decide +kernel
theorem dX6_takeHarm_19 : decode cX6_takeHarm 19 = .ok (.iconst 1, 1) := by decide +kernel
theorem dX6_takeHarm_20 : decode cX6_takeHarm 20 = .ok (.ireturn, 1) := by decide +kernel
theorem dX6_goDown_0 : decode cX6_goDown 0 = .ok (.aload_n 0, 1) := by decide +kernel
theorem dX6_goDown_1 : decode cX6_goDown 1 = .ok (.iconst 5, 1) := by decide +kernel
theorem dX6_goDown_2 : decode cX6_goDown 2 = .ok (.iconst 0, 1) := by decide +kernel
theorem dX6_goDown_3 : decode cX6_goDown 3 = .ok (.invokevirtual 63, 3) := by decide +kernel
theorem dX6_goDown_6 : decode cX6_goDown 6 = .ok (.ifCond .ne 5, 3) := by decide +kernel
theorem dX6_goDown_9 : decode cX6_goDown 9 = .ok (.iconst 0, 1) := by decide +kernel
theorem dX6_goDown_10 : decode cX6_goDown 10 = .ok (.ireturn, 1) := by decide +kernel
theorem dX6_goDown_11 : decode cX6_goDown 11 = .ok (.aload_n 0, 1) := by decide +kernel
theorem dX6_goDown_12 : decode cX6_goDown 12 = .ok (.aload_n 0, 1) := by decide +kernel
theorem dX6_goDown_13 : decode cX6_goDown 13 = .ok (.getfield 25, 3) := by decide +kernel
theorem dX6_goDown_16 : decode cX6_goDown 16 = .ok (.putfield 21, 3) := by decide +kernel
theorem dX6_goDown_19 : decode cX6_goDown 19 = .ok (.iconst 1, 1) := by decide +kernel
theorem dX6_goDown_20 : decode cX6_goDown 20 = .ok (.ireturn, 1) := by decide +kernel
theorem dX6_goUp_0 : decode cX6_goUp 0 = .ok (.aload_n 0, 1) := by decide +kernel
theorem dX6_goUp_1 : decode cX6_goUp 1 = .ok (.getfield 21, 3) := by decide +kernel
theorem dX6_goUp_4 : decode cX6_goUp 4 = .ok (.ifnull 14, 3) := by decide +kernel
theorem dX6_goUp_7 : decode cX6_goUp 7 = .ok (.aload_n 0, 1) := by decide +kernel
theorem dX6_goUp_8 : decode cX6_goUp 8 = .ok (.bipush 6, 2) := by decide +kernel
theorem dX6_goUp_10 : decode cX6_goUp 10 = .ok (.bipush 6, 2) := by decide +kernel
theorem dX6_goUp_12 : decode cX6_goUp 12 = .ok (.invokevirtual 63, 3) := by decide +kernel
theorem dX6_goUp_15 : decode cX6_goUp 15 = .ok (.ifCond .ne 5, 3) := by decide +kernel
theorem dX6_goUp_18 : decode cX6_goUp 18 = .ok (.iconst 0, 1) := by decide +kernel
theorem dX6_goUp_19 : decode cX6_goUp 19 = .ok (.ireturn, 1) := by decide +kernel
theorem dX6_goUp_20 : decode cX6_goUp 20 = .ok (.aload_n 0, 1) := by decide +kernel
theorem dX6_goUp_21 : decode cX6_goUp 21 = .ok (.aload_n 0, 1) := by decide +kernel
theorem dX6_goUp_22 : decode cX6_goUp 22 = .ok (.getfield 21, 3) := by decide +kernel
theorem dX6_goUp_25 : decode cX6_goUp 25 = .ok (.putfield 25, 3) := by decide +kernel
theorem dX6_goUp_28 : decode cX6_goUp 28 = .ok (.aload_n 0, 1) := by decide +kernel
theorem dX6_goUp_29 : decode cX6_goUp 29 = .ok (.aload_n 0, 1) := by decide +kernel
theorem dX6_goUp_30 : decode cX6_goUp 30 = .ok (.getfield 21, 3) := by decide +kernel
theorem dX6_goUp_33 : decode cX6_goUp 33 = .ok (.getfield 114, 3) := by decide +kernel
theorem dX6_goUp_36 : decode cX6_goUp 36 = .ok (.putfield 21, 3) := by decide +kernel
theorem dX6_goUp_39 : decode cX6_goUp 39 = .ok (.iconst 1, 1) := by decide +kernel
theorem dX6_goUp_40 : decode cX6_goUp 40 = .ok (.ireturn, 1) := by decide +kernel
theorem dX7_init_0 : decode cX7_init 0 = .ok (.aload_n 0, 1) := by decide +kernel
theorem dX7_init_1 : decode cX7_init 1 = .ok (.invokespecial 3, 3) := by decide +kernel
theorem dX7_init_4 : decode cX7_init 4 = .ok (.aload_n 0, 1) := by decide +kernel
theorem dX7_init_5 : decode cX7_init 5 = .ok (.bipush 40, 2) := by decide +kernel
theorem dX7_init_7 : decode cX7_init 7 = .ok (.anewarray 9, 3) := by decide +kernel
theorem dX7_init_10 : decode cX7_init 10 = .ok (.putfield 11, 3) := by decide +kernel
theorem dX7_init_13 : decode cX7_init 13 = .ok (.aload_n 0, 1) := by decide +kernel
theorem dX7_init_14 : decode cX7_init 14 = .ok (.iconst 0, 1) := by decide +kernel
theorem dX7_init_15 : decode cX7_init 15 = .ok (.putfield 17, 3) := by decide +kernel
theorem dX7_init_18 : decode cX7_init 18 = .ok (.aload_n 0, 1) := by decide +kernel
theorem dX7_init_19 : decode cX7_init 19 = .ok (.iconst 0, 1) := by decide +kernel
theorem dX7_init_20 : decode cX7_init 20 = .ok (.putfield 21, 3) := by decide +kernel
theorem dX7_init_23 : decode cX7_init 23 = .ok (.aload_n 0, 1) := by decide +kernel
theorem dX7_init_24 : decode cX7_init 24 = .ok (.aconst_null, 1) := by decide +kernel
theorem dX7_init_25 : decode cX7_init 25 = .ok (.putfield 24, 3) := by decide +kernel
theorem dX7_init_28 : decode cX7_init 28 = .ok (.aload_n 0, 1) := by decide +kernel
theorem dX7_init_29 : decode cX7_init 29 = .ok (.iconst 0, 1) := by decide +kernel
theorem dX7_init_30 : decode cX7_init 30 = .ok (.putfield 28, 3) := by decide +kernel
theorem dX7_init_33 : decode cX7_init 33 = .ok (.aload_n 0, 1) := by decide +kernel
theorem dX7_init_34 : decode cX7_init 34 = .ok (.iconst 0, 1) := by decide +kernel
theorem dX7_init_35 : decode cX7_init 35 = .ok (.putfield 31, 3) := by decide +kernel
theorem dX7_init_38 : decode cX7_init 38 = .ok (.return_, 1) := by decide +kernel
theorem dX7_begin_0 : decode cX7_begin 0 = .ok (.aload_n 0, 1) := by decide +kernel
theorem dX7_begin_1 : decode cX7_begin 1 = .ok (.dup, 1) := by decide +kernel
theorem dX7_begin_2 : decode cX7_begin 2 = .ok (.getfield 17, 3) := by decide +kernel
theorem dX7_begin_5 : decode cX7_begin 5 = .ok (.iconst 1, 1) := by decide +kernel
theorem dX7_begin_6 : decode cX7_begin 6 = .ok (.iadd, 1) := by decide +kernel
theorem dX7_begin_7 : decode cX7_begin 7 = .ok (.putfield 17, 3) := by decide +kernel
theorem dX7_begin_10 : decode cX7_begin 10 = .ok (.aload_n 0, 1) := by decide +kernel
theorem dX7_begin_11 : decode cX7_begin 11 = .ok (.iconst 0, 1) := by decide +kernel
theorem dX7_begin_12 : decode cX7_begin 12 = .ok (.putfield 21, 3) := by decide +kernel
theorem dX7_begin_15 : decode cX7_begin 15 = .ok (.aload_n 0, 1) := by decide +kernel
theorem dX7_begin_16 : decode cX7_begin 16 = .ok (.aconst_null, 1) := by decide +kernel
theorem dX7_begin_17 : decode cX7_begin 17 = .ok (.putfield 24, 3) := by decide +kernel
theorem dX7_begin_20 : decode cX7_begin 20 = .ok (.aload_n 0, 1) := by decide +kernel
theorem dX7_begin_21 : decode cX7_begin 21 = .ok (.iconst 0, 1) := by decide +kernel
theorem dX7_begin_22 : decode cX7_begin 22 = .ok (.putfield 28, 3) := by decide +kernel
theorem dX7_begin_25 : decode cX7_begin 25 = .ok (.aload_n 0, 1) := by decide +kernel
theorem dX7_begin_26 : decode cX7_begin 26 = .ok (.iconst 0, 1) := by decide +kernel
theorem dX7_begin_27 : decode cX7_begin 27 = .ok (.putfield 31, 3) := by decide +kernel
theorem dX7_begin_30 : decode cX7_begin 30 = .ok (.return_, 1) := by decide +kernel
theorem dX7_stop_0 : decode cX7_stop 0 = .ok (.aload_n 0, 1) := by decide +kernel
theorem dX7_stop_1 : decode cX7_stop 1 = .ok (.iload_n 1, 1) := by decide +kernel
theorem dX7_stop_2 : decode cX7_stop 2 = .ok (.putfield 21, 3) := by decide +kernel
theorem dX7_stop_5 : decode cX7_stop 5 = .ok (.aload_n 0, 1) := by decide +kernel
theorem dX7_stop_6 : decode cX7_stop 6 = .ok (.aload_n 2, 1) := by decide +kernel
theorem dX7_stop_7 : decode cX7_stop 7 = .ok (.putfield 24, 3) := by decide +kernel
theorem dX7_stop_10 : decode cX7_stop 10 = .ok (.iconst 0, 1) := by decide +kernel
theorem dX7_stop_11 : decode cX7_stop 11 = .ok (.ireturn, 1) := by decide +kernel
theorem dX7_take_0 : decode cX7_take 0 = .ok (.iload_n 2, 1) := by decide +kernel
theorem dX7_take_1 : decode cX7_take 1 = .ok (.ifCond .ne 10, 3) := by decide +kernel
theorem dX7_take_4 : decode cX7_take 4 = .ok (.aload_n 0, 1) := by decide +kernel
theorem dX7_take_5 : decode cX7_take 5 = .ok (.aload_n 1, 1) := by decide +kernel
theorem dX7_take_6 : decode cX7_take 6 = .ok (.invokevirtual 34, 3) := by decide +kernel
theorem dX7_take_9 : decode cX7_take 9 = .ok (.iconst 1, 1) := by decide +kernel
theorem dX7_take_10 : decode cX7_take 10 = .ok (.ireturn, 1) := by decide +kernel
theorem dX7_take_11 : decode cX7_take 11 = .ok (.aload_n 1, 1) := by decide +kernel
theorem dX7_take_12 : decode cX7_take 12 = .ok (.invokevirtual 38, 3) := by decide +kernel
theorem dX7_take_15 : decode cX7_take 15 = .ok (.ifCond .eq 10, 3) := by decide +kernel
theorem dX7_take_18 : decode cX7_take 18 = .ok (.aload_n 0, 1) := by decide +kernel
theorem dX7_take_19 : decode cX7_take 19 = .ok (.iconst 3, 1) := by decide +kernel
theorem dX7_take_20 : decode cX7_take 20 = .ok (.aload_n 1, 1) := by decide +kernel
theorem dX7_take_21 : decode cX7_take 21 = .ok (.invokevirtual 42, 3) := by decide +kernel
theorem dX7_take_24 : decode cX7_take 24 = .ok (.ireturn, 1) := by decide +kernel
theorem dX7_take_25 : decode cX7_take 25 = .ok (.aload_n 1, 1) := by decide +kernel
theorem dX7_take_26 : decode cX7_take 26 = .ok (.getfield 46, 3) := by decide +kernel
theorem dX7_take_29 : decode cX7_take 29 = .ok (.aload_n 0, 1) := by decide +kernel
theorem dX7_take_30 : decode cX7_take 30 = .ok (.getfield 17, 3) := by decide +kernel
theorem dX7_take_33 : decode cX7_take 33 = .ok (.if_icmp .eq 31, 3) := by decide +kernel
theorem dX7_take_36 : decode cX7_take 36 = .ok (.aload_n 1, 1) := by decide +kernel
theorem dX7_take_37 : decode cX7_take 37 = .ok (.aload_n 0, 1) := by decide +kernel
theorem dX7_take_38 : decode cX7_take 38 = .ok (.getfield 17, 3) := by decide +kernel
theorem dX7_take_41 : decode cX7_take 41 = .ok (.putfield 46, 3) := by decide +kernel
theorem dX7_take_44 : decode cX7_take 44 = .ok (.aload_n 1, 1) := by decide +kernel
theorem dX7_take_45 : decode cX7_take 45 = .ok (.dup, 1) := by decide +kernel
theorem dX7_take_46 : decode cX7_take 46 = .ok (.getfield 49, 3) := by decide +kernel
theorem dX7_take_49 : decode cX7_take 49 = .ok (.iconst 1, 1) := by decide +kernel
theorem dX7_take_50 : decode cX7_take 50 = .ok (.iadd, 1) := by decide +kernel
theorem dX7_take_51 : decode cX7_take 51 = .ok (.putfield 49, 3) := by decide +kernel
theorem dX7_take_54 : decode cX7_take 54 = .ok (.aload_n 0, 1) := by decide +kernel
theorem dX7_take_55 : decode cX7_take 55 = .ok (.dup, 1) := by decide +kernel
theorem dX7_take_56 : decode cX7_take 56 = .ok (.getfield 28, 3) := by decide +kernel
theorem dX7_take_59 : decode cX7_take 59 = .ok (.iconst 1, 1) := by decide +kernel
theorem dX7_take_60 : decode cX7_take 60 = .ok (.iadd, 1) := by decide +kernel
theorem dX7_take_61 : decode cX7_take 61 = .ok (.putfield 28, 3) := by decide +kernel
theorem dX7_take_64 : decode cX7_take 64 = .ok (.iconst 1, 1) := by decide +kernel
theorem dX7_take_65 : decode cX7_take 65 = .ok (.ireturn, 1) := by decide +kernel
theorem dX7_keep_0 : decode cX7_keep 0 = .ok (.aload_n 0, 1) := by decide +kernel
theorem dX7_keep_1 : decode cX7_keep 1 = .ok (.getfield 31, 3) := by decide +kernel
theorem dX7_keep_4 : decode cX7_keep 4 = .ok (.bipush 40, 2) := by decide +kernel
theorem dX7_keep_6 : decode cX7_keep 6 = .ok (.if_icmp .ge 13, 3) := by decide +kernel
theorem dX7_keep_9 : decode cX7_keep 9 = .ok (.aload_n 0, 1) := by decide +kernel
theorem dX7_keep_10 : decode cX7_keep 10 = .ok (.getfield 11, 3) := by decide +kernel
theorem dX7_keep_13 : decode cX7_keep 13 = .ok (.aload_n 0, 1) := by decide +kernel
theorem dX7_keep_14 : decode cX7_keep 14 = .ok (.getfield 31, 3) := by decide +kernel
theorem dX7_keep_17 : decode cX7_keep 17 = .ok (.aload_n 1, 1) := by decide +kernel
theorem dX7_keep_18 : decode cX7_keep 18 = .ok (.aastore, 1) := by decide +kernel
theorem dX7_keep_19 : decode cX7_keep 19 = .ok (.aload_n 0, 1) := by decide +kernel
theorem dX7_keep_20 : decode cX7_keep 20 = .ok (.dup, 1) := by decide +kernel
theorem dX7_keep_21 : decode cX7_keep 21 = .ok (.getfield 31, 3) := by decide +kernel
theorem dX7_keep_24 : decode cX7_keep 24 = .ok (.iconst 1, 1) := by decide +kernel
theorem dX7_keep_25 : decode cX7_keep 25 = .ok (.iadd, 1) := by decide +kernel
theorem dX7_keep_26 : decode cX7_keep 26 = .ok (.putfield 31, 3) := by decide +kernel
theorem dX7_keep_29 : decode cX7_keep 29 = .ok (.return_, 1) := by decide +kernel
theorem dX7_keptAt_0 : decode cX7_keptAt 0 = .ok (.iload_n 1, 1) := by decide +kernel
theorem dX7_keptAt_1 : decode cX7_keptAt 1 = .ok (.ifCond .lt 17, 3) := by decide +kernel
theorem dX7_keptAt_4 : decode cX7_keptAt 4 = .ok (.iload_n 1, 1) := by decide +kernel
theorem dX7_keptAt_5 : decode cX7_keptAt 5 = .ok (.aload_n 0, 1) := by decide +kernel
theorem dX7_keptAt_6 : decode cX7_keptAt 6 = .ok (.getfield 31, 3) := by decide +kernel
theorem dX7_keptAt_9 : decode cX7_keptAt 9 = .ok (.if_icmp .ge 9, 3) := by decide +kernel
theorem dX7_keptAt_12 : decode cX7_keptAt 12 = .ok (.iload_n 1, 1) := by decide +kernel
theorem dX7_keptAt_13 : decode cX7_keptAt 13 = .ok (.bipush 40, 2) := by decide +kernel
theorem dX7_keptAt_15 : decode cX7_keptAt 15 = .ok (.if_icmp .lt 7, 3) := by decide +kernel
theorem dX7_keptAt_18 : decode cX7_keptAt 18 = .ok (.aconst_null, 1) := by decide +kernel
theorem dX7_keptAt_19 : decode cX7_keptAt 19 = .ok (.goto 9, 3) := by decide +kernel
theorem dX7_keptAt_22 : decode cX7_keptAt 22 = .ok (.aload_n 0, 1) := by decide +kernel
theorem dX7_keptAt_23 : decode cX7_keptAt 23 = .ok (.getfield 11, 3) := by decide +kernel
theorem dX7_keptAt_26 : decode cX7_keptAt 26 = .ok (.iload_n 1, 1) := by decide +kernel
theorem dX7_keptAt_27 : decode cX7_keptAt 27 = .ok (.aaload, 1) := by decide +kernel
theorem dX7_keptAt_28 : decode cX7_keptAt 28 = .ok (.areturn, 1) := by decide +kernel
theorem dX8_init_0 : decode cX8_init 0 = .ok (.aload_n 0, 1) := by decide +kernel
theorem dX8_init_1 : decode cX8_init 1 = .ok (.invokespecial 3, 3) := by decide +kernel
theorem dX8_init_4 : decode cX8_init 4 = .ok (.aload_n 0, 1) := by decide +kernel
theorem dX8_init_5 : decode cX8_init 5 = .ok (.bipush 6, 2) := by decide +kernel
theorem dX8_init_7 : decode cX8_init 7 = .ok (.anewarray 9, 3) := by decide +kernel
theorem dX8_init_10 : decode cX8_init 10 = .ok (.putfield 11, 3) := by decide +kernel
theorem dX8_init_13 : decode cX8_init 13 = .ok (.aload_n 0, 1) := by decide +kernel
theorem dX8_init_14 : decode cX8_init 14 = .ok (.sipush 256, 3) := by decide +kernel
theorem dX8_init_17 : decode cX8_init 17 = .ok (.newarray .boolean, 2) := by decide +kernel
theorem dX8_init_19 : decode cX8_init 19 = .ok (.putfield 17, 3) := by decide +kernel
theorem dX8_init_22 : decode cX8_init 22 = .ok (.aload_n 0, 1) := by decide +kernel
theorem dX8_init_23 : decode cX8_init 23 = .ok (.iconst 0, 1) := by decide +kernel
theorem dX8_init_24 : decode cX8_init 24 = .ok (.putfield 21, 3) := by decide +kernel
theorem dX8_init_27 : decode cX8_init 27 = .ok (.aload_n 0, 1) := by decide +kernel
theorem dX8_init_28 : decode cX8_init 28 = .ok (.iconst 0, 1) := by decide +kernel
theorem dX8_init_29 : decode cX8_init 29 = .ok (.putfield 25, 3) := by decide +kernel
theorem dX8_init_32 : decode cX8_init 32 = .ok (.return_, 1) := by decide +kernel
theorem dX8_first_0 : decode cX8_first 0 = .ok (.aload_n 0, 1) := by decide +kernel
theorem dX8_first_1 : decode cX8_first 1 = .ok (.getfield 21, 3) := by decide +kernel
theorem dX8_first_4 : decode cX8_first 4 = .ok (.ifCond .ne 7, 3) := by decide +kernel
theorem dX8_first_7 : decode cX8_first 7 = .ok (.aconst_null, 1) := by decide +kernel
theorem dX8_first_8 : decode cX8_first 8 = .ok (.goto 9, 3) := by decide +kernel
theorem dX8_first_11 : decode cX8_first 11 = .ok (.aload_n 0, 1) := by decide +kernel
theorem dX8_first_12 : decode cX8_first 12 = .ok (.getfield 11, 3) := by decide +kernel
theorem dX8_first_15 : decode cX8_first 15 = .ok (.iconst 0, 1) := by decide +kernel
theorem dX8_first_16 : decode cX8_first 16 = .ok (.aaload, 1) := by decide +kernel
theorem dX8_first_17 : decode cX8_first 17 = .ok (.areturn, 1) := by decide +kernel
theorem dX8_add_0 : decode cX8_add 0 = .ok (.aload_n 0, 1) := by decide +kernel
theorem dX8_add_1 : decode cX8_add 1 = .ok (.getfield 21, 3) := by decide +kernel
theorem dX8_add_4 : decode cX8_add 4 = .ok (.bipush 6, 2) := by decide +kernel
theorem dX8_add_6 : decode cX8_add 6 = .ok (.if_icmp .lt 4, 3) := by decide +kernel
theorem dX8_add_9 : decode cX8_add 9 = .ok (.return_, 1) := by decide +kernel
theorem dX8_add_10 : decode cX8_add 10 = .ok (.aload_n 0, 1) := by decide +kernel
theorem dX8_add_11 : decode cX8_add 11 = .ok (.invokevirtual 28, 3) := by decide +kernel
theorem dX8_add_14 : decode cX8_add 14 = .ok (.astore_n 2, 1) := by decide +kernel
theorem dX8_add_15 : decode cX8_add 15 = .ok (.aload_n 0, 1) := by decide +kernel
theorem dX8_add_16 : decode cX8_add 16 = .ok (.aload_n 2, 1) := by decide +kernel
theorem dX8_add_17 : decode cX8_add 17 = .ok (.ifnonnull 9, 3) := by decide +kernel
theorem dX8_add_20 : decode cX8_add 20 = .ok (.sipush 255, 3) := by decide +kernel
theorem dX8_add_23 : decode cX8_add 23 = .ok (.goto 13, 3) := by decide +kernel
theorem dX8_add_26 : decode cX8_add 26 = .ok (.aload_n 0, 1) := by decide +kernel
theorem dX8_add_27 : decode cX8_add 27 = .ok (.getfield 25, 3) := by decide +kernel
theorem dX8_add_30 : decode cX8_add 30 = .ok (.aload_n 2, 1) := by decide +kernel
theorem dX8_add_31 : decode cX8_add 31 = .ok (.aload_n 1, 1) := by decide +kernel
theorem dX8_add_32 : decode cX8_add 32 = .ok (.invokevirtual 32, 3) := by decide +kernel
theorem dX8_add_35 : decode cX8_add 35 = .ok (.iand, 1) := by decide +kernel
theorem dX8_add_36 : decode cX8_add 36 = .ok (.putfield 25, 3) := by decide +kernel
theorem dX8_add_39 : decode cX8_add 39 = .ok (.aload_n 0, 1) := by decide +kernel
theorem dX8_add_40 : decode cX8_add 40 = .ok (.getfield 11, 3) := by decide +kernel
theorem dX8_add_43 : decode cX8_add 43 = .ok (.aload_n 0, 1) := by decide +kernel
theorem dX8_add_44 : decode cX8_add 44 = .ok (.getfield 21, 3) := by decide +kernel
theorem dX8_add_47 : decode cX8_add 47 = .ok (.aload_n 1, 1) := by decide +kernel
theorem dX8_add_48 : decode cX8_add 48 = .ok (.aastore, 1) := by decide +kernel
theorem dX8_add_49 : decode cX8_add 49 = .ok (.aload_n 0, 1) := by decide +kernel
theorem dX8_add_50 : decode cX8_add 50 = .ok (.dup, 1) := by decide +kernel
theorem dX8_add_51 : decode cX8_add 51 = .ok (.getfield 21, 3) := by decide +kernel
theorem dX8_add_54 : decode cX8_add 54 = .ok (.iconst 1, 1) := by decide +kernel
theorem dX8_add_55 : decode cX8_add 55 = .ok (.iadd, 1) := by decide +kernel
theorem dX8_add_56 : decode cX8_add 56 = .ok (.putfield 21, 3) := by decide +kernel
theorem dX8_add_59 : decode cX8_add 59 = .ok (.aload_n 1, 1) := by decide +kernel
theorem dX8_add_60 : decode cX8_add 60 = .ok (.getfield 36, 3) := by decide +kernel
theorem dX8_add_63 : decode cX8_add 63 = .ok (.astore_n 3, 1) := by decide +kernel
theorem dX8_add_64 : decode cX8_add 64 = .ok (.iconst 0, 1) := by decide +kernel
theorem dX8_add_65 : decode cX8_add 65 = .ok (.istore 4, 2) := by decide +kernel
theorem dX8_add_67 : decode cX8_add 67 = .ok (.iload 4, 2) := by decide +kernel
theorem dX8_add_69 : decode cX8_add 69 = .ok (.aload_n 3, 1) := by decide +kernel
theorem dX8_add_70 : decode cX8_add 70 = .ok (.getfield 40, 3) := by decide +kernel
theorem dX8_add_73 : decode cX8_add 73 = .ok (.if_icmp .ge 41, 3) := by decide +kernel
theorem dX8_add_76 : decode cX8_add 76 = .ok (.aload_n 3, 1) := by decide +kernel
theorem dX8_add_77 : decode cX8_add 77 = .ok (.iload 4, 2) := by decide +kernel
theorem dX8_add_79 : decode cX8_add 79 = .ok (.invokevirtual 43, 3) := by decide +kernel
theorem dX8_add_82 : decode cX8_add 82 = .ok (.astore 5, 2) := by decide +kernel
theorem dX8_add_84 : decode cX8_add 84 = .ok (.aload 5, 2) := by decide +kernel
theorem dX8_add_86 : decode cX8_add 86 = .ok (.ifnull 22, 3) := by decide +kernel
theorem dX8_add_89 : decode cX8_add 89 = .ok (.iload 4, 2) := by decide +kernel
theorem dX8_add_91 : decode cX8_add 91 = .ok (.aload_n 1, 1) := by decide +kernel
theorem dX8_add_92 : decode cX8_add 92 = .ok (.getfield 47, 3) := by decide +kernel
theorem dX8_add_95 : decode cX8_add 95 = .ok (.if_icmp .eq 13, 3) := by decide +kernel
theorem dX8_add_98 : decode cX8_add 98 = .ok (.aload_n 0, 1) := by decide +kernel
theorem dX8_add_99 : decode cX8_add 99 = .ok (.aload 5, 2) := by decide +kernel
theorem dX8_add_101 : decode cX8_add 101 = .ok (.aload_n 1, 1) := by decide +kernel
theorem dX8_add_102 : decode cX8_add 102 = .ok (.invokevirtual 32, 3) := by decide +kernel
theorem dX8_add_105 : decode cX8_add 105 = .ok (.invokevirtual 50, 3) := by decide +kernel
theorem dX8_add_108 : decode cX8_add 108 = .ok (.iinc 4 1, 3) := by decide +kernel
theorem dX8_add_111 : decode cX8_add 111 = .ok (.goto (-44), 3) := by decide +kernel
theorem dX8_add_114 : decode cX8_add 114 = .ok (.return_, 1) := by decide +kernel
theorem dX8_noteShared_0 : decode cX8_noteShared 0 = .ok (.iload_n 1, 1) := by decide +kernel
theorem dX8_noteShared_1 : decode cX8_noteShared 1 = .ok (.ifCond .lt 19, 3) := by decide +kernel
theorem dX8_noteShared_4 : decode cX8_noteShared 4 = .ok (.iload_n 1, 1) := by decide +kernel
theorem dX8_noteShared_5 : decode cX8_noteShared 5 = .ok (.sipush 255, 3) := by decide +kernel
theorem dX8_noteShared_8 : decode cX8_noteShared 8 = .ok (.if_icmp .gt 12, 3) := by decide +kernel
theorem dX8_noteShared_11 : decode cX8_noteShared 11 = .ok (.aload_n 0, 1) := by decide +kernel
theorem dX8_noteShared_12 : decode cX8_noteShared 12 = .ok (.getfield 17, 3) := by decide +kernel
theorem dX8_noteShared_15 : decode cX8_noteShared 15 = .ok (.iload_n 1, 1) := by decide +kernel
theorem dX8_noteShared_16 : decode cX8_noteShared 16 = .ok (.baload, 1) := by decide +kernel
theorem dX8_noteShared_17 : decode cX8_noteShared 17 = .ok (.ifCond .eq 4, 3) := by decide +kernel
theorem dX8_noteShared_20 : decode cX8_noteShared 20 = .ok (.return_, 1) := by decide +kernel
theorem dX8_noteShared_21 : decode cX8_noteShared 21 = .ok (.iload_n 1, 1) := by decide +kernel
theorem dX8_noteShared_22 : decode cX8_noteShared 22 = .ok (.istore_n 2, 1) := by decide +kernel
theorem dX8_noteShared_23 : decode cX8_noteShared 23 = .ok (.iload_n 2, 1) := by decide +kernel
theorem dX8_noteShared_24 : decode cX8_noteShared 24 = .ok (.ifCond .le 19, 3) := by decide +kernel
theorem dX8_noteShared_27 : decode cX8_noteShared 27 = .ok (.aload_n 0, 1) := by decide +kernel
theorem dX8_noteShared_28 : decode cX8_noteShared 28 = .ok (.getfield 17, 3) := by decide +kernel
theorem dX8_noteShared_31 : decode cX8_noteShared 31 = .ok (.iload_n 2, 1) := by decide +kernel
theorem dX8_noteShared_32 : decode cX8_noteShared 32 = .ok (.iconst 1, 1) := by decide +kernel
theorem dX8_noteShared_33 : decode cX8_noteShared 33 = .ok (.bastore, 1) := by decide +kernel
theorem dX8_noteShared_34 : decode cX8_noteShared 34 = .ok (.iload_n 2, 1) := by decide +kernel
theorem dX8_noteShared_35 : decode cX8_noteShared 35 = .ok (.iconst 1, 1) := by decide +kernel
theorem dX8_noteShared_36 : decode cX8_noteShared 36 = .ok (.isub, 1) := by decide +kernel
theorem dX8_noteShared_37 : decode cX8_noteShared 37 = .ok (.iload_n 1, 1) := by decide +kernel
theorem dX8_noteShared_38 : decode cX8_noteShared 38 = .ok (.iand, 1) := by decide +kernel
theorem dX8_noteShared_39 : decode cX8_noteShared 39 = .ok (.istore_n 2, 1) := by decide +kernel
theorem dX8_noteShared_40 : decode cX8_noteShared 40 = .ok (.goto (-17), 3) := by decide +kernel
theorem dX8_noteShared_43 : decode cX8_noteShared 43 = .ok (.return_, 1) := by decide +kernel
theorem dX8_dropAll_0 : decode cX8_dropAll 0 = .ok (.aload_n 0, 1) := by decide +kernel
theorem dX8_dropAll_1 : decode cX8_dropAll 1 = .ok (.iconst 0, 1) := by decide +kernel
theorem dX8_dropAll_2 : decode cX8_dropAll 2 = .ok (.putfield 21, 3) := by decide +kernel
theorem dX8_dropAll_5 : decode cX8_dropAll 5 = .ok (.aload_n 0, 1) := by decide +kernel
theorem dX8_dropAll_6 : decode cX8_dropAll 6 = .ok (.iconst 0, 1) := by decide +kernel
theorem dX8_dropAll_7 : decode cX8_dropAll 7 = .ok (.putfield 25, 3) := by decide +kernel
theorem dX8_dropAll_10 : decode cX8_dropAll 10 = .ok (.iconst 0, 1) := by decide +kernel
theorem dX8_dropAll_11 : decode cX8_dropAll 11 = .ok (.istore_n 1, 1) := by decide +kernel
theorem dX8_dropAll_12 : decode cX8_dropAll 12 = .ok (.iload_n 1, 1) := by decide +kernel
theorem dX8_dropAll_13 : decode cX8_dropAll 13 = .ok (.sipush 255, 3) := by decide +kernel
theorem dX8_dropAll_16 : decode cX8_dropAll 16 = .ok (.if_icmp .gt 16, 3) := by decide +kernel
theorem dX8_dropAll_19 : decode cX8_dropAll 19 = .ok (.aload_n 0, 1) := by decide +kernel
theorem dX8_dropAll_20 : decode cX8_dropAll 20 = .ok (.getfield 17, 3) := by decide +kernel
theorem dX8_dropAll_23 : decode cX8_dropAll 23 = .ok (.iload_n 1, 1) := by decide +kernel
theorem dX8_dropAll_24 : decode cX8_dropAll 24 = .ok (.iconst 0, 1) := by decide +kernel
theorem dX8_dropAll_25 : decode cX8_dropAll 25 = .ok (.bastore, 1) := by decide +kernel
theorem dX8_dropAll_26 : decode cX8_dropAll 26 = .ok (.iinc 1 1, 3) := by decide +kernel
theorem dX8_dropAll_29 : decode cX8_dropAll 29 = .ok (.goto (-17), 3) := by decide +kernel
theorem dX8_dropAll_32 : decode cX8_dropAll 32 = .ok (.return_, 1) := by decide +kernel
theorem dX8_leastMarks_0 : decode cX8_leastMarks 0 = .ok (.iconst (-1), 1) := by decide +kernel
theorem dX8_leastMarks_1 : decode cX8_leastMarks 1 = .ok (.istore_n 1, 1) := by decide +kernel
theorem dX8_leastMarks_2 : decode cX8_leastMarks 2 = .ok (.iconst 0, 1) := by decide +kernel
theorem dX8_leastMarks_3 : decode cX8_leastMarks 3 = .ok (.istore_n 2, 1) := by decide +kernel
theorem dX8_leastMarks_4 : decode cX8_leastMarks 4 = .ok (.iconst 1, 1) := by decide +kernel
theorem dX8_leastMarks_5 : decode cX8_leastMarks 5 = .ok (.istore_n 3, 1) := by decide +kernel
theorem dX8_leastMarks_6 : decode cX8_leastMarks 6 = .ok (.iload_n 3, 1) := by decide +kernel
theorem dX8_leastMarks_7 : decode cX8_leastMarks 7 = .ok (.sipush 255, 3) := by decide +kernel
theorem dX8_leastMarks_10 : decode cX8_leastMarks 10 = .ok (.if_icmp .gt 53, 3) := by decide +kernel
theorem dX8_leastMarks_13 : decode cX8_leastMarks 13 = .ok (.iload_n 3, 1) := by decide +kernel
theorem dX8_leastMarks_14 : decode cX8_leastMarks 14 = .ok (.aload_n 0, 1) := by decide +kernel
theorem dX8_leastMarks_15 : decode cX8_leastMarks 15 = .ok (.getfield 25, 3) := by decide +kernel
theorem dX8_leastMarks_18 : decode cX8_leastMarks 18 = .ok (.iand, 1) := by decide +kernel
theorem dX8_leastMarks_19 : decode cX8_leastMarks 19 = .ok (.iload_n 3, 1) := by decide +kernel
theorem dX8_leastMarks_20 : decode cX8_leastMarks 20 = .ok (.if_icmp .ne 37, 3) := by decide +kernel
theorem dX8_leastMarks_23 : decode cX8_leastMarks 23 = .ok (.aload_n 0, 1) := by decide +kernel
theorem dX8_leastMarks_24 : decode cX8_leastMarks 24 = .ok (.getfield 17, 3) := by decide +kernel
theorem dX8_leastMarks_27 : decode cX8_leastMarks 27 = .ok (.iload_n 3, 1) := by decide +kernel
theorem dX8_leastMarks_28 : decode cX8_leastMarks 28 = .ok (.baload, 1) := by decide +kernel
theorem dX8_leastMarks_29 : decode cX8_leastMarks 29 = .ok (.ifCond .eq 6, 3) := by decide +kernel
theorem dX8_leastMarks_32 : decode cX8_leastMarks 32 = .ok (.goto 25, 3) := by decide +kernel
theorem dX8_leastMarks_35 : decode cX8_leastMarks 35 = .ok (.iload_n 3, 1) := by decide +kernel
theorem dX8_leastMarks_36 : decode cX8_leastMarks 36 = .ok (.invokestatic 54, 3) := by decide +kernel
theorem dX8_leastMarks_39 : decode cX8_leastMarks 39 = .ok (.istore 4, 2) := by decide +kernel
theorem dX8_leastMarks_41 : decode cX8_leastMarks 41 = .ok (.iload_n 1, 1) := by decide +kernel
theorem dX8_leastMarks_42 : decode cX8_leastMarks 42 = .ok (.iconst (-1), 1) := by decide +kernel
theorem dX8_leastMarks_43 : decode cX8_leastMarks 43 = .ok (.if_icmp .eq 9, 3) := by decide +kernel
theorem dX8_leastMarks_46 : decode cX8_leastMarks 46 = .ok (.iload 4, 2) := by decide +kernel
theorem dX8_leastMarks_48 : decode cX8_leastMarks 48 = .ok (.iload_n 2, 1) := by decide +kernel
theorem dX8_leastMarks_49 : decode cX8_leastMarks 49 = .ok (.if_icmp .ge 8, 3) := by decide +kernel
theorem dX8_leastMarks_52 : decode cX8_leastMarks 52 = .ok (.iload_n 3, 1) := by decide +kernel
theorem dX8_leastMarks_53 : decode cX8_leastMarks 53 = .ok (.istore_n 1, 1) := by decide +kernel
theorem dX8_leastMarks_54 : decode cX8_leastMarks 54 = .ok (.iload 4, 2) := by decide +kernel
theorem dX8_leastMarks_56 : decode cX8_leastMarks 56 = .ok (.istore_n 2, 1) := by decide +kernel
theorem dX8_leastMarks_57 : decode cX8_leastMarks 57 = .ok (.iinc 3 1, 3) := by decide +kernel
theorem dX8_leastMarks_60 : decode cX8_leastMarks 60 = .ok (.goto (-54), 3) := by decide +kernel
theorem dX8_leastMarks_63 : decode cX8_leastMarks 63 = .ok (.iload_n 1, 1) := by decide +kernel
theorem dX8_leastMarks_64 : decode cX8_leastMarks 64 = .ok (.ireturn, 1) := by decide +kernel
theorem dX9_init_0 : decode cX9_init 0 = .ok (.aload_n 0, 1) := by decide +kernel
theorem dX9_init_1 : decode cX9_init 1 = .ok (.invokespecial 3, 3) := by decide +kernel
theorem dX9_init_4 : decode cX9_init 4 = .ok (.aload_n 0, 1) := by decide +kernel
theorem dX9_init_5 : decode cX9_init 5 = .ok (.sipush 1600, 3) := by decide +kernel
theorem dX9_init_8 : decode cX9_init 8 = .ok (.newarray .byte, 2) := by decide +kernel
theorem dX9_init_10 : decode cX9_init 10 = .ok (.putfield 9, 3) := by decide +kernel
theorem dX9_init_13 : decode cX9_init 13 = .ok (.aload_n 0, 1) := by decide +kernel
theorem dX9_init_14 : decode cX9_init 14 = .ok (.iconst 0, 1) := by decide +kernel
theorem dX9_init_15 : decode cX9_init 15 = .ok (.putfield 15, 3) := by decide +kernel
theorem dX9_init_18 : decode cX9_init 18 = .ok (.return_, 1) := by decide +kernel
theorem dX9_append_0 : decode cX9_append 0 = .ok (.bipush 24, 2) := by decide +kernel
theorem dX9_append_2 : decode cX9_append 2 = .ok (.istore_n 2, 1) := by decide +kernel
theorem dX9_append_3 : decode cX9_append 3 = .ok (.iload_n 2, 1) := by decide +kernel
theorem dX9_append_4 : decode cX9_append 4 = .ok (.ifCond .lt 42, 3) := by decide +kernel
theorem dX9_append_7 : decode cX9_append 7 = .ok (.aload_n 0, 1) := by decide +kernel
theorem dX9_append_8 : decode cX9_append 8 = .ok (.getfield 15, 3) := by decide +kernel
theorem dX9_append_11 : decode cX9_append 11 = .ok (.sipush 1600, 3) := by decide +kernel
theorem dX9_append_14 : decode cX9_append 14 = .ok (.if_icmp .ge 26, 3) := by decide +kernel
theorem dX9_append_17 : decode cX9_append 17 = .ok (.aload_n 0, 1) := by decide +kernel
theorem dX9_append_18 : decode cX9_append 18 = .ok (.getfield 9, 3) := by decide +kernel
theorem dX9_append_21 : decode cX9_append 21 = .ok (.aload_n 0, 1) := by decide +kernel
theorem dX9_append_22 : decode cX9_append 22 = .ok (.getfield 15, 3) := by decide +kernel
theorem dX9_append_25 : decode cX9_append 25 = .ok (.iload_n 1, 1) := by decide +kernel
theorem dX9_append_26 : decode cX9_append 26 = .ok (.iload_n 2, 1) := by decide +kernel
theorem dX9_append_27 : decode cX9_append 27 = .ok (.ishr, 1) := by decide +kernel
theorem dX9_append_28 : decode cX9_append 28 = .ok (.i2b, 1) := by decide +kernel
theorem dX9_append_29 : decode cX9_append 29 = .ok (.bastore, 1) := by decide +kernel
theorem dX9_append_30 : decode cX9_append 30 = .ok (.aload_n 0, 1) := by decide +kernel
theorem dX9_append_31 : decode cX9_append 31 = .ok (.dup, 1) := by decide +kernel
theorem dX9_append_32 : decode cX9_append 32 = .ok (.getfield 15, 3) := by decide +kernel
theorem dX9_append_35 : decode cX9_append 35 = .ok (.iconst 1, 1) := by decide +kernel
theorem dX9_append_36 : decode cX9_append 36 = .ok (.iadd, 1) := by decide +kernel
theorem dX9_append_37 : decode cX9_append 37 = .ok (.putfield 15, 3) := by decide +kernel
theorem dX9_append_40 : decode cX9_append 40 = .ok (.iinc 2 (-8), 3) := by decide +kernel
theorem dX9_append_43 : decode cX9_append 43 = .ok (.goto (-40), 3) := by decide +kernel
theorem dX9_append_46 : decode cX9_append 46 = .ok (.return_, 1) := by decide +kernel
theorem dX9_byteAt_0 : decode cX9_byteAt 0 = .ok (.iload_n 1, 1) := by decide +kernel
theorem dX9_byteAt_1 : decode cX9_byteAt 1 = .ok (.ifCond .lt 11, 3) := by decide +kernel
theorem dX9_byteAt_4 : decode cX9_byteAt 4 = .ok (.iload_n 1, 1) := by decide +kernel
theorem dX9_byteAt_5 : decode cX9_byteAt 5 = .ok (.aload_n 0, 1) := by decide +kernel
theorem dX9_byteAt_6 : decode cX9_byteAt 6 = .ok (.getfield 15, 3) := by decide +kernel
theorem dX9_byteAt_9 : decode cX9_byteAt 9 = .ok (.if_icmp .lt 7, 3) := by decide +kernel
theorem dX9_byteAt_12 : decode cX9_byteAt 12 = .ok (.iconst (-1), 1) := by decide +kernel
theorem dX9_byteAt_13 : decode cX9_byteAt 13 = .ok (.goto 13, 3) := by decide +kernel
theorem dX9_byteAt_16 : decode cX9_byteAt 16 = .ok (.aload_n 0, 1) := by decide +kernel
theorem dX9_byteAt_17 : decode cX9_byteAt 17 = .ok (.getfield 9, 3) := by decide +kernel
theorem dX9_byteAt_20 : decode cX9_byteAt 20 = .ok (.iload_n 1, 1) := by decide +kernel
theorem dX9_byteAt_21 : decode cX9_byteAt 21 = .ok (.baload, 1) := by decide +kernel
theorem dX9_byteAt_22 : decode cX9_byteAt 22 = .ok (.sipush 255, 3) := by decide +kernel
theorem dX9_byteAt_25 : decode cX9_byteAt 25 = .ok (.iand, 1) := by decide +kernel
theorem dX9_byteAt_26 : decode cX9_byteAt 26 = .ok (.ireturn, 1) := by decide +kernel
theorem dX10_init_0 : decode cX10_init 0 = .ok (.aload_n 0, 1) := by decide +kernel
theorem dX10_init_1 : decode cX10_init 1 = .ok (.invokespecial 1, 3) := by decide +kernel
theorem dX10_init_4 : decode cX10_init 4 = .ok (.aload_n 0, 1) := by decide +kernel
theorem dX10_init_5 : decode cX10_init 5 = .ok (.iconst 0, 1) := by decide +kernel
theorem dX10_init_6 : decode cX10_init 6 = .ok (.putfield 7, 3) := by decide +kernel
theorem dX10_init_9 : decode cX10_init 9 = .ok (.aload_n 0, 1) := by decide +kernel
theorem dX10_init_10 : decode cX10_init 10 = .ok (.iconst 0, 1) := by decide +kernel
theorem dX10_init_11 : decode cX10_init 11 = .ok (.putfield 13, 3) := by decide +kernel
theorem dX10_init_14 : decode cX10_init 14 = .ok (.aload_n 0, 1) := by decide +kernel
theorem dX10_init_15 : decode cX10_init 15 = .ok (.iconst 0, 1) := by decide +kernel
theorem dX10_init_16 : decode cX10_init 16 = .ok (.putfield 16, 3) := by decide +kernel
theorem dX10_init_19 : decode cX10_init 19 = .ok (.aload_n 0, 1) := by decide +kernel
theorem dX10_init_20 : decode cX10_init 20 = .ok (.lconst 0, 1) := by decide +kernel
theorem dX10_init_21 : decode cX10_init 21 = .ok (.putfield 19, 3) := by decide +kernel
theorem dX10_init_24 : decode cX10_init 24 = .ok (.aload_n 0, 1) := by decide +kernel
theorem dX10_init_25 : decode cX10_init 25 = .ok (.lconst 0, 1) := by decide +kernel
theorem dX10_init_26 : decode cX10_init 26 = .ok (.putfield 23, 3) := by decide +kernel
theorem dX10_init_29 : decode cX10_init 29 = .ok (.aload_n 0, 1) := by decide +kernel
theorem dX10_init_30 : decode cX10_init 30 = .ok (.lconst 0, 1) := by decide +kernel
theorem dX10_init_31 : decode cX10_init 31 = .ok (.putfield 26, 3) := by decide +kernel
theorem dX10_init_34 : decode cX10_init 34 = .ok (.aload_n 0, 1) := by decide +kernel
theorem dX10_init_35 : decode cX10_init 35 = .ok (.iconst 0, 1) := by decide +kernel
theorem dX10_init_36 : decode cX10_init 36 = .ok (.putfield 29, 3) := by decide +kernel
theorem dX10_init_39 : decode cX10_init 39 = .ok (.aload_n 0, 1) := by decide +kernel
theorem dX10_init_40 : decode cX10_init 40 = .ok (.aload_n 1, 1) := by decide +kernel
theorem dX10_init_41 : decode cX10_init 41 = .ok (.putfield 32, 3) := by decide +kernel
theorem dX10_init_44 : decode cX10_init 44 = .ok (.return_, 1) := by decide +kernel
theorem dX10_rewind_0 : decode cX10_rewind 0 = .ok (.aload_n 0, 1) := by decide +kernel
theorem dX10_rewind_1 : decode cX10_rewind 1 = .ok (.iconst 0, 1) := by decide +kernel
theorem dX10_rewind_2 : decode cX10_rewind 2 = .ok (.putfield 7, 3) := by decide +kernel
theorem dX10_rewind_5 : decode cX10_rewind 5 = .ok (.return_, 1) := by decide +kernel
theorem dX10_advance_0 : decode cX10_advance 0 = .ok (.aload_n 0, 1) := by decide +kernel
theorem dX10_advance_1 : decode cX10_advance 1 = .ok (.getfield 7, 3) := by decide +kernel
theorem dX10_advance_4 : decode cX10_advance 4 = .ok (.aload_n 0, 1) := by decide +kernel
theorem dX10_advance_5 : decode cX10_advance 5 = .ok (.getfield 32, 3) := by decide +kernel
theorem dX10_advance_8 : decode cX10_advance 8 = .ok (.getfield 36, 3) := by decide +kernel
theorem dX10_advance_11 : decode cX10_advance 11 = .ok (.if_icmp .ge 33, 3) := by decide +kernel
theorem dX10_advance_14 : decode cX10_advance 14 = .ok (.aload_n 0, 1) := by decide +kernel
theorem dX10_advance_15 : decode cX10_advance 15 = .ok (.getfield 32, 3) := by decide +kernel
theorem dX10_advance_18 : decode cX10_advance 18 = .ok (.aload_n 0, 1) := by decide +kernel
theorem dX10_advance_19 : decode cX10_advance 19 = .ok (.getfield 7, 3) := by decide +kernel
theorem dX10_advance_22 : decode cX10_advance 22 = .ok (.invokevirtual 41, 3) := by decide +kernel
theorem dX10_advance_25 : decode cX10_advance 25 = .ok (.invokestatic 45, 3) := by decide +kernel
theorem dX10_advance_28 : decode cX10_advance 28 = .ok (.ifCond .eq 16, 3) := by decide +kernel
theorem dX10_advance_31 : decode cX10_advance 31 = .ok (.aload_n 0, 1) := by decide +kernel
theorem dX10_advance_32 : decode cX10_advance 32 = .ok (.dup, 1) := by decide +kernel
theorem dX10_advance_33 : decode cX10_advance 33 = .ok (.getfield 7, 3) := by decide +kernel
theorem dX10_advance_36 : decode cX10_advance 36 = .ok (.iconst 1, 1) := by decide +kernel
theorem dX10_advance_37 : decode cX10_advance 37 = .ok (.iadd, 1) := by decide +kernel
theorem dX10_advance_38 : decode cX10_advance 38 = .ok (.putfield 7, 3) := by decide +kernel
theorem dX10_advance_41 : decode cX10_advance 41 = .ok (.goto (-41), 3) := by decide +kernel
theorem dX10_advance_44 : decode cX10_advance 44 = .ok (.aload_n 0, 1) := by decide +kernel
theorem dX10_advance_45 : decode cX10_advance 45 = .ok (.aload_n 0, 1) := by decide +kernel
theorem dX10_advance_46 : decode cX10_advance 46 = .ok (.getfield 7, 3) := by decide +kernel
theorem dX10_advance_49 : decode cX10_advance 49 = .ok (.putfield 16, 3) := by decide +kernel
theorem dX10_advance_52 : decode cX10_advance 52 = .ok (.aload_n 0, 1) := by decide +kernel
theorem dX10_advance_53 : decode cX10_advance 53 = .ok (.getfield 32, 3) := by decide +kernel
theorem dX10_advance_56 : decode cX10_advance 56 = .ok (.aload_n 0, 1) := by decide +kernel
theorem dX10_advance_57 : decode cX10_advance 57 = .ok (.getfield 7, 3) := by decide +kernel
theorem dX10_advance_60 : decode cX10_advance 60 = .ok (.invokevirtual 41, 3) := by decide +kernel
theorem dX10_advance_63 : decode cX10_advance 63 = .ok (.istore_n 1, 1) := by decide +kernel
theorem dX10_advance_64 : decode cX10_advance 64 = .ok (.iload_n 1, 1) := by decide +kernel
theorem dX10_advance_65 : decode cX10_advance 65 = .ok (.invokestatic 49, 3) := by decide +kernel
theorem dX10_advance_68 : decode cX10_advance 68 = .ok (.ifCond .eq 10, 3) := by decide +kernel
theorem dX10_advance_71 : decode cX10_advance 71 = .ok (.aload_n 0, 1) := by decide +kernel
theorem dX10_advance_72 : decode cX10_advance 72 = .ok (.invokevirtual 52, 3) := by decide +kernel
theorem dX10_advance_75 : decode cX10_advance 75 = .ok (.goto 52, 3) := by decide +kernel
theorem dX10_advance_78 : decode cX10_advance 78 = .ok (.iload_n 1, 1) := by decide +kernel
theorem dX10_advance_79 : decode cX10_advance 79 = .ok (.bipush 34, 2) := by decide +kernel
theorem dX10_advance_81 : decode cX10_advance 81 = .ok (.if_icmp .ne 10, 3) := by decide +kernel
theorem dX10_advance_84 : decode cX10_advance 84 = .ok (.aload_n 0, 1) := by decide +kernel
theorem dX10_advance_85 : decode cX10_advance 85 = .ok (.invokevirtual 55, 3) := by decide +kernel
theorem dX10_advance_88 : decode cX10_advance 88 = .ok (.goto 39, 3) := by decide +kernel
theorem dX10_advance_91 : decode cX10_advance 91 = .ok (.aload_n 0, 1) := by decide +kernel
theorem dX10_advance_92 : decode cX10_advance 92 = .ok (.aload_n 0, 1) := by decide +kernel
theorem dX10_advance_93 : decode cX10_advance 93 = .ok (.getfield 7, 3) := by decide +kernel
theorem dX10_advance_96 : decode cX10_advance 96 = .ok (.aload_n 0, 1) := by decide +kernel
theorem dX10_advance_97 : decode cX10_advance 97 = .ok (.getfield 32, 3) := by decide +kernel
theorem dX10_advance_100 : decode cX10_advance 100 = .ok (.getfield 36, 3) := by decide +kernel
theorem dX10_advance_103 : decode cX10_advance 103 = .ok (.if_icmp .lt 7, 3) := by decide +kernel
theorem dX10_advance_106 : decode cX10_advance 106 = .ok (.iconst 0, 1) := by decide +kernel
theorem dX10_advance_107 : decode cX10_advance 107 = .ok (.goto 7, 3) := by decide +kernel
theorem dX10_advance_110 : decode cX10_advance 110 = .ok (.iload_n 1, 1) := by decide +kernel
theorem dX10_advance_111 : decode cX10_advance 111 = .ok (.invokestatic 58, 3) := by decide +kernel
theorem dX10_advance_114 : decode cX10_advance 114 = .ok (.putfield 13, 3) := by decide +kernel
theorem dX10_advance_117 : decode cX10_advance 117 = .ok (.aload_n 0, 1) := by decide +kernel
theorem dX10_advance_118 : decode cX10_advance 118 = .ok (.dup, 1) := by decide +kernel
theorem dX10_advance_119 : decode cX10_advance 119 = .ok (.getfield 7, 3) := by decide +kernel
theorem dX10_advance_122 : decode cX10_advance 122 = .ok (.iconst 1, 1) := by decide +kernel
theorem dX10_advance_123 : decode cX10_advance 123 = .ok (.iadd, 1) := by decide +kernel
theorem dX10_advance_124 : decode cX10_advance 124 = .ok (.putfield 7, 3) := by decide +kernel
theorem dX10_advance_127 : decode cX10_advance 127 = .ok (.return_, 1) := by decide +kernel
theorem dX10_takeWord_0 : decode cX10_takeWord 0 = .ok (.aload_n 0, 1) := by decide +kernel
theorem dX10_takeWord_1 : decode cX10_takeWord 1 = .ok (.iconst 1, 1) := by decide +kernel
theorem dX10_takeWord_2 : decode cX10_takeWord 2 = .ok (.putfield 13, 3) := by decide +kernel
theorem dX10_takeWord_5 : decode cX10_takeWord 5 = .ok (.aload_n 0, 1) := by decide +kernel
theorem dX10_takeWord_6 : decode cX10_takeWord 6 = .ok (.lconst 0, 1) := by decide +kernel
theorem dX10_takeWord_7 : decode cX10_takeWord 7 = .ok (.putfield 19, 3) := by decide +kernel
theorem dX10_takeWord_10 : decode cX10_takeWord 10 = .ok (.iconst 0, 1) := by decide +kernel
theorem dX10_takeWord_11 : decode cX10_takeWord 11 = .ok (.istore_n 1, 1) := by decide +kernel
theorem dX10_takeWord_12 : decode cX10_takeWord 12 = .ok (.iload_n 1, 1) := by decide +kernel
theorem dX10_takeWord_13 : decode cX10_takeWord 13 = .ok (.bipush 8, 2) := by decide +kernel
theorem dX10_takeWord_15 : decode cX10_takeWord 15 = .ok (.if_icmp .ge 64, 3) := by decide +kernel
theorem dX10_takeWord_18 : decode cX10_takeWord 18 = .ok (.aload_n 0, 1) := by decide +kernel
theorem dX10_takeWord_19 : decode cX10_takeWord 19 = .ok (.getfield 32, 3) := by decide +kernel
theorem dX10_takeWord_22 : decode cX10_takeWord 22 = .ok (.aload_n 0, 1) := by decide +kernel
theorem dX10_takeWord_23 : decode cX10_takeWord 23 = .ok (.getfield 7, 3) := by decide +kernel
theorem dX10_takeWord_26 : decode cX10_takeWord 26 = .ok (.invokevirtual 41, 3) := by decide +kernel
theorem dX10_takeWord_29 : decode cX10_takeWord 29 = .ok (.invokestatic 49, 3) := by decide +kernel
theorem dX10_takeWord_32 : decode cX10_takeWord 32 = .ok (.ifCond .eq 47, 3) := by decide +kernel
theorem dX10_takeWord_35 : decode cX10_takeWord 35 = .ok (.aload_n 0, 1) := by decide +kernel
theorem dX10_takeWord_36 : decode cX10_takeWord 36 = .ok (.dup, 1) := by decide +kernel
theorem dX10_takeWord_37 : decode cX10_takeWord 37 = .ok (.getfield 19, 3) := by decide +kernel
theorem dX10_takeWord_40 : decode cX10_takeWord 40 = .ok (.aload_n 0, 1) := by decide +kernel
theorem dX10_takeWord_41 : decode cX10_takeWord 41 = .ok (.getfield 32, 3) := by decide +kernel
theorem dX10_takeWord_44 : decode cX10_takeWord 44 = .ok (.aload_n 0, 1) := by decide +kernel
theorem dX10_takeWord_45 : decode cX10_takeWord 45 = .ok (.getfield 7, 3) := by decide +kernel
theorem dX10_takeWord_48 : decode cX10_takeWord 48 = .ok (.invokevirtual 41, 3) := by decide +kernel
theorem dX10_takeWord_51 : decode cX10_takeWord 51 = .ok (.bipush 96, 2) := by decide +kernel
theorem dX10_takeWord_53 : decode cX10_takeWord 53 = .ok (.isub, 1) := by decide +kernel
theorem dX10_takeWord_54 : decode cX10_takeWord 54 = .ok (.i2l, 1) := by decide +kernel
theorem dX10_takeWord_55 : decode cX10_takeWord 55 = .ok (.iload_n 1, 1) := by decide +kernel
theorem dX10_takeWord_56 : decode cX10_takeWord 56 = .ok (.iconst 5, 1) := by decide +kernel
theorem dX10_takeWord_57 : decode cX10_takeWord 57 = .ok (.imul, 1) := by decide +kernel
theorem dX10_takeWord_58 : decode cX10_takeWord 58 = .ok (.lshl, 1) := by decide +kernel
theorem dX10_takeWord_59 : decode cX10_takeWord 59 = .ok (.lor, 1) := by decide +kernel
theorem dX10_takeWord_60 : decode cX10_takeWord 60 = .ok (.putfield 19, 3) := by decide +kernel
theorem dX10_takeWord_63 : decode cX10_takeWord 63 = .ok (.aload_n 0, 1) := by decide +kernel
theorem dX10_takeWord_64 : decode cX10_takeWord 64 = .ok (.dup, 1) := by decide +kernel
theorem dX10_takeWord_65 : decode cX10_takeWord 65 = .ok (.getfield 7, 3) := by decide +kernel
theorem dX10_takeWord_68 : decode cX10_takeWord 68 = .ok (.iconst 1, 1) := by decide +kernel
theorem dX10_takeWord_69 : decode cX10_takeWord 69 = .ok (.iadd, 1) := by decide +kernel
theorem dX10_takeWord_70 : decode cX10_takeWord 70 = .ok (.putfield 7, 3) := by decide +kernel
theorem dX10_takeWord_73 : decode cX10_takeWord 73 = .ok (.iinc 1 1, 3) := by decide +kernel
theorem dX10_takeWord_76 : decode cX10_takeWord 76 = .ok (.goto (-64), 3) := by decide +kernel
theorem dX10_takeWord_79 : decode cX10_takeWord 79 = .ok (.return_, 1) := by decide +kernel
theorem dX10_takeText_0 : decode cX10_takeText 0 = .ok (.aload_n 0, 1) := by decide +kernel
theorem dX10_takeText_1 : decode cX10_takeText 1 = .ok (.dup, 1) := by decide +kernel
theorem dX10_takeText_2 : decode cX10_takeText 2 = .ok (.getfield 7, 3) := by decide +kernel
theorem dX10_takeText_5 : decode cX10_takeText 5 = .ok (.iconst 1, 1) := by decide +kernel
theorem dX10_takeText_6 : decode cX10_takeText 6 = .ok (.iadd, 1) := by decide +kernel
theorem dX10_takeText_7 : decode cX10_takeText 7 = .ok (.putfield 7, 3) := by decide +kernel
theorem dX10_takeText_10 : decode cX10_takeText 10 = .ok (.aload_n 0, 1) := by decide +kernel
theorem dX10_takeText_11 : decode cX10_takeText 11 = .ok (.lconst 0, 1) := by decide +kernel
theorem dX10_takeText_12 : decode cX10_takeText 12 = .ok (.putfield 23, 3) := by decide +kernel
theorem dX10_takeText_15 : decode cX10_takeText 15 = .ok (.aload_n 0, 1) := by decide +kernel
theorem dX10_takeText_16 : decode cX10_takeText 16 = .ok (.lconst 0, 1) := by decide +kernel
theorem dX10_takeText_17 : decode cX10_takeText 17 = .ok (.putfield 26, 3) := by decide +kernel
theorem dX10_takeText_20 : decode cX10_takeText 20 = .ok (.aload_n 0, 1) := by decide +kernel
theorem dX10_takeText_21 : decode cX10_takeText 21 = .ok (.iconst 0, 1) := by decide +kernel
theorem dX10_takeText_22 : decode cX10_takeText 22 = .ok (.putfield 29, 3) := by decide +kernel
theorem dX10_takeText_25 : decode cX10_takeText 25 = .ok (.iconst 0, 1) := by decide +kernel
theorem dX10_takeText_26 : decode cX10_takeText 26 = .ok (.istore_n 1, 1) := by decide +kernel
theorem dX10_takeText_27 : decode cX10_takeText 27 = .ok (.iload_n 1, 1) := by decide +kernel
theorem dX10_takeText_28 : decode cX10_takeText 28 = .ok (.bipush 16, 2) := by decide +kernel
theorem dX10_takeText_30 : decode cX10_takeText 30 = .ok (.if_icmp .ge 51, 3) := by decide +kernel
theorem dX10_takeText_33 : decode cX10_takeText 33 = .ok (.aload_n 0, 1) := by decide +kernel
theorem dX10_takeText_34 : decode cX10_takeText 34 = .ok (.getfield 32, 3) := by decide +kernel
theorem dX10_takeText_37 : decode cX10_takeText 37 = .ok (.aload_n 0, 1) := by decide +kernel
theorem dX10_takeText_38 : decode cX10_takeText 38 = .ok (.getfield 7, 3) := by decide +kernel
theorem dX10_takeText_41 : decode cX10_takeText 41 = .ok (.invokevirtual 41, 3) := by decide +kernel
theorem dX10_takeText_44 : decode cX10_takeText 44 = .ok (.invokestatic 61, 3) := by decide +kernel
theorem dX10_takeText_47 : decode cX10_takeText 47 = .ok (.ifCond .eq 34, 3) := by decide +kernel
theorem dX10_takeText_50 : decode cX10_takeText 50 = .ok (.aload_n 0, 1) := by decide +kernel
theorem dX10_takeText_51 : decode cX10_takeText 51 = .ok (.aload_n 0, 1) := by decide +kernel
theorem dX10_takeText_52 : decode cX10_takeText 52 = .ok (.getfield 32, 3) := by decide +kernel
theorem dX10_takeText_55 : decode cX10_takeText 55 = .ok (.aload_n 0, 1) := by decide +kernel
theorem dX10_takeText_56 : decode cX10_takeText 56 = .ok (.getfield 7, 3) := by decide +kernel
theorem dX10_takeText_59 : decode cX10_takeText 59 = .ok (.invokevirtual 41, 3) := by decide +kernel
theorem dX10_takeText_62 : decode cX10_takeText 62 = .ok (.invokevirtual 64, 3) := by decide +kernel
theorem dX10_takeText_65 : decode cX10_takeText 65 = .ok (.aload_n 0, 1) := by decide +kernel
theorem dX10_takeText_66 : decode cX10_takeText 66 = .ok (.dup, 1) := by decide +kernel
theorem dX10_takeText_67 : decode cX10_takeText 67 = .ok (.getfield 7, 3) := by decide +kernel
theorem dX10_takeText_70 : decode cX10_takeText 70 = .ok (.iconst 1, 1) := by decide +kernel
theorem dX10_takeText_71 : decode cX10_takeText 71 = .ok (.iadd, 1) := by decide +kernel
theorem dX10_takeText_72 : decode cX10_takeText 72 = .ok (.putfield 7, 3) := by decide +kernel
theorem dX10_takeText_75 : decode cX10_takeText 75 = .ok (.iinc 1 1, 3) := by decide +kernel
theorem dX10_takeText_78 : decode cX10_takeText 78 = .ok (.goto (-51), 3) := by decide +kernel
theorem dX10_takeText_81 : decode cX10_takeText 81 = .ok (.aload_n 0, 1) := by decide +kernel
theorem dX10_takeText_82 : decode cX10_takeText 82 = .ok (.aload_n 0, 1) := by decide +kernel
theorem dX10_takeText_83 : decode cX10_takeText 83 = .ok (.getfield 32, 3) := by decide +kernel
theorem dX10_takeText_86 : decode cX10_takeText 86 = .ok (.aload_n 0, 1) := by decide +kernel
theorem dX10_takeText_87 : decode cX10_takeText 87 = .ok (.getfield 7, 3) := by decide +kernel
theorem dX10_takeText_90 : decode cX10_takeText 90 = .ok (.invokevirtual 41, 3) := by decide +kernel
theorem dX10_takeText_93 : decode cX10_takeText 93 = .ok (.bipush 34, 2) := by decide +kernel
theorem dX10_takeText_95 : decode cX10_takeText 95 = .ok (.if_icmp .ne 7, 3) := by decide +kernel
theorem dX10_takeText_98 : decode cX10_takeText 98 = .ok (.iconst 2, 1) := by decide +kernel
theorem dX10_takeText_99 : decode cX10_takeText 99 = .ok (.goto 5, 3) := by decide +kernel
theorem dX10_takeText_102 : decode cX10_takeText 102 = .ok (.bipush 7, 2) := by decide +kernel
theorem dX10_takeText_104 : decode cX10_takeText 104 = .ok (.putfield 13, 3) := by decide +kernel
theorem dX10_takeText_107 : decode cX10_takeText 107 = .ok (.aload_n 0, 1) := by decide +kernel
theorem dX10_takeText_108 : decode cX10_takeText 108 = .ok (.dup, 1) := by decide +kernel
theorem dX10_takeText_109 : decode cX10_takeText 109 = .ok (.getfield 7, 3) := by decide +kernel
theorem dX10_takeText_112 : decode cX10_takeText 112 = .ok (.iconst 1, 1) := by decide +kernel
theorem dX10_takeText_113 : decode cX10_takeText 113 = .ok (.iadd, 1) := by decide +kernel
theorem dX10_takeText_114 : decode cX10_takeText 114 = .ok (.putfield 7, 3) := by decide +kernel
theorem dX10_takeText_117 : decode cX10_takeText 117 = .ok (.return_, 1) := by decide +kernel
theorem dX10_putTextByte_0 : decode cX10_putTextByte 0 = .ok (.aload_n 0, 1) := by decide +kernel
theorem dX10_putTextByte_1 : decode cX10_putTextByte 1 = .ok (.getfield 29, 3) := by decide +kernel
theorem dX10_putTextByte_4 : decode cX10_putTextByte 4 = .ok (.bipush 8, 2) := by decide +kernel
theorem dX10_putTextByte_6 : decode cX10_putTextByte 6 = .ok (.if_icmp .ge 25, 3) := by decide +kernel
theorem dX10_putTextByte_9 : decode cX10_putTextByte 9 = .ok (.aload_n 0, 1) := by decide +kernel
theorem dX10_putTextByte_10 : decode cX10_putTextByte 10 = .ok (.dup, 1) := by decide +kernel
theorem dX10_putTextByte_11 : decode cX10_putTextByte 11 = .ok (.getfield 23, 3) := by decide +kernel
theorem dX10_putTextByte_14 : decode cX10_putTextByte 14 = .ok (.iload_n 1, 1) := by decide +kernel
theorem dX10_putTextByte_15 : decode cX10_putTextByte 15 = .ok (.i2l, 1) := by decide +kernel
theorem dX10_putTextByte_16 : decode cX10_putTextByte 16 = .ok (.bipush 8, 2) := by decide +kernel
theorem dX10_putTextByte_18 : decode cX10_putTextByte 18 = .ok (.aload_n 0, 1) := by decide +kernel
theorem dX10_putTextByte_19 : decode cX10_putTextByte 19 = .ok (.getfield 29, 3) := by decide +kernel
theorem dX10_putTextByte_22 : decode cX10_putTextByte 22 = .ok (.imul, 1) := by decide +kernel
theorem dX10_putTextByte_23 : decode cX10_putTextByte 23 = .ok (.lshl, 1) := by decide +kernel
theorem dX10_putTextByte_24 : decode cX10_putTextByte 24 = .ok (.lor, 1) := by decide +kernel
theorem dX10_putTextByte_25 : decode cX10_putTextByte 25 = .ok (.putfield 23, 3) := by decide +kernel
theorem dX10_putTextByte_28 : decode cX10_putTextByte 28 = .ok (.goto 25, 3) := by decide +kernel
theorem dX10_putTextByte_31 : decode cX10_putTextByte 31 = .ok (.aload_n 0, 1) := by decide +kernel
theorem dX10_putTextByte_32 : decode cX10_putTextByte 32 = .ok (.dup, 1) := by decide +kernel
theorem dX10_putTextByte_33 : decode cX10_putTextByte 33 = .ok (.getfield 26, 3) := by decide +kernel
theorem dX10_putTextByte_36 : decode cX10_putTextByte 36 = .ok (.iload_n 1, 1) := by decide +kernel
theorem dX10_putTextByte_37 : decode cX10_putTextByte 37 = .ok (.i2l, 1) := by decide +kernel
theorem dX10_putTextByte_38 : decode cX10_putTextByte 38 = .ok (.bipush 8, 2) := by decide +kernel
theorem dX10_putTextByte_40 : decode cX10_putTextByte 40 = .ok (.aload_n 0, 1) := by decide +kernel
theorem dX10_putTextByte_41 : decode cX10_putTextByte 41 = .ok (.getfield 29, 3) := by decide +kernel
theorem dX10_putTextByte_44 : decode cX10_putTextByte 44 = .ok (.bipush 8, 2) := by decide +kernel
theorem dX10_putTextByte_46 : decode cX10_putTextByte 46 = .ok (.isub, 1) := by decide +kernel
theorem dX10_putTextByte_47 : decode cX10_putTextByte 47 = .ok (.imul, 1) := by decide +kernel
theorem dX10_putTextByte_48 : decode cX10_putTextByte 48 = .ok (.lshl, 1) := by decide +kernel
theorem dX10_putTextByte_49 : decode cX10_putTextByte 49 = .ok (.lor, 1) := by decide +kernel
theorem dX10_putTextByte_50 : decode cX10_putTextByte 50 = .ok (.putfield 26, 3) := by decide +kernel
theorem dX10_putTextByte_53 : decode cX10_putTextByte 53 = .ok (.aload_n 0, 1) := by decide +kernel
theorem dX10_putTextByte_54 : decode cX10_putTextByte 54 = .ok (.dup, 1) := by decide +kernel
theorem dX10_putTextByte_55 : decode cX10_putTextByte 55 = .ok (.getfield 29, 3) := by decide +kernel
theorem dX10_putTextByte_58 : decode cX10_putTextByte 58 = .ok (.iconst 1, 1) := by decide +kernel
theorem dX10_putTextByte_59 : decode cX10_putTextByte 59 = .ok (.iadd, 1) := by decide +kernel
theorem dX10_putTextByte_60 : decode cX10_putTextByte 60 = .ok (.putfield 29, 3) := by decide +kernel
theorem dX10_putTextByte_63 : decode cX10_putTextByte 63 = .ok (.return_, 1) := by decide +kernel
theorem dX10_signToken_0 : decode cX10_signToken 0 = .ok (.iload_n 0, 1) := by decide +kernel
theorem dX10_signToken_1 : decode cX10_signToken 1 = .ok (.tableswitch 60 33 41 #[53, 60, 51, 60, 60, 60, 60, 55, 57], 51) := by decide +kernel
theorem dX10_signToken_52 : decode cX10_signToken 52 = .ok (.iconst 3, 1) := by decide +kernel
theorem dX10_signToken_53 : decode cX10_signToken 53 = .ok (.ireturn, 1) := by decide +kernel
theorem dX10_signToken_54 : decode cX10_signToken 54 = .ok (.iconst 4, 1) := by decide +kernel
theorem dX10_signToken_55 : decode cX10_signToken 55 = .ok (.ireturn, 1) := by decide +kernel
theorem dX10_signToken_56 : decode cX10_signToken 56 = .ok (.iconst 5, 1) := by decide +kernel
theorem dX10_signToken_57 : decode cX10_signToken 57 = .ok (.ireturn, 1) := by decide +kernel
theorem dX10_signToken_58 : decode cX10_signToken 58 = .ok (.bipush 6, 2) := by decide +kernel
theorem dX10_signToken_60 : decode cX10_signToken 60 = .ok (.ireturn, 1) := by decide +kernel
theorem dX10_signToken_61 : decode cX10_signToken 61 = .ok (.bipush 7, 2) := by decide +kernel
theorem dX10_signToken_63 : decode cX10_signToken 63 = .ok (.ireturn, 1) := by decide +kernel
theorem dX10_isBlank_0 : decode cX10_isBlank 0 = .ok (.iload_n 0, 1) := by decide +kernel
theorem dX10_isBlank_1 : decode cX10_isBlank 1 = .ok (.bipush 32, 2) := by decide +kernel
theorem dX10_isBlank_3 : decode cX10_isBlank 3 = .ok (.if_icmp .eq 9, 3) := by decide +kernel
theorem dX10_isBlank_6 : decode cX10_isBlank 6 = .ok (.iload_n 0, 1) := by decide +kernel
theorem dX10_isBlank_7 : decode cX10_isBlank 7 = .ok (.bipush 10, 2) := by decide +kernel
theorem dX10_isBlank_9 : decode cX10_isBlank 9 = .ok (.if_icmp .ne 7, 3) := by decide +kernel
theorem dX10_isBlank_12 : decode cX10_isBlank 12 = .ok (.iconst 1, 1) := by decide +kernel
theorem dX10_isBlank_13 : decode cX10_isBlank 13 = .ok (.goto 4, 3) := by decide +kernel
theorem dX10_isBlank_16 : decode cX10_isBlank 16 = .ok (.iconst 0, 1) := by decide +kernel
theorem dX10_isBlank_17 : decode cX10_isBlank 17 = .ok (.ireturn, 1) := by decide +kernel
theorem dX10_isLetter_0 : decode cX10_isLetter 0 = .ok (.iload_n 0, 1) := by decide +kernel
theorem dX10_isLetter_1 : decode cX10_isLetter 1 = .ok (.bipush 97, 2) := by decide +kernel
theorem dX10_isLetter_3 : decode cX10_isLetter 3 = .ok (.if_icmp .lt 13, 3) := by decide +kernel
theorem dX10_isLetter_6 : decode cX10_isLetter 6 = .ok (.iload_n 0, 1) := by decide +kernel
theorem dX10_isLetter_7 : decode cX10_isLetter 7 = .ok (.bipush 122, 2) := by decide +kernel
theorem dX10_isLetter_9 : decode cX10_isLetter 9 = .ok (.if_icmp .gt 7, 3) := by decide +kernel
theorem dX10_isLetter_12 : decode cX10_isLetter 12 = .ok (.iconst 1, 1) := by decide +kernel
theorem dX10_isLetter_13 : decode cX10_isLetter 13 = .ok (.goto 4, 3) := by decide +kernel
theorem dX10_isLetter_16 : decode cX10_isLetter 16 = .ok (.iconst 0, 1) := by decide +kernel
theorem dX10_isLetter_17 : decode cX10_isLetter 17 = .ok (.ireturn, 1) := by decide +kernel
theorem dX10_isTextByte_0 : decode cX10_isTextByte 0 = .ok (.iload_n 0, 1) := by decide +kernel
theorem dX10_isTextByte_1 : decode cX10_isTextByte 1 = .ok (.bipush 32, 2) := by decide +kernel
theorem dX10_isTextByte_3 : decode cX10_isTextByte 3 = .ok (.if_icmp .lt 19, 3) := by decide +kernel
theorem dX10_isTextByte_6 : decode cX10_isTextByte 6 = .ok (.iload_n 0, 1) := by decide +kernel
theorem dX10_isTextByte_7 : decode cX10_isTextByte 7 = .ok (.bipush 126, 2) := by decide +kernel
theorem dX10_isTextByte_9 : decode cX10_isTextByte 9 = .ok (.if_icmp .gt 13, 3) := by decide +kernel
theorem dX10_isTextByte_12 : decode cX10_isTextByte 12 = .ok (.iload_n 0, 1) := by decide +kernel
theorem dX10_isTextByte_13 : decode cX10_isTextByte 13 = .ok (.bipush 34, 2) := by decide +kernel
theorem dX10_isTextByte_15 : decode cX10_isTextByte 15 = .ok (.if_icmp .eq 7, 3) := by decide +kernel
theorem dX10_isTextByte_18 : decode cX10_isTextByte 18 = .ok (.iconst 1, 1) := by decide +kernel
theorem dX10_isTextByte_19 : decode cX10_isTextByte 19 = .ok (.goto 4, 3) := by decide +kernel
theorem dX10_isTextByte_22 : decode cX10_isTextByte 22 = .ok (.iconst 0, 1) := by decide +kernel
theorem dX10_isTextByte_23 : decode cX10_isTextByte 23 = .ok (.ireturn, 1) := by decide +kernel
theorem dX11_init_0 : decode cX11_init 0 = .ok (.aload_n 0, 1) := by decide +kernel
theorem dX11_init_1 : decode cX11_init 1 = .ok (.invokespecial 1, 3) := by decide +kernel
theorem dX11_init_4 : decode cX11_init 4 = .ok (.aload_n 0, 1) := by decide +kernel
theorem dX11_init_5 : decode cX11_init 5 = .ok (.new 7, 3) := by decide +kernel
theorem dX11_init_8 : decode cX11_init 8 = .ok (.dup, 1) := by decide +kernel
theorem dX11_init_9 : decode cX11_init 9 = .ok (.invokespecial 9, 3) := by decide +kernel
theorem dX11_init_12 : decode cX11_init 12 = .ok (.putfield 10, 3) := by decide +kernel
theorem dX11_init_15 : decode cX11_init 15 = .ok (.aload_n 0, 1) := by decide +kernel
theorem dX11_init_16 : decode cX11_init 16 = .ok (.new 16, 3) := by decide +kernel
theorem dX11_init_19 : decode cX11_init 19 = .ok (.dup, 1) := by decide +kernel
theorem dX11_init_20 : decode cX11_init 20 = .ok (.aload_n 0, 1) := by decide +kernel
theorem dX11_init_21 : decode cX11_init 21 = .ok (.getfield 10, 3) := by decide +kernel
theorem dX11_init_24 : decode cX11_init 24 = .ok (.invokespecial 18, 3) := by decide +kernel
theorem dX11_init_27 : decode cX11_init 27 = .ok (.putfield 21, 3) := by decide +kernel
theorem dX11_init_30 : decode cX11_init 30 = .ok (.aload_n 0, 1) := by decide +kernel
theorem dX11_init_31 : decode cX11_init 31 = .ok (.iconst 4, 1) := by decide +kernel
theorem dX11_init_32 : decode cX11_init 32 = .ok (.anewarray 25, 3) := by decide +kernel
theorem dX11_init_35 : decode cX11_init 35 = .ok (.putfield 27, 3) := by decide +kernel
theorem dX11_init_38 : decode cX11_init 38 = .ok (.aload_n 0, 1) := by decide +kernel
theorem dX11_init_39 : decode cX11_init 39 = .ok (.bipush 8, 2) := by decide +kernel
theorem dX11_init_41 : decode cX11_init 41 = .ok (.anewarray 31, 3) := by decide +kernel
theorem dX11_init_44 : decode cX11_init 44 = .ok (.putfield 33, 3) := by decide +kernel
theorem dX11_init_47 : decode cX11_init 47 = .ok (.aload_n 0, 1) := by decide +kernel
theorem dX11_init_48 : decode cX11_init 48 = .ok (.sipush 3721, 3) := by decide +kernel
theorem dX11_init_51 : decode cX11_init 51 = .ok (.newarray .int, 2) := by decide +kernel
theorem dX11_init_53 : decode cX11_init 53 = .ok (.putfield 37, 3) := by decide +kernel
theorem dX11_init_56 : decode cX11_init 56 = .ok (.aload_n 0, 1) := by decide +kernel
theorem dX11_init_57 : decode cX11_init 57 = .ok (.new 41, 3) := by decide +kernel
theorem dX11_init_60 : decode cX11_init 60 = .ok (.dup, 1) := by decide +kernel
theorem dX11_init_61 : decode cX11_init 61 = .ok (.invokespecial 43, 3) := by decide +kernel
theorem dX11_init_64 : decode cX11_init 64 = .ok (.putfield 44, 3) := by decide +kernel
theorem dX11_init_67 : decode cX11_init 67 = .ok (.aload_n 0, 1) := by decide +kernel
theorem dX11_init_68 : decode cX11_init 68 = .ok (.new 41, 3) := by decide +kernel
theorem dX11_init_71 : decode cX11_init 71 = .ok (.dup, 1) := by decide +kernel
theorem dX11_init_72 : decode cX11_init 72 = .ok (.invokespecial 43, 3) := by decide +kernel
theorem dX11_init_75 : decode cX11_init 75 = .ok (.putfield 48, 3) := by decide +kernel
theorem dX11_init_78 : decode cX11_init 78 = .ok (.aload_n 0, 1) := by decide +kernel
theorem dX11_init_79 : decode cX11_init 79 = .ok (.new 51, 3) := by decide +kernel
theorem dX11_init_82 : decode cX11_init 82 = .ok (.dup, 1) := by decide +kernel
theorem dX11_init_83 : decode cX11_init 83 = .ok (.invokespecial 53, 3) := by decide +kernel
theorem dX11_init_86 : decode cX11_init 86 = .ok (.putfield 54, 3) := by decide +kernel
theorem dX11_init_89 : decode cX11_init 89 = .ok (.aload_n 0, 1) := by decide +kernel
theorem dX11_init_90 : decode cX11_init 90 = .ok (.bipush 20, 2) := by decide +kernel
theorem dX11_init_92 : decode cX11_init 92 = .ok (.anewarray 58, 3) := by decide +kernel
theorem dX11_init_95 : decode cX11_init 95 = .ok (.putfield 60, 3) := by decide +kernel
theorem dX11_init_98 : decode cX11_init 98 = .ok (.aload_n 0, 1) := by decide +kernel
theorem dX11_init_99 : decode cX11_init 99 = .ok (.new 64, 3) := by decide +kernel
theorem dX11_init_102 : decode cX11_init 102 = .ok (.dup, 1) := by decide +kernel
theorem dX11_init_103 : decode cX11_init 103 = .ok (.invokespecial 66, 3) := by decide +kernel
theorem dX11_init_106 : decode cX11_init 106 = .ok (.putfield 67, 3) := by decide +kernel
theorem dX11_init_109 : decode cX11_init 109 = .ok (.aload_n 0, 1) := by decide +kernel
theorem dX11_init_110 : decode cX11_init 110 = .ok (.iconst 0, 1) := by decide +kernel
theorem dX11_init_111 : decode cX11_init 111 = .ok (.putfield 71, 3) := by decide +kernel
theorem dX11_init_114 : decode cX11_init 114 = .ok (.aload_n 0, 1) := by decide +kernel
theorem dX11_init_115 : decode cX11_init 115 = .ok (.iconst 0, 1) := by decide +kernel
theorem dX11_init_116 : decode cX11_init 116 = .ok (.putfield 75, 3) := by decide +kernel
theorem dX11_init_119 : decode cX11_init 119 = .ok (.aload_n 0, 1) := by decide +kernel
theorem dX11_init_120 : decode cX11_init 120 = .ok (.iconst 1, 1) := by decide +kernel
theorem dX11_init_121 : decode cX11_init 121 = .ok (.putfield 78, 3) := by decide +kernel
theorem dX11_init_124 : decode cX11_init 124 = .ok (.return_, 1) := by decide +kernel
theorem dX11_feed_0 : decode cX11_feed 0 = .ok (.aload_n 0, 1) := by decide +kernel
theorem dX11_feed_1 : decode cX11_feed 1 = .ok (.getfield 10, 3) := by decide +kernel
theorem dX11_feed_4 : decode cX11_feed 4 = .ok (.getfield 81, 3) := by decide +kernel
theorem dX11_feed_7 : decode cX11_feed 7 = .ok (.sipush 1580, 3) := by decide +kernel
theorem dX11_feed_10 : decode cX11_feed 10 = .ok (.if_icmp .le 5, 3) := by decide +kernel
theorem dX11_feed_13 : decode cX11_feed 13 = .ok (.iconst (-1), 1) := by decide +kernel
theorem dX11_feed_14 : decode cX11_feed 14 = .ok (.ireturn, 1) := by decide +kernel
theorem dX11_feed_15 : decode cX11_feed 15 = .ok (.aload_n 0, 1) := by decide +kernel
theorem dX11_feed_16 : decode cX11_feed 16 = .ok (.getfield 10, 3) := by decide +kernel
theorem dX11_feed_19 : decode cX11_feed 19 = .ok (.iload_n 1, 1) := by decide +kernel
theorem dX11_feed_20 : decode cX11_feed 20 = .ok (.invokevirtual 84, 3) := by decide +kernel
theorem dX11_feed_23 : decode cX11_feed 23 = .ok (.aload_n 0, 1) := by decide +kernel
theorem dX11_feed_24 : decode cX11_feed 24 = .ok (.getfield 10, 3) := by decide +kernel
theorem dX11_feed_27 : decode cX11_feed 27 = .ok (.iload_n 2, 1) := by decide +kernel
theorem dX11_feed_28 : decode cX11_feed 28 = .ok (.invokevirtual 84, 3) := by decide +kernel
theorem dX11_feed_31 : decode cX11_feed 31 = .ok (.aload_n 0, 1) := by decide +kernel
theorem dX11_feed_32 : decode cX11_feed 32 = .ok (.getfield 10, 3) := by decide +kernel
theorem dX11_feed_35 : decode cX11_feed 35 = .ok (.iload_n 3, 1) := by decide +kernel
theorem dX11_feed_36 : decode cX11_feed 36 = .ok (.invokevirtual 84, 3) := by decide +kernel
theorem dX11_feed_39 : decode cX11_feed 39 = .ok (.aload_n 0, 1) := by decide +kernel
theorem dX11_feed_40 : decode cX11_feed 40 = .ok (.getfield 10, 3) := by decide +kernel
theorem dX11_feed_43 : decode cX11_feed 43 = .ok (.iload 4, 2) := by decide +kernel
theorem dX11_feed_45 : decode cX11_feed 45 = .ok (.invokevirtual 84, 3) := by decide +kernel
theorem dX11_feed_48 : decode cX11_feed 48 = .ok (.aload_n 0, 1) := by decide +kernel
theorem dX11_feed_49 : decode cX11_feed 49 = .ok (.getfield 10, 3) := by decide +kernel
theorem dX11_feed_52 : decode cX11_feed 52 = .ok (.iload 5, 2) := by decide +kernel
theorem dX11_feed_54 : decode cX11_feed 54 = .ok (.invokevirtual 84, 3) := by decide +kernel
theorem dX11_feed_57 : decode cX11_feed 57 = .ok (.aload_n 0, 1) := by decide +kernel
theorem dX11_feed_58 : decode cX11_feed 58 = .ok (.getfield 10, 3) := by decide +kernel
theorem dX11_feed_61 : decode cX11_feed 61 = .ok (.getfield 81, 3) := by decide +kernel
theorem dX11_feed_64 : decode cX11_feed 64 = .ok (.ireturn, 1) := by decide +kernel
theorem dX11_end_0 : decode cX11_end 0 = .ok (.iload_n 1, 1) := by decide +kernel
theorem dX11_end_1 : decode cX11_end 1 = .ok (.ifCond .lt 14, 3) := by decide +kernel
theorem dX11_end_4 : decode cX11_end 4 = .ok (.iload_n 1, 1) := by decide +kernel
theorem dX11_end_5 : decode cX11_end 5 = .ok (.aload_n 0, 1) := by decide +kernel
theorem dX11_end_6 : decode cX11_end 6 = .ok (.getfield 10, 3) := by decide +kernel
theorem dX11_end_9 : decode cX11_end 9 = .ok (.getfield 81, 3) := by decide +kernel
theorem dX11_end_12 : decode cX11_end 12 = .ok (.if_icmp .le 5, 3) := by decide +kernel
theorem dX11_end_15 : decode cX11_end 15 = .ok (.iconst (-1), 1) := by decide +kernel
theorem dX11_end_16 : decode cX11_end 16 = .ok (.ireturn, 1) := by decide +kernel
theorem dX11_end_17 : decode cX11_end 17 = .ok (.aload_n 0, 1) := by decide +kernel
theorem dX11_end_18 : decode cX11_end 18 = .ok (.getfield 10, 3) := by decide +kernel
theorem dX11_end_21 : decode cX11_end 21 = .ok (.iload_n 1, 1) := by decide +kernel
theorem dX11_end_22 : decode cX11_end 22 = .ok (.putfield 81, 3) := by decide +kernel
theorem dX11_end_25 : decode cX11_end 25 = .ok (.iload_n 1, 1) := by decide +kernel
theorem dX11_end_26 : decode cX11_end 26 = .ok (.ireturn, 1) := by decide +kernel
theorem dX11_page_0 : decode cX11_page 0 = .ok (.iload_n 1, 1) := by decide +kernel
theorem dX11_page_1 : decode cX11_page 1 = .ok (.ifCond .lt 8, 3) := by decide +kernel
theorem dX11_page_4 : decode cX11_page 4 = .ok (.iload_n 1, 1) := by decide +kernel
theorem dX11_page_5 : decode cX11_page 5 = .ok (.iconst 4, 1) := by decide +kernel
theorem dX11_page_6 : decode cX11_page 6 = .ok (.if_icmp .lt 6, 3) := by decide +kernel
theorem dX11_page_9 : decode cX11_page 9 = .ok (.bipush (-2), 2) := by decide +kernel
theorem dX11_page_11 : decode cX11_page 11 = .ok (.ireturn, 1) := by decide +kernel
theorem dX11_page_12 : decode cX11_page 12 = .ok (.aload_n 0, 1) := by decide +kernel
theorem dX11_page_13 : decode cX11_page 13 = .ok (.getfield 21, 3) := by decide +kernel
theorem dX11_page_16 : decode cX11_page 16 = .ok (.invokevirtual 88, 3) := by decide +kernel
theorem dX11_page_19 : decode cX11_page 19 = .ok (.astore_n 2, 1) := by decide +kernel
theorem dX11_page_20 : decode cX11_page 20 = .ok (.aload_n 0, 1) := by decide +kernel
theorem dX11_page_21 : decode cX11_page 21 = .ok (.getfield 10, 3) := by decide +kernel
theorem dX11_page_24 : decode cX11_page 24 = .ok (.iconst 0, 1) := by decide +kernel
theorem dX11_page_25 : decode cX11_page 25 = .ok (.putfield 81, 3) := by decide +kernel
theorem dX11_page_28 : decode cX11_page 28 = .ok (.aload_n 2, 1) := by decide +kernel
theorem dX11_page_29 : decode cX11_page 29 = .ok (.ifnonnull 5, 3) := by decide +kernel
theorem dX11_page_32 : decode cX11_page 32 = .ok (.iconst (-1), 1) := by decide +kernel
theorem dX11_page_33 : decode cX11_page 33 = .ok (.ireturn, 1) := by decide +kernel
theorem dX11_page_34 : decode cX11_page 34 = .ok (.aload_n 0, 1) := by decide +kernel
theorem dX11_page_35 : decode cX11_page 35 = .ok (.getfield 27, 3) := by decide +kernel
theorem dX11_page_38 : decode cX11_page 38 = .ok (.iload_n 1, 1) := by decide +kernel
theorem dX11_page_39 : decode cX11_page 39 = .ok (.aload_n 2, 1) := by decide +kernel
theorem dX11_page_40 : decode cX11_page 40 = .ok (.aastore, 1) := by decide +kernel
theorem dX11_page_41 : decode cX11_page 41 = .ok (.aload_n 2, 1) := by decide +kernel
theorem dX11_page_42 : decode cX11_page 42 = .ok (.getfield 92, 3) := by decide +kernel
theorem dX11_page_45 : decode cX11_page 45 = .ok (.ireturn, 1) := by decide +kernel
theorem dX11_fault_0 : decode cX11_fault 0 = .ok (.iload_n 1, 1) := by decide +kernel
theorem dX11_fault_1 : decode cX11_fault 1 = .ok (.lookupswitch 43 #[(0, 27), (1, 35)], 27) := by decide +kernel
theorem dX11_fault_28 : decode cX11_fault 28 = .ok (.aload_n 0, 1) := by decide +kernel
theorem dX11_fault_29 : decode cX11_fault 29 = .ok (.getfield 21, 3) := by decide +kernel
theorem dX11_fault_32 : decode cX11_fault 32 = .ok (.getfield 95, 3) := by decide +kernel
theorem dX11_fault_35 : decode cX11_fault 35 = .ok (.ireturn, 1) := by decide +kernel
theorem dX11_fault_36 : decode cX11_fault 36 = .ok (.aload_n 0, 1) := by decide +kernel
theorem dX11_fault_37 : decode cX11_fault 37 = .ok (.getfield 21, 3) := by decide +kernel
theorem dX11_fault_40 : decode cX11_fault 40 = .ok (.getfield 98, 3) := by decide +kernel
theorem dX11_fault_43 : decode cX11_fault 43 = .ok (.ireturn, 1) := by decide +kernel
theorem dX11_fault_44 : decode cX11_fault 44 = .ok (.iconst (-1), 1) := by decide +kernel
theorem dX11_fault_45 : decode cX11_fault 45 = .ok (.ireturn, 1) := by decide +kernel
theorem dX11_part_0 : decode cX11_part 0 = .ok (.aload_n 0, 1) := by decide +kernel
theorem dX11_part_1 : decode cX11_part 1 = .ok (.iload_n 1, 1) := by decide +kernel
theorem dX11_part_2 : decode cX11_part 2 = .ok (.iload_n 2, 1) := by decide +kernel
theorem dX11_part_3 : decode cX11_part 3 = .ok (.invokevirtual 101, 3) := by decide +kernel
theorem dX11_part_6 : decode cX11_part 6 = .ok (.astore 4, 2) := by decide +kernel
theorem dX11_part_8 : decode cX11_part 8 = .ok (.aload 4, 2) := by decide +kernel
theorem dX11_part_10 : decode cX11_part 10 = .ok (.ifnonnull 5, 3) := by decide +kernel
theorem dX11_part_13 : decode cX11_part 13 = .ok (.iconst (-1), 1) := by decide +kernel
theorem dX11_part_14 : decode cX11_part 14 = .ok (.ireturn, 1) := by decide +kernel
theorem dX11_part_15 : decode cX11_part 15 = .ok (.iload_n 3, 1) := by decide +kernel
theorem dX11_part_16 : decode cX11_part 16 = .ok (.tableswitch 136 0 9 #[56, 65, 74, 83, 89, 98, 104, 118, 124, 130], 56) := by decide +kernel
theorem dX11_part_72 : decode cX11_part 72 = .ok (.aload 4, 2) := by decide +kernel
theorem dX11_part_74 : decode cX11_part 74 = .ok (.getfield 105, 3) := by decide +kernel
theorem dX11_part_77 : decode cX11_part 77 = .ok (.invokestatic 111, 3) := by decide +kernel
theorem dX11_part_80 : decode cX11_part 80 = .ok (.ireturn, 1) := by decide +kernel
theorem dX11_part_81 : decode cX11_part 81 = .ok (.aload 4, 2) := by decide +kernel
theorem dX11_part_83 : decode cX11_part 83 = .ok (.getfield 115, 3) := by decide +kernel
theorem dX11_part_86 : decode cX11_part 86 = .ok (.invokestatic 111, 3) := by decide +kernel
theorem dX11_part_89 : decode cX11_part 89 = .ok (.ireturn, 1) := by decide +kernel
theorem dX11_part_90 : decode cX11_part 90 = .ok (.aload 4, 2) := by decide +kernel
theorem dX11_part_92 : decode cX11_part 92 = .ok (.getfield 118, 3) := by decide +kernel
theorem dX11_part_95 : decode cX11_part 95 = .ok (.invokestatic 111, 3) := by decide +kernel
theorem dX11_part_98 : decode cX11_part 98 = .ok (.ireturn, 1) := by decide +kernel
theorem dX11_part_99 : decode cX11_part 99 = .ok (.aload 4, 2) := by decide +kernel
theorem dX11_part_101 : decode cX11_part 101 = .ok (.getfield 121, 3) := by decide +kernel
theorem dX11_part_104 : decode cX11_part 104 = .ok (.ireturn, 1) := by decide +kernel
theorem dX11_part_105 : decode cX11_part 105 = .ok (.aload 4, 2) := by decide +kernel
theorem dX11_part_107 : decode cX11_part 107 = .ok (.getfield 124, 3) := by decide +kernel
theorem dX11_part_110 : decode cX11_part 110 = .ok (.invokestatic 111, 3) := by decide +kernel
theorem dX11_part_113 : decode cX11_part 113 = .ok (.ireturn, 1) := by decide +kernel
theorem dX11_part_114 : decode cX11_part 114 = .ok (.aload 4, 2) := by decide +kernel
theorem dX11_part_116 : decode cX11_part 116 = .ok (.getfield 127, 3) := by decide +kernel
theorem dX11_part_119 : decode cX11_part 119 = .ok (.ireturn, 1) := by decide +kernel
theorem dX11_part_120 : decode cX11_part 120 = .ok (.aload 4, 2) := by decide +kernel
theorem dX11_part_122 : decode cX11_part 122 = .ok (.getfield 130, 3) := by decide +kernel
theorem dX11_part_125 : decode cX11_part 125 = .ok (.ifCond .eq 7, 3) := by decide +kernel
theorem dX11_part_128 : decode cX11_part 128 = .ok (.iconst 1, 1) := by decide +kernel
theorem dX11_part_129 : decode cX11_part 129 = .ok (.goto 4, 3) := by decide +kernel
theorem dX11_part_132 : decode cX11_part 132 = .ok (.iconst 0, 1) := by decide +kernel
theorem dX11_part_133 : decode cX11_part 133 = .ok (.ireturn, 1) := by decide +kernel
theorem dX11_part_134 : decode cX11_part 134 = .ok (.aload 4, 2) := by decide +kernel
theorem dX11_part_136 : decode cX11_part 136 = .ok (.getfield 134, 3) := by decide +kernel
theorem dX11_part_139 : decode cX11_part 139 = .ok (.ireturn, 1) := by decide +kernel
theorem dX11_part_140 : decode cX11_part 140 = .ok (.aload 4, 2) := by decide +kernel
theorem dX11_part_142 : decode cX11_part 142 = .ok (.getfield 137, 3) := by decide +kernel
theorem dX11_part_145 : decode cX11_part 145 = .ok (.ireturn, 1) := by decide +kernel
theorem dX11_part_146 : decode cX11_part 146 = .ok (.aload 4, 2) := by decide +kernel
theorem dX11_part_148 : decode cX11_part 148 = .ok (.getfield 140, 3) := by decide +kernel
theorem dX11_part_151 : decode cX11_part 151 = .ok (.ireturn, 1) := by decide +kernel
theorem dX11_part_152 : decode cX11_part 152 = .ok (.iconst (-1), 1) := by decide +kernel
theorem dX11_part_153 : decode cX11_part 153 = .ok (.ireturn, 1) := by decide +kernel
theorem dX11_text_0 : decode cX11_text 0 = .ok (.aload_n 0, 1) := by decide +kernel
theorem dX11_text_1 : decode cX11_text 1 = .ok (.iload_n 1, 1) := by decide +kernel
theorem dX11_text_2 : decode cX11_text 2 = .ok (.iload_n 2, 1) := by decide +kernel
theorem dX11_text_3 : decode cX11_text 3 = .ok (.invokevirtual 101, 3) := by decide +kernel
theorem dX11_text_6 : decode cX11_text 6 = .ok (.astore 5, 2) := by decide +kernel
theorem dX11_text_8 : decode cX11_text 8 = .ok (.aload 5, 2) := by decide +kernel
theorem dX11_text_10 : decode cX11_text 10 = .ok (.ifnonnull 5, 3) := by decide +kernel
theorem dX11_text_13 : decode cX11_text 13 = .ok (.iconst (-1), 1) := by decide +kernel
theorem dX11_text_14 : decode cX11_text 14 = .ok (.ireturn, 1) := by decide +kernel
theorem dX11_text_15 : decode cX11_text 15 = .ok (.iload_n 3, 1) := by decide +kernel
theorem dX11_text_16 : decode cX11_text 16 = .ok (.tableswitch 58 0 2 #[28, 39, 50], 28) := by decide +kernel
theorem dX11_text_44 : decode cX11_text 44 = .ok (.aload 5, 2) := by decide +kernel
theorem dX11_text_46 : decode cX11_text 46 = .ok (.getfield 143, 3) := by decide +kernel
theorem dX11_text_49 : decode cX11_text 49 = .ok (.iload 4, 2) := by decide +kernel
theorem dX11_text_51 : decode cX11_text 51 = .ok (.invokestatic 147, 3) := by decide +kernel
theorem dX11_text_54 : decode cX11_text 54 = .ok (.ireturn, 1) := by decide +kernel
theorem dX11_text_55 : decode cX11_text 55 = .ok (.aload 5, 2) := by decide +kernel
theorem dX11_text_57 : decode cX11_text 57 = .ok (.getfield 151, 3) := by decide +kernel
theorem dX11_text_60 : decode cX11_text 60 = .ok (.iload 4, 2) := by decide +kernel
theorem dX11_text_62 : decode cX11_text 62 = .ok (.invokestatic 147, 3) := by decide +kernel
theorem dX11_text_65 : decode cX11_text 65 = .ok (.ireturn, 1) := by decide +kernel
theorem dX11_text_66 : decode cX11_text 66 = .ok (.aload 5, 2) := by decide +kernel
theorem dX11_text_68 : decode cX11_text 68 = .ok (.iload 4, 2) := by decide +kernel
theorem dX11_text_70 : decode cX11_text 70 = .ok (.invokevirtual 154, 3) := by decide +kernel
theorem dX11_text_73 : decode cX11_text 73 = .ok (.ireturn, 1) := by decide +kernel
theorem dX11_text_74 : decode cX11_text 74 = .ok (.iconst (-1), 1) := by decide +kernel
theorem dX11_text_75 : decode cX11_text 75 = .ok (.ireturn, 1) := by decide +kernel
theorem dX11_far_0 : decode cX11_far 0 = .ok (.aload_n 0, 1) := by decide +kernel
theorem dX11_far_1 : decode cX11_far 1 = .ok (.iload_n 1, 1) := by decide +kernel
theorem dX11_far_2 : decode cX11_far 2 = .ok (.iload_n 2, 1) := by decide +kernel
theorem dX11_far_3 : decode cX11_far 3 = .ok (.invokevirtual 101, 3) := by decide +kernel
theorem dX11_far_6 : decode cX11_far 6 = .ok (.astore 5, 2) := by decide +kernel
theorem dX11_far_8 : decode cX11_far 8 = .ok (.aload_n 0, 1) := by decide +kernel
theorem dX11_far_9 : decode cX11_far 9 = .ok (.iload_n 3, 1) := by decide +kernel
theorem dX11_far_10 : decode cX11_far 10 = .ok (.iload 4, 2) := by decide +kernel
theorem dX11_far_12 : decode cX11_far 12 = .ok (.invokevirtual 101, 3) := by decide +kernel
theorem dX11_far_15 : decode cX11_far 15 = .ok (.astore 6, 2) := by decide +kernel
theorem dX11_far_17 : decode cX11_far 17 = .ok (.aload 5, 2) := by decide +kernel
theorem dX11_far_19 : decode cX11_far 19 = .ok (.ifnull 8, 3) := by decide +kernel
theorem dX11_far_22 : decode cX11_far 22 = .ok (.aload 6, 2) := by decide +kernel
theorem dX11_far_24 : decode cX11_far 24 = .ok (.ifnonnull 5, 3) := by decide +kernel
theorem dX11_far_27 : decode cX11_far 27 = .ok (.iconst (-1), 1) := by decide +kernel
theorem dX11_far_28 : decode cX11_far 28 = .ok (.ireturn, 1) := by decide +kernel
theorem dX11_far_29 : decode cX11_far 29 = .ok (.aload_n 0, 1) := by decide +kernel
theorem dX11_far_30 : decode cX11_far 30 = .ok (.aload 5, 2) := by decide +kernel
theorem dX11_far_32 : decode cX11_far 32 = .ok (.aload 6, 2) := by decide +kernel
theorem dX11_far_34 : decode cX11_far 34 = .ok (.getfield 158, 3) := by decide +kernel
theorem dX11_far_37 : decode cX11_far 37 = .ok (.invokevirtual 162, 3) := by decide +kernel
theorem dX11_far_40 : decode cX11_far 40 = .ok (.aload 5, 2) := by decide +kernel
theorem dX11_far_42 : decode cX11_far 42 = .ok (.aload 6, 2) := by decide +kernel
theorem dX11_far_44 : decode cX11_far 44 = .ok (.invokevirtual 166, 3) := by decide +kernel
theorem dX11_far_47 : decode cX11_far 47 = .ok (.ireturn, 1) := by decide +kernel
theorem dX11_cost_0 : decode cX11_cost 0 = .ok (.aload_n 0, 1) := by decide +kernel
theorem dX11_cost_1 : decode cX11_cost 1 = .ok (.iload_n 1, 1) := by decide +kernel
theorem dX11_cost_2 : decode cX11_cost 2 = .ok (.iload_n 2, 1) := by decide +kernel
theorem dX11_cost_3 : decode cX11_cost 3 = .ok (.invokevirtual 101, 3) := by decide +kernel
theorem dX11_cost_6 : decode cX11_cost 6 = .ok (.astore 5, 2) := by decide +kernel
theorem dX11_cost_8 : decode cX11_cost 8 = .ok (.aload_n 0, 1) := by decide +kernel
theorem dX11_cost_9 : decode cX11_cost 9 = .ok (.iload_n 3, 1) := by decide +kernel
theorem dX11_cost_10 : decode cX11_cost 10 = .ok (.iload 4, 2) := by decide +kernel
theorem dX11_cost_12 : decode cX11_cost 12 = .ok (.invokevirtual 101, 3) := by decide +kernel
theorem dX11_cost_15 : decode cX11_cost 15 = .ok (.astore 6, 2) := by decide +kernel
theorem dX11_cost_17 : decode cX11_cost 17 = .ok (.aload 5, 2) := by decide +kernel
theorem dX11_cost_19 : decode cX11_cost 19 = .ok (.ifnull 8, 3) := by decide +kernel
theorem dX11_cost_22 : decode cX11_cost 22 = .ok (.aload 6, 2) := by decide +kernel
theorem dX11_cost_24 : decode cX11_cost 24 = .ok (.ifnonnull 5, 3) := by decide +kernel
theorem dX11_cost_27 : decode cX11_cost 27 = .ok (.iconst (-1), 1) := by decide +kernel
theorem dX11_cost_28 : decode cX11_cost 28 = .ok (.ireturn, 1) := by decide +kernel
theorem dX11_cost_29 : decode cX11_cost 29 = .ok (.aload_n 0, 1) := by decide +kernel
theorem dX11_cost_30 : decode cX11_cost 30 = .ok (.aload 5, 2) := by decide +kernel
theorem dX11_cost_32 : decode cX11_cost 32 = .ok (.aload 6, 2) := by decide +kernel
theorem dX11_cost_34 : decode cX11_cost 34 = .ok (.getfield 158, 3) := by decide +kernel
theorem dX11_cost_37 : decode cX11_cost 37 = .ok (.invokevirtual 162, 3) := by decide +kernel
theorem dX11_cost_40 : decode cX11_cost 40 = .ok (.aload 5, 2) := by decide +kernel
theorem dX11_cost_42 : decode cX11_cost 42 = .ok (.aload 6, 2) := by decide +kernel
theorem dX11_cost_44 : decode cX11_cost 44 = .ok (.invokevirtual 170, 3) := by decide +kernel
theorem dX11_cost_47 : decode cX11_cost 47 = .ok (.ireturn, 1) := by decide +kernel
theorem dX11_gap_0 : decode cX11_gap 0 = .ok (.iload_n 1, 1) := by decide +kernel
theorem dX11_gap_1 : decode cX11_gap 1 = .ok (.ifCond .lt 9, 3) := by decide +kernel
theorem dX11_gap_4 : decode cX11_gap 4 = .ok (.iload_n 1, 1) := by decide +kernel
theorem dX11_gap_5 : decode cX11_gap 5 = .ok (.bipush 100, 2) := by decide +kernel
theorem dX11_gap_7 : decode cX11_gap 7 = .ok (.if_icmp .le 5, 3) := by decide +kernel
theorem dX11_gap_10 : decode cX11_gap 10 = .ok (.iconst 0, 1) := by decide +kernel
theorem dX11_gap_11 : decode cX11_gap 11 = .ok (.ireturn, 1) := by decide +kernel
theorem dX11_gap_12 : decode cX11_gap 12 = .ok (.aload_n 0, 1) := by decide +kernel
theorem dX11_gap_13 : decode cX11_gap 13 = .ok (.iload_n 1, 1) := by decide +kernel
theorem dX11_gap_14 : decode cX11_gap 14 = .ok (.putfield 78, 3) := by decide +kernel
theorem dX11_gap_17 : decode cX11_gap 17 = .ok (.iconst 1, 1) := by decide +kernel
theorem dX11_gap_18 : decode cX11_gap 18 = .ok (.ireturn, 1) := by decide +kernel
theorem dX11_find_0 : decode cX11_find 0 = .ok (.aload_n 0, 1) := by decide +kernel
theorem dX11_find_1 : decode cX11_find 1 = .ok (.iload_n 1, 1) := by decide +kernel
theorem dX11_find_2 : decode cX11_find 2 = .ok (.iload_n 2, 1) := by decide +kernel
theorem dX11_find_3 : decode cX11_find 3 = .ok (.invokevirtual 101, 3) := by decide +kernel
theorem dX11_find_6 : decode cX11_find 6 = .ok (.astore 4, 2) := by decide +kernel
theorem dX11_find_8 : decode cX11_find 8 = .ok (.aload_n 0, 1) := by decide +kernel
theorem dX11_find_9 : decode cX11_find 9 = .ok (.iload_n 3, 1) := by decide +kernel
theorem dX11_find_10 : decode cX11_find 10 = .ok (.invokevirtual 173, 3) := by decide +kernel
theorem dX11_find_13 : decode cX11_find 13 = .ok (.astore 5, 2) := by decide +kernel
theorem dX11_find_15 : decode cX11_find 15 = .ok (.aload 4, 2) := by decide +kernel
theorem dX11_find_17 : decode cX11_find 17 = .ok (.ifnull 8, 3) := by decide +kernel
theorem dX11_find_20 : decode cX11_find 20 = .ok (.aload 5, 2) := by decide +kernel
theorem dX11_find_22 : decode cX11_find 22 = .ok (.ifnonnull 5, 3) := by decide +kernel
theorem dX11_find_25 : decode cX11_find 25 = .ok (.iconst (-1), 1) := by decide +kernel
theorem dX11_find_26 : decode cX11_find 26 = .ok (.ireturn, 1) := by decide +kernel
theorem dX11_find_27 : decode cX11_find 27 = .ok (.aload_n 0, 1) := by decide +kernel
theorem dX11_find_28 : decode cX11_find 28 = .ok (.getfield 44, 3) := by decide +kernel
theorem dX11_find_31 : decode cX11_find 31 = .ok (.aload 4, 2) := by decide +kernel
theorem dX11_find_33 : decode cX11_find 33 = .ok (.aload 5, 2) := by decide +kernel
theorem dX11_find_35 : decode cX11_find 35 = .ok (.aload_n 0, 1) := by decide +kernel
theorem dX11_find_36 : decode cX11_find 36 = .ok (.aload 4, 2) := by decide +kernel
theorem dX11_find_38 : decode cX11_find 38 = .ok (.aload 5, 2) := by decide +kernel
theorem dX11_find_40 : decode cX11_find 40 = .ok (.invokevirtual 162, 3) := by decide +kernel
theorem dX11_find_43 : decode cX11_find 43 = .ok (.aload_n 0, 1) := by decide +kernel
theorem dX11_find_44 : decode cX11_find 44 = .ok (.getfield 78, 3) := by decide +kernel
theorem dX11_find_47 : decode cX11_find 47 = .ok (.invokevirtual 177, 3) := by decide +kernel
theorem dX11_find_50 : decode cX11_find 50 = .ok (.ireturn, 1) := by decide +kernel
theorem dX11_found_0 : decode cX11_found 0 = .ok (.iload_n 1, 1) := by decide +kernel
theorem dX11_found_1 : decode cX11_found 1 = .ok (.tableswitch 69 0 3 #[31, 42, 53, 61], 31) := by decide +kernel
theorem dX11_found_32 : decode cX11_found 32 = .ok (.aload_n 0, 1) := by decide +kernel
theorem dX11_found_33 : decode cX11_found 33 = .ok (.getfield 44, 3) := by decide +kernel
theorem dX11_found_36 : decode cX11_found 36 = .ok (.getfield 181, 3) := by decide +kernel
theorem dX11_found_39 : decode cX11_found 39 = .ok (.invokestatic 111, 3) := by decide +kernel
theorem dX11_found_42 : decode cX11_found 42 = .ok (.ireturn, 1) := by decide +kernel
theorem dX11_found_43 : decode cX11_found 43 = .ok (.aload_n 0, 1) := by decide +kernel
theorem dX11_found_44 : decode cX11_found 44 = .ok (.getfield 44, 3) := by decide +kernel
theorem dX11_found_47 : decode cX11_found 47 = .ok (.getfield 184, 3) := by decide +kernel
theorem dX11_found_50 : decode cX11_found 50 = .ok (.invokestatic 111, 3) := by decide +kernel
theorem dX11_found_53 : decode cX11_found 53 = .ok (.ireturn, 1) := by decide +kernel
theorem dX11_found_54 : decode cX11_found 54 = .ok (.aload_n 0, 1) := by decide +kernel
theorem dX11_found_55 : decode cX11_found 55 = .ok (.getfield 44, 3) := by decide +kernel
theorem dX11_found_58 : decode cX11_found 58 = .ok (.getfield 187, 3) := by decide +kernel
theorem dX11_found_61 : decode cX11_found 61 = .ok (.ireturn, 1) := by decide +kernel
theorem dX11_found_62 : decode cX11_found 62 = .ok (.aload_n 0, 1) := by decide +kernel
theorem dX11_found_63 : decode cX11_found 63 = .ok (.getfield 44, 3) := by decide +kernel
theorem dX11_found_66 : decode cX11_found 66 = .ok (.getfield 190, 3) := by decide +kernel
theorem dX11_found_69 : decode cX11_found 69 = .ok (.ireturn, 1) := by decide +kernel
theorem dX11_found_70 : decode cX11_found 70 = .ok (.iconst (-1), 1) := by decide +kernel
theorem dX11_found_71 : decode cX11_found 71 = .ok (.ireturn, 1) := by decide +kernel
theorem dX11_fits_0 : decode cX11_fits 0 = .ok (.aload_n 0, 1) := by decide +kernel
theorem dX11_fits_1 : decode cX11_fits 1 = .ok (.iload_n 1, 1) := by decide +kernel
theorem dX11_fits_2 : decode cX11_fits 2 = .ok (.iload_n 2, 1) := by decide +kernel
theorem dX11_fits_3 : decode cX11_fits 3 = .ok (.invokevirtual 101, 3) := by decide +kernel
theorem dX11_fits_6 : decode cX11_fits 6 = .ok (.astore 5, 2) := by decide +kernel
theorem dX11_fits_8 : decode cX11_fits 8 = .ok (.aload_n 0, 1) := by decide +kernel
theorem dX11_fits_9 : decode cX11_fits 9 = .ok (.iload 4, 2) := by decide +kernel
theorem dX11_fits_11 : decode cX11_fits 11 = .ok (.invokevirtual 173, 3) := by decide +kernel
theorem dX11_fits_14 : decode cX11_fits 14 = .ok (.astore 6, 2) := by decide +kernel
theorem dX11_fits_16 : decode cX11_fits 16 = .ok (.aload 5, 2) := by decide +kernel
theorem dX11_fits_18 : decode cX11_fits 18 = .ok (.ifnull 15, 3) := by decide +kernel
theorem dX11_fits_21 : decode cX11_fits 21 = .ok (.aload 6, 2) := by decide +kernel
theorem dX11_fits_23 : decode cX11_fits 23 = .ok (.ifnull 10, 3) := by decide +kernel
theorem dX11_fits_26 : decode cX11_fits 26 = .ok (.iload_n 3, 1) := by decide +kernel
theorem dX11_fits_27 : decode cX11_fits 27 = .ok (.invokestatic 193, 3) := by decide +kernel
theorem dX11_fits_30 : decode cX11_fits 30 = .ok (.ifCond .ne 5, 3) := by decide +kernel
theorem dX11_fits_33 : decode cX11_fits 33 = .ok (.iconst (-1), 1) := by decide +kernel
theorem dX11_fits_34 : decode cX11_fits 34 = .ok (.ireturn, 1) := by decide +kernel
theorem dX11_fits_35 : decode cX11_fits 35 = .ok (.aload 6, 2) := by decide +kernel
theorem dX11_fits_37 : decode cX11_fits 37 = .ok (.aload 5, 2) := by decide +kernel
theorem dX11_fits_39 : decode cX11_fits 39 = .ok (.iload_n 3, 1) := by decide +kernel
theorem dX11_fits_40 : decode cX11_fits 40 = .ok (.invokevirtual 197, 3) := by decide +kernel
theorem dX11_fits_43 : decode cX11_fits 43 = .ok (.ireturn, 1) := by decide +kernel
theorem dX11_fit_0 : decode cX11_fit 0 = .ok (.aload_n 0, 1) := by decide +kernel
theorem dX11_fit_1 : decode cX11_fit 1 = .ok (.iload_n 1, 1) := by decide +kernel
theorem dX11_fit_2 : decode cX11_fit 2 = .ok (.iload_n 2, 1) := by decide +kernel
theorem dX11_fit_3 : decode cX11_fit 3 = .ok (.invokevirtual 101, 3) := by decide +kernel
theorem dX11_fit_6 : decode cX11_fit 6 = .ok (.astore 6, 2) := by decide +kernel
theorem dX11_fit_8 : decode cX11_fit 8 = .ok (.aload_n 0, 1) := by decide +kernel
theorem dX11_fit_9 : decode cX11_fit 9 = .ok (.iload 4, 2) := by decide +kernel
theorem dX11_fit_11 : decode cX11_fit 11 = .ok (.invokevirtual 173, 3) := by decide +kernel
theorem dX11_fit_14 : decode cX11_fit 14 = .ok (.astore 7, 2) := by decide +kernel
theorem dX11_fit_16 : decode cX11_fit 16 = .ok (.aload 6, 2) := by decide +kernel
theorem dX11_fit_18 : decode cX11_fit 18 = .ok (.ifnull 15, 3) := by decide +kernel
theorem dX11_fit_21 : decode cX11_fit 21 = .ok (.aload 7, 2) := by decide +kernel
theorem dX11_fit_23 : decode cX11_fit 23 = .ok (.ifnull 10, 3) := by decide +kernel
theorem dX11_fit_26 : decode cX11_fit 26 = .ok (.iload_n 3, 1) := by decide +kernel
theorem dX11_fit_27 : decode cX11_fit 27 = .ok (.invokestatic 193, 3) := by decide +kernel
theorem dX11_fit_30 : decode cX11_fit 30 = .ok (.ifCond .ne 5, 3) := by decide +kernel
theorem dX11_fit_33 : decode cX11_fit 33 = .ok (.iconst (-1), 1) := by decide +kernel
theorem dX11_fit_34 : decode cX11_fit 34 = .ok (.ireturn, 1) := by decide +kernel
theorem dX11_fit_35 : decode cX11_fit 35 = .ok (.aload 7, 2) := by decide +kernel
theorem dX11_fit_37 : decode cX11_fit 37 = .ok (.aload 6, 2) := by decide +kernel
theorem dX11_fit_39 : decode cX11_fit 39 = .ok (.iload_n 3, 1) := by decide +kernel
theorem dX11_fit_40 : decode cX11_fit 40 = .ok (.iload 5, 2) := by decide +kernel
theorem dX11_fit_42 : decode cX11_fit 42 = .ok (.invokevirtual 201, 3) := by decide +kernel
theorem dX11_fit_45 : decode cX11_fit 45 = .ok (.invokestatic 111, 3) := by decide +kernel
theorem dX11_fit_48 : decode cX11_fit 48 = .ok (.ireturn, 1) := by decide +kernel
theorem dX11_sample_0 : decode cX11_sample 0 = .ok (.aload_n 0, 1) := by decide +kernel
theorem dX11_sample_1 : decode cX11_sample 1 = .ok (.iload_n 1, 1) := by decide +kernel
theorem dX11_sample_2 : decode cX11_sample 2 = .ok (.iload_n 2, 1) := by decide +kernel
theorem dX11_sample_3 : decode cX11_sample 3 = .ok (.invokevirtual 101, 3) := by decide +kernel
theorem dX11_sample_6 : decode cX11_sample 6 = .ok (.astore_n 3, 1) := by decide +kernel
theorem dX11_sample_7 : decode cX11_sample 7 = .ok (.aload_n 3, 1) := by decide +kernel
theorem dX11_sample_8 : decode cX11_sample 8 = .ok (.ifnull 15, 3) := by decide +kernel
theorem dX11_sample_11 : decode cX11_sample 11 = .ok (.aload_n 0, 1) := by decide +kernel
theorem dX11_sample_12 : decode cX11_sample 12 = .ok (.getfield 54, 3) := by decide +kernel
theorem dX11_sample_15 : decode cX11_sample 15 = .ok (.getfield 205, 3) := by decide +kernel
theorem dX11_sample_18 : decode cX11_sample 18 = .ok (.bipush 6, 2) := by decide +kernel
theorem dX11_sample_20 : decode cX11_sample 20 = .ok (.if_icmp .lt 5, 3) := by decide +kernel
theorem dX11_sample_23 : decode cX11_sample 23 = .ok (.iconst (-1), 1) := by decide +kernel
theorem dX11_sample_24 : decode cX11_sample 24 = .ok (.ireturn, 1) := by decide +kernel
theorem dX11_sample_25 : decode cX11_sample 25 = .ok (.aload_n 0, 1) := by decide +kernel
theorem dX11_sample_26 : decode cX11_sample 26 = .ok (.getfield 54, 3) := by decide +kernel
theorem dX11_sample_29 : decode cX11_sample 29 = .ok (.aload_n 3, 1) := by decide +kernel
theorem dX11_sample_30 : decode cX11_sample 30 = .ok (.invokevirtual 206, 3) := by decide +kernel
theorem dX11_sample_33 : decode cX11_sample 33 = .ok (.aload_n 0, 1) := by decide +kernel
theorem dX11_sample_34 : decode cX11_sample 34 = .ok (.getfield 54, 3) := by decide +kernel
theorem dX11_sample_37 : decode cX11_sample 37 = .ok (.getfield 205, 3) := by decide +kernel
theorem dX11_sample_40 : decode cX11_sample 40 = .ok (.ireturn, 1) := by decide +kernel
theorem dX11_forget_0 : decode cX11_forget 0 = .ok (.aload_n 0, 1) := by decide +kernel
theorem dX11_forget_1 : decode cX11_forget 1 = .ok (.getfield 54, 3) := by decide +kernel
theorem dX11_forget_4 : decode cX11_forget 4 = .ok (.getfield 205, 3) := by decide +kernel
theorem dX11_forget_7 : decode cX11_forget 7 = .ok (.istore_n 1, 1) := by decide +kernel
theorem dX11_forget_8 : decode cX11_forget 8 = .ok (.aload_n 0, 1) := by decide +kernel
theorem dX11_forget_9 : decode cX11_forget 9 = .ok (.getfield 54, 3) := by decide +kernel
theorem dX11_forget_12 : decode cX11_forget 12 = .ok (.invokevirtual 210, 3) := by decide +kernel
theorem dX11_forget_15 : decode cX11_forget 15 = .ok (.iload_n 1, 1) := by decide +kernel
theorem dX11_forget_16 : decode cX11_forget 16 = .ok (.ireturn, 1) := by decide +kernel
theorem dX11_stays_0 : decode cX11_stays 0 = .ok (.aload_n 0, 1) := by decide +kernel
theorem dX11_stays_1 : decode cX11_stays 1 = .ok (.getfield 54, 3) := by decide +kernel
theorem dX11_stays_4 : decode cX11_stays 4 = .ok (.getfield 213, 3) := by decide +kernel
theorem dX11_stays_7 : decode cX11_stays 7 = .ok (.ireturn, 1) := by decide +kernel
theorem dX11_learnt_0 : decode cX11_learnt 0 = .ok (.aload_n 0, 1) := by decide +kernel
theorem dX11_learnt_1 : decode cX11_learnt 1 = .ok (.getfield 54, 3) := by decide +kernel
theorem dX11_learnt_4 : decode cX11_learnt 4 = .ok (.invokevirtual 216, 3) := by decide +kernel
theorem dX11_learnt_7 : decode cX11_learnt 7 = .ok (.ireturn, 1) := by decide +kernel
theorem dX11_seen_0 : decode cX11_seen 0 = .ok (.aload_n 0, 1) := by decide +kernel
theorem dX11_seen_1 : decode cX11_seen 1 = .ok (.iload_n 1, 1) := by decide +kernel
theorem dX11_seen_2 : decode cX11_seen 2 = .ok (.invokevirtual 173, 3) := by decide +kernel
theorem dX11_seen_5 : decode cX11_seen 5 = .ok (.astore_n 2, 1) := by decide +kernel
theorem dX11_seen_6 : decode cX11_seen 6 = .ok (.aload_n 0, 1) := by decide +kernel
theorem dX11_seen_7 : decode cX11_seen 7 = .ok (.getfield 54, 3) := by decide +kernel
theorem dX11_seen_10 : decode cX11_seen 10 = .ok (.invokevirtual 220, 3) := by decide +kernel
theorem dX11_seen_13 : decode cX11_seen 13 = .ok (.astore_n 3, 1) := by decide +kernel
theorem dX11_seen_14 : decode cX11_seen 14 = .ok (.aload_n 0, 1) := by decide +kernel
theorem dX11_seen_15 : decode cX11_seen 15 = .ok (.getfield 54, 3) := by decide +kernel
theorem dX11_seen_18 : decode cX11_seen 18 = .ok (.invokevirtual 216, 3) := by decide +kernel
theorem dX11_seen_21 : decode cX11_seen 21 = .ok (.istore 4, 2) := by decide +kernel
theorem dX11_seen_23 : decode cX11_seen 23 = .ok (.aload_n 2, 1) := by decide +kernel
theorem dX11_seen_24 : decode cX11_seen 24 = .ok (.ifnull 13, 3) := by decide +kernel
theorem dX11_seen_27 : decode cX11_seen 27 = .ok (.aload_n 3, 1) := by decide +kernel
theorem dX11_seen_28 : decode cX11_seen 28 = .ok (.ifnull 9, 3) := by decide +kernel
theorem dX11_seen_31 : decode cX11_seen 31 = .ok (.iload 4, 2) := by decide +kernel
theorem dX11_seen_33 : decode cX11_seen 33 = .ok (.iconst (-1), 1) := by decide +kernel
theorem dX11_seen_34 : decode cX11_seen 34 = .ok (.if_icmp .ne 5, 3) := by decide +kernel
theorem dX11_seen_37 : decode cX11_seen 37 = .ok (.iconst (-1), 1) := by decide +kernel
theorem dX11_seen_38 : decode cX11_seen 38 = .ok (.ireturn, 1) := by decide +kernel
theorem dX11_seen_39 : decode cX11_seen 39 = .ok (.aload_n 2, 1) := by decide +kernel
theorem dX11_seen_40 : decode cX11_seen 40 = .ok (.aload_n 3, 1) := by decide +kernel
theorem dX11_seen_41 : decode cX11_seen 41 = .ok (.iload 4, 2) := by decide +kernel
theorem dX11_seen_43 : decode cX11_seen 43 = .ok (.invokevirtual 197, 3) := by decide +kernel
theorem dX11_seen_46 : decode cX11_seen 46 = .ok (.istore 5, 2) := by decide +kernel
theorem dX11_seen_48 : decode cX11_seen 48 = .ok (.iload 5, 2) := by decide +kernel
theorem dX11_seen_50 : decode cX11_seen 50 = .ok (.ifCond .ne 6, 3) := by decide +kernel
theorem dX11_seen_53 : decode cX11_seen 53 = .ok (.bipush (-3), 2) := by decide +kernel
theorem dX11_seen_55 : decode cX11_seen 55 = .ok (.ireturn, 1) := by decide +kernel
theorem dX11_seen_56 : decode cX11_seen 56 = .ok (.iload 5, 2) := by decide +kernel
theorem dX11_seen_58 : decode cX11_seen 58 = .ok (.iconst 1, 1) := by decide +kernel
theorem dX11_seen_59 : decode cX11_seen 59 = .ok (.if_icmp .le 8, 3) := by decide +kernel
theorem dX11_seen_62 : decode cX11_seen 62 = .ok (.bipush (-2), 2) := by decide +kernel
theorem dX11_seen_64 : decode cX11_seen 64 = .ok (.goto 14, 3) := by decide +kernel
theorem dX11_seen_67 : decode cX11_seen 67 = .ok (.aload_n 2, 1) := by decide +kernel
theorem dX11_seen_68 : decode cX11_seen 68 = .ok (.aload_n 3, 1) := by decide +kernel
theorem dX11_seen_69 : decode cX11_seen 69 = .ok (.iload 4, 2) := by decide +kernel
theorem dX11_seen_71 : decode cX11_seen 71 = .ok (.iconst 0, 1) := by decide +kernel
theorem dX11_seen_72 : decode cX11_seen 72 = .ok (.invokevirtual 201, 3) := by decide +kernel
theorem dX11_seen_75 : decode cX11_seen 75 = .ok (.invokestatic 111, 3) := by decide +kernel
theorem dX11_seen_78 : decode cX11_seen 78 = .ok (.ireturn, 1) := by decide +kernel
theorem dX11_rows_0 : decode cX11_rows 0 = .ok (.aload_n 0, 1) := by decide +kernel
theorem dX11_rows_1 : decode cX11_rows 1 = .ok (.iload_n 1, 1) := by decide +kernel
theorem dX11_rows_2 : decode cX11_rows 2 = .ok (.iload_n 2, 1) := by decide +kernel
theorem dX11_rows_3 : decode cX11_rows 3 = .ok (.iload_n 3, 1) := by decide +kernel
theorem dX11_rows_4 : decode cX11_rows 4 = .ok (.invokevirtual 224, 3) := by decide +kernel
theorem dX11_rows_7 : decode cX11_rows 7 = .ok (.astore 5, 2) := by decide +kernel
theorem dX11_rows_9 : decode cX11_rows 9 = .ok (.aload_n 0, 1) := by decide +kernel
theorem dX11_rows_10 : decode cX11_rows 10 = .ok (.iload 4, 2) := by decide +kernel
theorem dX11_rows_12 : decode cX11_rows 12 = .ok (.invokevirtual 173, 3) := by decide +kernel
theorem dX11_rows_15 : decode cX11_rows 15 = .ok (.astore 6, 2) := by decide +kernel
theorem dX11_rows_17 : decode cX11_rows 17 = .ok (.aload 5, 2) := by decide +kernel
theorem dX11_rows_19 : decode cX11_rows 19 = .ok (.ifnull 8, 3) := by decide +kernel
theorem dX11_rows_22 : decode cX11_rows 22 = .ok (.aload 6, 2) := by decide +kernel
theorem dX11_rows_24 : decode cX11_rows 24 = .ok (.ifnonnull 5, 3) := by decide +kernel
theorem dX11_rows_27 : decode cX11_rows 27 = .ok (.iconst (-1), 1) := by decide +kernel
theorem dX11_rows_28 : decode cX11_rows 28 = .ok (.ireturn, 1) := by decide +kernel
theorem dX11_rows_29 : decode cX11_rows 29 = .ok (.aload 5, 2) := by decide +kernel
theorem dX11_rows_31 : decode cX11_rows 31 = .ok (.aload 6, 2) := by decide +kernel
theorem dX11_rows_33 : decode cX11_rows 33 = .ok (.invokevirtual 228, 3) := by decide +kernel
theorem dX11_rows_36 : decode cX11_rows 36 = .ok (.ireturn, 1) := by decide +kernel
theorem dX11_row_0 : decode cX11_row 0 = .ok (.aload_n 0, 1) := by decide +kernel
theorem dX11_row_1 : decode cX11_row 1 = .ok (.iload_n 1, 1) := by decide +kernel
theorem dX11_row_2 : decode cX11_row 2 = .ok (.iload_n 2, 1) := by decide +kernel
theorem dX11_row_3 : decode cX11_row 3 = .ok (.iload_n 3, 1) := by decide +kernel
theorem dX11_row_4 : decode cX11_row 4 = .ok (.invokevirtual 224, 3) := by decide +kernel
theorem dX11_row_7 : decode cX11_row 7 = .ok (.astore 6, 2) := by decide +kernel
theorem dX11_row_9 : decode cX11_row 9 = .ok (.aload_n 0, 1) := by decide +kernel
theorem dX11_row_10 : decode cX11_row 10 = .ok (.iload 4, 2) := by decide +kernel
theorem dX11_row_12 : decode cX11_row 12 = .ok (.invokevirtual 173, 3) := by decide +kernel
theorem dX11_row_15 : decode cX11_row 15 = .ok (.astore 7, 2) := by decide +kernel
theorem dX11_row_17 : decode cX11_row 17 = .ok (.aload 6, 2) := by decide +kernel
theorem dX11_row_19 : decode cX11_row 19 = .ok (.ifnull 8, 3) := by decide +kernel
theorem dX11_row_22 : decode cX11_row 22 = .ok (.aload 7, 2) := by decide +kernel
theorem dX11_row_24 : decode cX11_row 24 = .ok (.ifnonnull 5, 3) := by decide +kernel
theorem dX11_row_27 : decode cX11_row 27 = .ok (.iconst (-1), 1) := by decide +kernel
theorem dX11_row_28 : decode cX11_row 28 = .ok (.ireturn, 1) := by decide +kernel
theorem dX11_row_29 : decode cX11_row 29 = .ok (.aload 6, 2) := by decide +kernel
theorem dX11_row_31 : decode cX11_row 31 = .ok (.aload 7, 2) := by decide +kernel
theorem dX11_row_33 : decode cX11_row 33 = .ok (.iload 5, 2) := by decide +kernel
theorem dX11_row_35 : decode cX11_row 35 = .ok (.invokevirtual 234, 3) := by decide +kernel
theorem dX11_row_38 : decode cX11_row 38 = .ok (.invokestatic 111, 3) := by decide +kernel
theorem dX11_row_41 : decode cX11_row 41 = .ok (.ireturn, 1) := by decide +kernel
theorem dX11_act_0 : decode cX11_act 0 = .ok (.aload_n 0, 1) := by decide +kernel
theorem dX11_act_1 : decode cX11_act 1 = .ok (.iload_n 2, 1) := by decide +kernel
theorem dX11_act_2 : decode cX11_act 2 = .ok (.iload_n 3, 1) := by decide +kernel
theorem dX11_act_3 : decode cX11_act 3 = .ok (.invokevirtual 101, 3) := by decide +kernel
theorem dX11_act_6 : decode cX11_act 6 = .ok (.astore 4, 2) := by decide +kernel
theorem dX11_act_8 : decode cX11_act 8 = .ok (.aload 4, 2) := by decide +kernel
theorem dX11_act_10 : decode cX11_act 10 = .ok (.ifnonnull 7, 3) := by decide +kernel
theorem dX11_act_13 : decode cX11_act 13 = .ok (.iconst (-1), 1) := by decide +kernel
theorem dX11_act_14 : decode cX11_act 14 = .ok (.goto 11, 3) := by decide +kernel
theorem dX11_act_17 : decode cX11_act 17 = .ok (.aload_n 0, 1) := by decide +kernel
theorem dX11_act_18 : decode cX11_act 18 = .ok (.iload_n 1, 1) := by decide +kernel
theorem dX11_act_19 : decode cX11_act 19 = .ok (.aload 4, 2) := by decide +kernel
theorem dX11_act_21 : decode cX11_act 21 = .ok (.aconst_null, 1) := by decide +kernel
theorem dX11_act_22 : decode cX11_act 22 = .ok (.invokevirtual 238, 3) := by decide +kernel
theorem dX11_act_25 : decode cX11_act 25 = .ok (.ireturn, 1) := by decide +kernel
theorem dX11_loop_0 : decode cX11_loop 0 = .ok (.aload_n 0, 1) := by decide +kernel
theorem dX11_loop_1 : decode cX11_loop 1 = .ok (.iload_n 2, 1) := by decide +kernel
theorem dX11_loop_2 : decode cX11_loop 2 = .ok (.iload_n 3, 1) := by decide +kernel
theorem dX11_loop_3 : decode cX11_loop 3 = .ok (.iload 4, 2) := by decide +kernel
theorem dX11_loop_5 : decode cX11_loop 5 = .ok (.invokevirtual 224, 3) := by decide +kernel
theorem dX11_loop_8 : decode cX11_loop 8 = .ok (.astore 5, 2) := by decide +kernel
theorem dX11_loop_10 : decode cX11_loop 10 = .ok (.aload 5, 2) := by decide +kernel
theorem dX11_loop_12 : decode cX11_loop 12 = .ok (.ifnonnull 7, 3) := by decide +kernel
theorem dX11_loop_15 : decode cX11_loop 15 = .ok (.iconst (-1), 1) := by decide +kernel
theorem dX11_loop_16 : decode cX11_loop 16 = .ok (.goto 15, 3) := by decide +kernel
theorem dX11_loop_19 : decode cX11_loop 19 = .ok (.aload_n 0, 1) := by decide +kernel
theorem dX11_loop_20 : decode cX11_loop 20 = .ok (.iload_n 1, 1) := by decide +kernel
theorem dX11_loop_21 : decode cX11_loop 21 = .ok (.aload 5, 2) := by decide +kernel
theorem dX11_loop_23 : decode cX11_loop 23 = .ok (.getfield 242, 3) := by decide +kernel
theorem dX11_loop_26 : decode cX11_loop 26 = .ok (.aload 5, 2) := by decide +kernel
theorem dX11_loop_28 : decode cX11_loop 28 = .ok (.invokevirtual 238, 3) := by decide +kernel
theorem dX11_loop_31 : decode cX11_loop 31 = .ok (.ireturn, 1) := by decide +kernel
theorem dX11_clear_0 : decode cX11_clear 0 = .ok (.aload_n 0, 1) := by decide +kernel
theorem dX11_clear_1 : decode cX11_clear 1 = .ok (.getfield 71, 3) := by decide +kernel
theorem dX11_clear_4 : decode cX11_clear 4 = .ok (.istore_n 1, 1) := by decide +kernel
theorem dX11_clear_5 : decode cX11_clear 5 = .ok (.aload_n 0, 1) := by decide +kernel
theorem dX11_clear_6 : decode cX11_clear 6 = .ok (.iconst 0, 1) := by decide +kernel
theorem dX11_clear_7 : decode cX11_clear 7 = .ok (.putfield 71, 3) := by decide +kernel
theorem dX11_clear_10 : decode cX11_clear 10 = .ok (.iload_n 1, 1) := by decide +kernel
theorem dX11_clear_11 : decode cX11_clear 11 = .ok (.ireturn, 1) := by decide +kernel
theorem dX11_run_0 : decode cX11_run 0 = .ok (.aload_n 0, 1) := by decide +kernel
theorem dX11_run_1 : decode cX11_run 1 = .ok (.iload_n 1, 1) := by decide +kernel
theorem dX11_run_2 : decode cX11_run 2 = .ok (.invokevirtual 173, 3) := by decide +kernel
theorem dX11_run_5 : decode cX11_run 5 = .ok (.astore_n 2, 1) := by decide +kernel
theorem dX11_run_6 : decode cX11_run 6 = .ok (.aload_n 2, 1) := by decide +kernel
theorem dX11_run_7 : decode cX11_run 7 = .ok (.ifnonnull 5, 3) := by decide +kernel
theorem dX11_run_10 : decode cX11_run 10 = .ok (.iconst (-1), 1) := by decide +kernel
theorem dX11_run_11 : decode cX11_run 11 = .ok (.ireturn, 1) := by decide +kernel
theorem dX11_run_12 : decode cX11_run 12 = .ok (.aload_n 0, 1) := by decide +kernel
theorem dX11_run_13 : decode cX11_run 13 = .ok (.getfield 67, 3) := by decide +kernel
theorem dX11_run_16 : decode cX11_run 16 = .ok (.invokevirtual 245, 3) := by decide +kernel
theorem dX11_run_19 : decode cX11_run 19 = .ok (.iconst 0, 1) := by decide +kernel
theorem dX11_run_20 : decode cX11_run 20 = .ok (.istore_n 3, 1) := by decide +kernel
theorem dX11_run_21 : decode cX11_run 21 = .ok (.iload_n 3, 1) := by decide +kernel
theorem dX11_run_22 : decode cX11_run 22 = .ok (.aload_n 0, 1) := by decide +kernel
theorem dX11_run_23 : decode cX11_run 23 = .ok (.getfield 71, 3) := by decide +kernel
theorem dX11_run_26 : decode cX11_run 26 = .ok (.if_icmp .ge 23, 3) := by decide +kernel
theorem dX11_run_29 : decode cX11_run 29 = .ok (.aload_n 0, 1) := by decide +kernel
theorem dX11_run_30 : decode cX11_run 30 = .ok (.aload_n 0, 1) := by decide +kernel
theorem dX11_run_31 : decode cX11_run 31 = .ok (.getfield 60, 3) := by decide +kernel
theorem dX11_run_34 : decode cX11_run 34 = .ok (.iload_n 3, 1) := by decide +kernel
theorem dX11_run_35 : decode cX11_run 35 = .ok (.aaload, 1) := by decide +kernel
theorem dX11_run_36 : decode cX11_run 36 = .ok (.aload_n 2, 1) := by decide +kernel
theorem dX11_run_37 : decode cX11_run 37 = .ok (.invokevirtual 248, 3) := by decide +kernel
theorem dX11_run_40 : decode cX11_run 40 = .ok (.ifCond .eq 9, 3) := by decide +kernel
theorem dX11_run_43 : decode cX11_run 43 = .ok (.iinc 3 1, 3) := by decide +kernel
theorem dX11_run_46 : decode cX11_run 46 = .ok (.goto (-25), 3) := by decide +kernel
theorem dX11_run_49 : decode cX11_run 49 = .ok (.iload_n 3, 1) := by decide +kernel
theorem dX11_run_50 : decode cX11_run 50 = .ok (.ireturn, 1) := by decide +kernel
theorem dX11_ran_0 : decode cX11_ran 0 = .ok (.aload_n 0, 1) := by decide +kernel
theorem dX11_ran_1 : decode cX11_ran 1 = .ok (.getfield 67, 3) := by decide +kernel
theorem dX11_ran_4 : decode cX11_ran 4 = .ok (.getfield 252, 3) := by decide +kernel
theorem dX11_ran_7 : decode cX11_ran 7 = .ok (.ifCond .ne 5, 3) := by decide +kernel
theorem dX11_ran_10 : decode cX11_ran 10 = .ok (.iconst (-1), 1) := by decide +kernel
theorem dX11_ran_11 : decode cX11_ran 11 = .ok (.ireturn, 1) := by decide +kernel
theorem dX11_ran_12 : decode cX11_ran 12 = .ok (.iload_n 1, 1) := by decide +kernel
theorem dX11_ran_13 : decode cX11_ran 13 = .ok (.tableswitch 66 0 3 #[31, 39, 50, 58], 31) := by decide +kernel
theorem dX11_ran_44 : decode cX11_ran 44 = .ok (.aload_n 0, 1) := by decide +kernel
theorem dX11_ran_45 : decode cX11_ran 45 = .ok (.getfield 67, 3) := by decide +kernel
theorem dX11_ran_48 : decode cX11_ran 48 = .ok (.getfield 255, 3) := by decide +kernel
theorem dX11_ran_51 : decode cX11_ran 51 = .ok (.ireturn, 1) := by decide +kernel
theorem dX11_ran_52 : decode cX11_ran 52 = .ok (.aload_n 0, 1) := by decide +kernel
theorem dX11_ran_53 : decode cX11_ran 53 = .ok (.getfield 67, 3) := by decide +kernel
theorem dX11_ran_56 : decode cX11_ran 56 = .ok (.getfield 258, 3) := by decide +kernel
theorem dX11_ran_59 : decode cX11_ran 59 = .ok (.invokestatic 111, 3) := by decide +kernel
theorem dX11_ran_62 : decode cX11_ran 62 = .ok (.ireturn, 1) := by decide +kernel
theorem dX11_ran_63 : decode cX11_ran 63 = .ok (.aload_n 0, 1) := by decide +kernel
theorem dX11_ran_64 : decode cX11_ran 64 = .ok (.getfield 67, 3) := by decide +kernel
theorem dX11_ran_67 : decode cX11_ran 67 = .ok (.getfield 261, 3) := by decide +kernel
theorem dX11_ran_70 : decode cX11_ran 70 = .ok (.ireturn, 1) := by decide +kernel
theorem dX11_ran_71 : decode cX11_ran 71 = .ok (.aload_n 0, 1) := by decide +kernel
theorem dX11_ran_72 : decode cX11_ran 72 = .ok (.getfield 67, 3) := by decide +kernel
theorem dX11_ran_75 : decode cX11_ran 75 = .ok (.getfield 262, 3) := by decide +kernel
theorem dX11_ran_78 : decode cX11_ran 78 = .ok (.ireturn, 1) := by decide +kernel
theorem dX11_ran_79 : decode cX11_ran 79 = .ok (.iconst (-1), 1) := by decide +kernel
theorem dX11_ran_80 : decode cX11_ran 80 = .ok (.ireturn, 1) := by decide +kernel
theorem dX11_read_0 : decode cX11_read 0 = .ok (.aload_n 0, 1) := by decide +kernel
theorem dX11_read_1 : decode cX11_read 1 = .ok (.getfield 67, 3) := by decide +kernel
theorem dX11_read_4 : decode cX11_read 4 = .ok (.iload_n 1, 1) := by decide +kernel
theorem dX11_read_5 : decode cX11_read 5 = .ok (.invokevirtual 265, 3) := by decide +kernel
theorem dX11_read_8 : decode cX11_read 8 = .ok (.astore_n 3, 1) := by decide +kernel
theorem dX11_read_9 : decode cX11_read 9 = .ok (.aload_n 3, 1) := by decide +kernel
theorem dX11_read_10 : decode cX11_read 10 = .ok (.ifnonnull 7, 3) := by decide +kernel
theorem dX11_read_13 : decode cX11_read 13 = .ok (.iconst (-1), 1) := by decide +kernel
theorem dX11_read_14 : decode cX11_read 14 = .ok (.goto 8, 3) := by decide +kernel
theorem dX11_read_17 : decode cX11_read 17 = .ok (.aload_n 3, 1) := by decide +kernel
theorem dX11_read_18 : decode cX11_read 18 = .ok (.iload_n 2, 1) := by decide +kernel
theorem dX11_read_19 : decode cX11_read 19 = .ok (.invokevirtual 154, 3) := by decide +kernel
theorem dX11_read_22 : decode cX11_read 22 = .ok (.ireturn, 1) := by decide +kernel
theorem dX11_about_0 : decode cX11_about 0 = .ok (.iload_n 1, 1) := by decide +kernel
theorem dX11_about_1 : decode cX11_about 1 = .ok (.bipush 10, 2) := by decide +kernel
theorem dX11_about_3 : decode cX11_about 3 = .ok (.if_icmp .lt 31, 3) := by decide +kernel
theorem dX11_about_6 : decode cX11_about 6 = .ok (.iload_n 1, 1) := by decide +kernel
theorem dX11_about_7 : decode cX11_about 7 = .ok (.bipush 14, 2) := by decide +kernel
theorem dX11_about_9 : decode cX11_about 9 = .ok (.if_icmp .ge 25, 3) := by decide +kernel
theorem dX11_about_12 : decode cX11_about 12 = .ok (.aload_n 0, 1) := by decide +kernel
theorem dX11_about_13 : decode cX11_about 13 = .ok (.iload_n 1, 1) := by decide +kernel
theorem dX11_about_14 : decode cX11_about 14 = .ok (.bipush 10, 2) := by decide +kernel
theorem dX11_about_16 : decode cX11_about 16 = .ok (.isub, 1) := by decide +kernel
theorem dX11_about_17 : decode cX11_about 17 = .ok (.invokevirtual 173, 3) := by decide +kernel
theorem dX11_about_20 : decode cX11_about 20 = .ok (.astore_n 2, 1) := by decide +kernel
theorem dX11_about_21 : decode cX11_about 21 = .ok (.aload_n 2, 1) := by decide +kernel
theorem dX11_about_22 : decode cX11_about 22 = .ok (.ifnonnull 7, 3) := by decide +kernel
theorem dX11_about_25 : decode cX11_about 25 = .ok (.iconst 0, 1) := by decide +kernel
theorem dX11_about_26 : decode cX11_about 26 = .ok (.goto 7, 3) := by decide +kernel
theorem dX11_about_29 : decode cX11_about 29 = .ok (.aload_n 2, 1) := by decide +kernel
theorem dX11_about_30 : decode cX11_about 30 = .ok (.getfield 92, 3) := by decide +kernel
theorem dX11_about_33 : decode cX11_about 33 = .ok (.ireturn, 1) := by decide +kernel
theorem dX11_about_34 : decode cX11_about 34 = .ok (.iload_n 1, 1) := by decide +kernel
theorem dX11_about_35 : decode cX11_about 35 = .ok (.tableswitch 55 0 3 #[29, 34, 42, 47], 29) := by decide +kernel
theorem dX11_about_64 : decode cX11_about 64 = .ok (.aload_n 0, 1) := by decide +kernel
theorem dX11_about_65 : decode cX11_about 65 = .ok (.getfield 78, 3) := by decide +kernel
theorem dX11_about_68 : decode cX11_about 68 = .ok (.ireturn, 1) := by decide +kernel
theorem dX11_about_69 : decode cX11_about 69 = .ok (.aload_n 0, 1) := by decide +kernel
theorem dX11_about_70 : decode cX11_about 70 = .ok (.getfield 54, 3) := by decide +kernel
theorem dX11_about_73 : decode cX11_about 73 = .ok (.getfield 205, 3) := by decide +kernel
theorem dX11_about_76 : decode cX11_about 76 = .ok (.ireturn, 1) := by decide +kernel
theorem dX11_about_77 : decode cX11_about 77 = .ok (.aload_n 0, 1) := by decide +kernel
theorem dX11_about_78 : decode cX11_about 78 = .ok (.getfield 71, 3) := by decide +kernel
theorem dX11_about_81 : decode cX11_about 81 = .ok (.ireturn, 1) := by decide +kernel
theorem dX11_about_82 : decode cX11_about 82 = .ok (.aload_n 0, 1) := by decide +kernel
theorem dX11_about_83 : decode cX11_about 83 = .ok (.getfield 10, 3) := by decide +kernel
theorem dX11_about_86 : decode cX11_about 86 = .ok (.getfield 81, 3) := by decide +kernel
theorem dX11_about_89 : decode cX11_about 89 = .ok (.ireturn, 1) := by decide +kernel
theorem dX11_about_90 : decode cX11_about 90 = .ok (.iconst (-1), 1) := by decide +kernel
theorem dX11_about_91 : decode cX11_about 91 = .ok (.ireturn, 1) := by decide +kernel
theorem dX11_pageOn_0 : decode cX11_pageOn 0 = .ok (.iload_n 1, 1) := by decide +kernel
theorem dX11_pageOn_1 : decode cX11_pageOn 1 = .ok (.ifCond .lt 8, 3) := by decide +kernel
theorem dX11_pageOn_4 : decode cX11_pageOn 4 = .ok (.iload_n 1, 1) := by decide +kernel
theorem dX11_pageOn_5 : decode cX11_pageOn 5 = .ok (.iconst 4, 1) := by decide +kernel
theorem dX11_pageOn_6 : decode cX11_pageOn 6 = .ok (.if_icmp .lt 7, 3) := by decide +kernel
theorem dX11_pageOn_9 : decode cX11_pageOn 9 = .ok (.aconst_null, 1) := by decide +kernel
theorem dX11_pageOn_10 : decode cX11_pageOn 10 = .ok (.goto 9, 3) := by decide +kernel
theorem dX11_pageOn_13 : decode cX11_pageOn 13 = .ok (.aload_n 0, 1) := by decide +kernel
theorem dX11_pageOn_14 : decode cX11_pageOn 14 = .ok (.getfield 27, 3) := by decide +kernel
theorem dX11_pageOn_17 : decode cX11_pageOn 17 = .ok (.iload_n 1, 1) := by decide +kernel
theorem dX11_pageOn_18 : decode cX11_pageOn 18 = .ok (.aaload, 1) := by decide +kernel
theorem dX11_pageOn_19 : decode cX11_pageOn 19 = .ok (.areturn, 1) := by decide +kernel
theorem dX11_partOn_0 : decode cX11_partOn 0 = .ok (.aload_n 0, 1) := by decide +kernel
theorem dX11_partOn_1 : decode cX11_partOn 1 = .ok (.iload_n 1, 1) := by decide +kernel
theorem dX11_partOn_2 : decode cX11_partOn 2 = .ok (.invokevirtual 173, 3) := by decide +kernel
theorem dX11_partOn_5 : decode cX11_partOn 5 = .ok (.astore_n 3, 1) := by decide +kernel
theorem dX11_partOn_6 : decode cX11_partOn 6 = .ok (.aload_n 3, 1) := by decide +kernel
theorem dX11_partOn_7 : decode cX11_partOn 7 = .ok (.ifnonnull 7, 3) := by decide +kernel
theorem dX11_partOn_10 : decode cX11_partOn 10 = .ok (.aconst_null, 1) := by decide +kernel
theorem dX11_partOn_11 : decode cX11_partOn 11 = .ok (.goto 8, 3) := by decide +kernel
theorem dX11_partOn_14 : decode cX11_partOn 14 = .ok (.aload_n 3, 1) := by decide +kernel
theorem dX11_partOn_15 : decode cX11_partOn 15 = .ok (.iload_n 2, 1) := by decide +kernel
theorem dX11_partOn_16 : decode cX11_partOn 16 = .ok (.invokevirtual 269, 3) := by decide +kernel
theorem dX11_partOn_19 : decode cX11_partOn 19 = .ok (.areturn, 1) := by decide +kernel
theorem dX11_loopOn_0 : decode cX11_loopOn 0 = .ok (.aload_n 0, 1) := by decide +kernel
theorem dX11_loopOn_1 : decode cX11_loopOn 1 = .ok (.iload_n 1, 1) := by decide +kernel
theorem dX11_loopOn_2 : decode cX11_loopOn 2 = .ok (.iload_n 2, 1) := by decide +kernel
theorem dX11_loopOn_3 : decode cX11_loopOn 3 = .ok (.invokevirtual 101, 3) := by decide +kernel
theorem dX11_loopOn_6 : decode cX11_loopOn 6 = .ok (.astore 4, 2) := by decide +kernel
theorem dX11_loopOn_8 : decode cX11_loopOn 8 = .ok (.aload_n 0, 1) := by decide +kernel
theorem dX11_loopOn_9 : decode cX11_loopOn 9 = .ok (.iload_n 1, 1) := by decide +kernel
theorem dX11_loopOn_10 : decode cX11_loopOn 10 = .ok (.iload_n 3, 1) := by decide +kernel
theorem dX11_loopOn_11 : decode cX11_loopOn 11 = .ok (.invokevirtual 101, 3) := by decide +kernel
theorem dX11_loopOn_14 : decode cX11_loopOn 14 = .ok (.astore 5, 2) := by decide +kernel
theorem dX11_loopOn_16 : decode cX11_loopOn 16 = .ok (.aload 4, 2) := by decide +kernel
theorem dX11_loopOn_18 : decode cX11_loopOn 18 = .ok (.ifnull 8, 3) := by decide +kernel
theorem dX11_loopOn_21 : decode cX11_loopOn 21 = .ok (.aload 5, 2) := by decide +kernel
theorem dX11_loopOn_23 : decode cX11_loopOn 23 = .ok (.ifnonnull 7, 3) := by decide +kernel
theorem dX11_loopOn_26 : decode cX11_loopOn 26 = .ok (.aconst_null, 1) := by decide +kernel
theorem dX11_loopOn_27 : decode cX11_loopOn 27 = .ok (.goto 10, 3) := by decide +kernel
theorem dX11_loopOn_30 : decode cX11_loopOn 30 = .ok (.aload 4, 2) := by decide +kernel
theorem dX11_loopOn_32 : decode cX11_loopOn 32 = .ok (.aload 5, 2) := by decide +kernel
theorem dX11_loopOn_34 : decode cX11_loopOn 34 = .ok (.invokestatic 272, 3) := by decide +kernel
theorem dX11_loopOn_37 : decode cX11_loopOn 37 = .ok (.areturn, 1) := by decide +kernel
theorem dX11_likenessFor_0 : decode cX11_likenessFor 0 = .ok (.aconst_null, 1) := by decide +kernel
theorem dX11_likenessFor_1 : decode cX11_likenessFor 1 = .ok (.astore_n 3, 1) := by decide +kernel
theorem dX11_likenessFor_2 : decode cX11_likenessFor 2 = .ok (.iconst 0, 1) := by decide +kernel
theorem dX11_likenessFor_3 : decode cX11_likenessFor 3 = .ok (.istore 4, 2) := by decide +kernel
theorem dX11_likenessFor_5 : decode cX11_likenessFor 5 = .ok (.iload 4, 2) := by decide +kernel
theorem dX11_likenessFor_7 : decode cX11_likenessFor 7 = .ok (.bipush 8, 2) := by decide +kernel
theorem dX11_likenessFor_9 : decode cX11_likenessFor 9 = .ok (.if_icmp .ge 51, 3) := by decide +kernel
theorem dX11_likenessFor_12 : decode cX11_likenessFor 12 = .ok (.aload_n 3, 1) := by decide +kernel
theorem dX11_likenessFor_13 : decode cX11_likenessFor 13 = .ok (.ifnonnull 47, 3) := by decide +kernel
theorem dX11_likenessFor_16 : decode cX11_likenessFor 16 = .ok (.aload_n 0, 1) := by decide +kernel
theorem dX11_likenessFor_17 : decode cX11_likenessFor 17 = .ok (.getfield 33, 3) := by decide +kernel
theorem dX11_likenessFor_20 : decode cX11_likenessFor 20 = .ok (.iload 4, 2) := by decide +kernel
theorem dX11_likenessFor_22 : decode cX11_likenessFor 22 = .ok (.aaload, 1) := by decide +kernel
theorem dX11_likenessFor_23 : decode cX11_likenessFor 23 = .ok (.astore 5, 2) := by decide +kernel
theorem dX11_likenessFor_25 : decode cX11_likenessFor 25 = .ok (.aload 5, 2) := by decide +kernel
theorem dX11_likenessFor_27 : decode cX11_likenessFor 27 = .ok (.ifnull 27, 3) := by decide +kernel
theorem dX11_likenessFor_30 : decode cX11_likenessFor 30 = .ok (.aload 5, 2) := by decide +kernel
theorem dX11_likenessFor_32 : decode cX11_likenessFor 32 = .ok (.getfield 276, 3) := by decide +kernel
theorem dX11_likenessFor_35 : decode cX11_likenessFor 35 = .ok (.aload_n 1, 1) := by decide +kernel
theorem dX11_likenessFor_36 : decode cX11_likenessFor 36 = .ok (.getfield 158, 3) := by decide +kernel
theorem dX11_likenessFor_39 : decode cX11_likenessFor 39 = .ok (.if_acmp .ne 15, 3) := by decide +kernel
theorem dX11_likenessFor_42 : decode cX11_likenessFor 42 = .ok (.aload 5, 2) := by decide +kernel
theorem dX11_likenessFor_44 : decode cX11_likenessFor 44 = .ok (.getfield 279, 3) := by decide +kernel
theorem dX11_likenessFor_47 : decode cX11_likenessFor 47 = .ok (.aload_n 2, 1) := by decide +kernel
theorem dX11_likenessFor_48 : decode cX11_likenessFor 48 = .ok (.if_acmp .ne 6, 3) := by decide +kernel
theorem dX11_likenessFor_51 : decode cX11_likenessFor 51 = .ok (.aload 5, 2) := by decide +kernel
theorem dX11_likenessFor_53 : decode cX11_likenessFor 53 = .ok (.astore_n 3, 1) := by decide +kernel
theorem dX11_likenessFor_54 : decode cX11_likenessFor 54 = .ok (.iinc 4 1, 3) := by decide +kernel
theorem dX11_likenessFor_57 : decode cX11_likenessFor 57 = .ok (.goto (-52), 3) := by decide +kernel
theorem dX11_likenessFor_60 : decode cX11_likenessFor 60 = .ok (.aload_n 3, 1) := by decide +kernel
theorem dX11_likenessFor_61 : decode cX11_likenessFor 61 = .ok (.ifnonnull 17, 3) := by decide +kernel
theorem dX11_likenessFor_64 : decode cX11_likenessFor 64 = .ok (.aload_n 0, 1) := by decide +kernel
theorem dX11_likenessFor_65 : decode cX11_likenessFor 65 = .ok (.invokevirtual 282, 3) := by decide +kernel
theorem dX11_likenessFor_68 : decode cX11_likenessFor 68 = .ok (.astore_n 3, 1) := by decide +kernel
theorem dX11_likenessFor_69 : decode cX11_likenessFor 69 = .ok (.aload_n 3, 1) := by decide +kernel
theorem dX11_likenessFor_70 : decode cX11_likenessFor 70 = .ok (.aload_n 1, 1) := by decide +kernel
theorem dX11_likenessFor_71 : decode cX11_likenessFor 71 = .ok (.getfield 158, 3) := by decide +kernel
theorem dX11_likenessFor_74 : decode cX11_likenessFor 74 = .ok (.aload_n 2, 1) := by decide +kernel
theorem dX11_likenessFor_75 : decode cX11_likenessFor 75 = .ok (.invokevirtual 286, 3) := by decide +kernel
theorem dX11_likenessFor_78 : decode cX11_likenessFor 78 = .ok (.aload_n 3, 1) := by decide +kernel
theorem dX11_likenessFor_79 : decode cX11_likenessFor 79 = .ok (.aload_n 1, 1) := by decide +kernel
theorem dX11_likenessFor_80 : decode cX11_likenessFor 80 = .ok (.invokevirtual 289, 3) := by decide +kernel
theorem dX11_likenessFor_83 : decode cX11_likenessFor 83 = .ok (.aload_n 3, 1) := by decide +kernel
theorem dX11_likenessFor_84 : decode cX11_likenessFor 84 = .ok (.areturn, 1) := by decide +kernel
theorem dX11_oldestTable_0 : decode cX11_oldestTable 0 = .ok (.aload_n 0, 1) := by decide +kernel
theorem dX11_oldestTable_1 : decode cX11_oldestTable 1 = .ok (.getfield 75, 3) := by decide +kernel
theorem dX11_oldestTable_4 : decode cX11_oldestTable 4 = .ok (.istore_n 1, 1) := by decide +kernel
theorem dX11_oldestTable_5 : decode cX11_oldestTable 5 = .ok (.aload_n 0, 1) := by decide +kernel
theorem dX11_oldestTable_6 : decode cX11_oldestTable 6 = .ok (.iload_n 1, 1) := by decide +kernel
theorem dX11_oldestTable_7 : decode cX11_oldestTable 7 = .ok (.iconst 1, 1) := by decide +kernel
theorem dX11_oldestTable_8 : decode cX11_oldestTable 8 = .ok (.iadd, 1) := by decide +kernel
theorem dX11_oldestTable_9 : decode cX11_oldestTable 9 = .ok (.bipush 8, 2) := by decide +kernel
theorem dX11_oldestTable_11 : decode cX11_oldestTable 11 = .ok (.if_icmp .ge 9, 3) := by decide +kernel
theorem dX11_oldestTable_14 : decode cX11_oldestTable 14 = .ok (.iload_n 1, 1) := by decide +kernel
theorem dX11_oldestTable_15 : decode cX11_oldestTable 15 = .ok (.iconst 1, 1) := by decide +kernel
theorem dX11_oldestTable_16 : decode cX11_oldestTable 16 = .ok (.iadd, 1) := by decide +kernel
theorem dX11_oldestTable_17 : decode cX11_oldestTable 17 = .ok (.goto 4, 3) := by decide +kernel
theorem dX11_oldestTable_20 : decode cX11_oldestTable 20 = .ok (.iconst 0, 1) := by decide +kernel
theorem dX11_oldestTable_21 : decode cX11_oldestTable 21 = .ok (.putfield 75, 3) := by decide +kernel
theorem dX11_oldestTable_24 : decode cX11_oldestTable 24 = .ok (.aload_n 0, 1) := by decide +kernel
theorem dX11_oldestTable_25 : decode cX11_oldestTable 25 = .ok (.getfield 33, 3) := by decide +kernel
theorem dX11_oldestTable_28 : decode cX11_oldestTable 28 = .ok (.iload_n 1, 1) := by decide +kernel
theorem dX11_oldestTable_29 : decode cX11_oldestTable 29 = .ok (.aaload, 1) := by decide +kernel
theorem dX11_oldestTable_30 : decode cX11_oldestTable 30 = .ok (.ifnonnull 20, 3) := by decide +kernel
theorem dX11_oldestTable_33 : decode cX11_oldestTable 33 = .ok (.aload_n 0, 1) := by decide +kernel
theorem dX11_oldestTable_34 : decode cX11_oldestTable 34 = .ok (.getfield 33, 3) := by decide +kernel
theorem dX11_oldestTable_37 : decode cX11_oldestTable 37 = .ok (.iload_n 1, 1) := by decide +kernel
theorem dX11_oldestTable_38 : decode cX11_oldestTable 38 = .ok (.new 31, 3) := by decide +kernel
theorem dX11_oldestTable_41 : decode cX11_oldestTable 41 = .ok (.dup, 1) := by decide +kernel
theorem dX11_oldestTable_42 : decode cX11_oldestTable 42 = .ok (.aload_n 0, 1) := by decide +kernel
theorem dX11_oldestTable_43 : decode cX11_oldestTable 43 = .ok (.getfield 37, 3) := by decide +kernel
theorem dX11_oldestTable_46 : decode cX11_oldestTable 46 = .ok (.invokespecial 292, 3) := by decide +kernel
theorem dX11_oldestTable_49 : decode cX11_oldestTable 49 = .ok (.aastore, 1) := by decide +kernel
theorem dX11_oldestTable_50 : decode cX11_oldestTable 50 = .ok (.aload_n 0, 1) := by decide +kernel
theorem dX11_oldestTable_51 : decode cX11_oldestTable 51 = .ok (.getfield 33, 3) := by decide +kernel
theorem dX11_oldestTable_54 : decode cX11_oldestTable 54 = .ok (.iload_n 1, 1) := by decide +kernel
theorem dX11_oldestTable_55 : decode cX11_oldestTable 55 = .ok (.aaload, 1) := by decide +kernel
theorem dX11_oldestTable_56 : decode cX11_oldestTable 56 = .ok (.areturn, 1) := by decide +kernel
theorem dX11_tell_0 : decode cX11_tell 0 = .ok (.aload_n 0, 1) := by decide +kernel
theorem dX11_tell_1 : decode cX11_tell 1 = .ok (.getfield 71, 3) := by decide +kernel
theorem dX11_tell_4 : decode cX11_tell 4 = .ok (.bipush 20, 2) := by decide +kernel
theorem dX11_tell_6 : decode cX11_tell 6 = .ok (.if_icmp .lt 5, 3) := by decide +kernel
theorem dX11_tell_9 : decode cX11_tell 9 = .ok (.iconst (-1), 1) := by decide +kernel
theorem dX11_tell_10 : decode cX11_tell 10 = .ok (.ireturn, 1) := by decide +kernel
theorem dX11_tell_11 : decode cX11_tell 11 = .ok (.aload_n 0, 1) := by decide +kernel
theorem dX11_tell_12 : decode cX11_tell 12 = .ok (.getfield 60, 3) := by decide +kernel
theorem dX11_tell_15 : decode cX11_tell 15 = .ok (.aload_n 0, 1) := by decide +kernel
theorem dX11_tell_16 : decode cX11_tell 16 = .ok (.getfield 71, 3) := by decide +kernel
theorem dX11_tell_19 : decode cX11_tell 19 = .ok (.new 58, 3) := by decide +kernel
theorem dX11_tell_22 : decode cX11_tell 22 = .ok (.dup, 1) := by decide +kernel
theorem dX11_tell_23 : decode cX11_tell 23 = .ok (.iload_n 1, 1) := by decide +kernel
theorem dX11_tell_24 : decode cX11_tell 24 = .ok (.aload_n 2, 1) := by decide +kernel
theorem dX11_tell_25 : decode cX11_tell 25 = .ok (.aload_n 3, 1) := by decide +kernel
theorem dX11_tell_26 : decode cX11_tell 26 = .ok (.invokespecial 295, 3) := by decide +kernel
theorem dX11_tell_29 : decode cX11_tell 29 = .ok (.aastore, 1) := by decide +kernel
theorem dX11_tell_30 : decode cX11_tell 30 = .ok (.aload_n 0, 1) := by decide +kernel
theorem dX11_tell_31 : decode cX11_tell 31 = .ok (.dup, 1) := by decide +kernel
theorem dX11_tell_32 : decode cX11_tell 32 = .ok (.getfield 71, 3) := by decide +kernel
theorem dX11_tell_35 : decode cX11_tell 35 = .ok (.iconst 1, 1) := by decide +kernel
theorem dX11_tell_36 : decode cX11_tell 36 = .ok (.iadd, 1) := by decide +kernel
theorem dX11_tell_37 : decode cX11_tell 37 = .ok (.putfield 71, 3) := by decide +kernel
theorem dX11_tell_40 : decode cX11_tell 40 = .ok (.aload_n 0, 1) := by decide +kernel
theorem dX11_tell_41 : decode cX11_tell 41 = .ok (.getfield 71, 3) := by decide +kernel
theorem dX11_tell_44 : decode cX11_tell 44 = .ok (.ireturn, 1) := by decide +kernel
theorem dX11_perform_0 : decode cX11_perform 0 = .ok (.aload_n 1, 1) := by decide +kernel
theorem dX11_perform_1 : decode cX11_perform 1 = .ok (.ifnonnull 5, 3) := by decide +kernel
theorem dX11_perform_4 : decode cX11_perform 4 = .ok (.iconst 0, 1) := by decide +kernel
theorem dX11_perform_5 : decode cX11_perform 5 = .ok (.ireturn, 1) := by decide +kernel
theorem dX11_perform_6 : decode cX11_perform 6 = .ok (.aload_n 1, 1) := by decide +kernel
theorem dX11_perform_7 : decode cX11_perform 7 = .ok (.getfield 298, 3) := by decide +kernel
theorem dX11_perform_10 : decode cX11_perform 10 = .ok (.ifnull 17, 3) := by decide +kernel
theorem dX11_perform_13 : decode cX11_perform 13 = .ok (.aload_n 0, 1) := by decide +kernel
theorem dX11_perform_14 : decode cX11_perform 14 = .ok (.aload_n 1, 1) := by decide +kernel
theorem dX11_perform_15 : decode cX11_perform 15 = .ok (.getfield 298, 3) := by decide +kernel
theorem dX11_perform_18 : decode cX11_perform 18 = .ok (.aload_n 1, 1) := by decide +kernel
theorem dX11_perform_19 : decode cX11_perform 19 = .ok (.getfield 302, 3) := by decide +kernel
theorem dX11_perform_22 : decode cX11_perform 22 = .ok (.aload_n 2, 1) := by decide +kernel
theorem dX11_perform_23 : decode cX11_perform 23 = .ok (.invokevirtual 305, 3) := by decide +kernel
theorem dX11_perform_26 : decode cX11_perform 26 = .ok (.ireturn, 1) := by decide +kernel
theorem dX11_perform_27 : decode cX11_perform 27 = .ok (.aload_n 0, 1) := by decide +kernel
theorem dX11_perform_28 : decode cX11_perform 28 = .ok (.aload_n 1, 1) := by decide +kernel
theorem dX11_perform_29 : decode cX11_perform 29 = .ok (.getfield 309, 3) := by decide +kernel
theorem dX11_perform_32 : decode cX11_perform 32 = .ok (.aload_n 2, 1) := by decide +kernel
theorem dX11_perform_33 : decode cX11_perform 33 = .ok (.invokevirtual 162, 3) := by decide +kernel
theorem dX11_perform_36 : decode cX11_perform 36 = .ok (.astore_n 3, 1) := by decide +kernel
theorem dX11_perform_37 : decode cX11_perform 37 = .ok (.aload_n 0, 1) := by decide +kernel
theorem dX11_perform_38 : decode cX11_perform 38 = .ok (.getfield 48, 3) := by decide +kernel
theorem dX11_perform_41 : decode cX11_perform 41 = .ok (.aload_n 1, 1) := by decide +kernel
theorem dX11_perform_42 : decode cX11_perform 42 = .ok (.getfield 309, 3) := by decide +kernel
theorem dX11_perform_45 : decode cX11_perform 45 = .ok (.aload_n 2, 1) := by decide +kernel
theorem dX11_perform_46 : decode cX11_perform 46 = .ok (.aload_n 3, 1) := by decide +kernel
theorem dX11_perform_47 : decode cX11_perform 47 = .ok (.aload_n 0, 1) := by decide +kernel
theorem dX11_perform_48 : decode cX11_perform 48 = .ok (.getfield 78, 3) := by decide +kernel
theorem dX11_perform_51 : decode cX11_perform 51 = .ok (.invokevirtual 177, 3) := by decide +kernel
theorem dX11_perform_54 : decode cX11_perform 54 = .ok (.istore 4, 2) := by decide +kernel
theorem dX11_perform_56 : decode cX11_perform 56 = .ok (.aload_n 0, 1) := by decide +kernel
theorem dX11_perform_57 : decode cX11_perform 57 = .ok (.getfield 48, 3) := by decide +kernel
theorem dX11_perform_60 : decode cX11_perform 60 = .ok (.getfield 181, 3) := by decide +kernel
theorem dX11_perform_63 : decode cX11_perform 63 = .ok (.astore 5, 2) := by decide +kernel
theorem dX11_perform_65 : decode cX11_perform 65 = .ok (.iload 4, 2) := by decide +kernel
theorem dX11_perform_67 : decode cX11_perform 67 = .ok (.bipush (-2), 2) := by decide +kernel
theorem dX11_perform_69 : decode cX11_perform 69 = .ok (.if_icmp .eq 8, 3) := by decide +kernel
theorem dX11_perform_72 : decode cX11_perform 72 = .ok (.aload 5, 2) := by decide +kernel
theorem dX11_perform_74 : decode cX11_perform 74 = .ok (.ifnonnull 13, 3) := by decide +kernel
theorem dX11_perform_77 : decode cX11_perform 77 = .ok (.aload_n 0, 1) := by decide +kernel
theorem dX11_perform_78 : decode cX11_perform 78 = .ok (.getfield 67, 3) := by decide +kernel
theorem dX11_perform_81 : decode cX11_perform 81 = .ok (.iconst 2, 1) := by decide +kernel
theorem dX11_perform_82 : decode cX11_perform 82 = .ok (.aconst_null, 1) := by decide +kernel
theorem dX11_perform_83 : decode cX11_perform 83 = .ok (.invokevirtual 312, 3) := by decide +kernel
theorem dX11_perform_86 : decode cX11_perform 86 = .ok (.ireturn, 1) := by decide +kernel
theorem dX11_perform_87 : decode cX11_perform 87 = .ok (.iload 4, 2) := by decide +kernel
theorem dX11_perform_89 : decode cX11_perform 89 = .ok (.ifCond .ne 14, 3) := by decide +kernel
theorem dX11_perform_92 : decode cX11_perform 92 = .ok (.aload_n 0, 1) := by decide +kernel
theorem dX11_perform_93 : decode cX11_perform 93 = .ok (.getfield 67, 3) := by decide +kernel
theorem dX11_perform_96 : decode cX11_perform 96 = .ok (.iconst 1, 1) := by decide +kernel
theorem dX11_perform_97 : decode cX11_perform 97 = .ok (.aload 5, 2) := by decide +kernel
theorem dX11_perform_99 : decode cX11_perform 99 = .ok (.invokevirtual 312, 3) := by decide +kernel
theorem dX11_perform_102 : decode cX11_perform 102 = .ok (.ireturn, 1) := by decide +kernel
theorem dX11_perform_103 : decode cX11_perform 103 = .ok (.aload_n 0, 1) := by decide +kernel
theorem dX11_perform_104 : decode cX11_perform 104 = .ok (.getfield 67, 3) := by decide +kernel
theorem dX11_perform_107 : decode cX11_perform 107 = .ok (.aload 5, 2) := by decide +kernel
theorem dX11_perform_109 : decode cX11_perform 109 = .ok (.aload_n 1, 1) := by decide +kernel
theorem dX11_perform_110 : decode cX11_perform 110 = .ok (.getfield 302, 3) := by decide +kernel
theorem dX11_perform_113 : decode cX11_perform 113 = .ok (.invokevirtual 316, 3) := by decide +kernel
theorem dX11_perform_116 : decode cX11_perform 116 = .ok (.ireturn, 1) := by decide +kernel
theorem dX11_performRows_0 : decode cX11_performRows 0 = .ok (.iconst 0, 1) := by decide +kernel
theorem dX11_performRows_1 : decode cX11_performRows 1 = .ok (.istore 4, 2) := by decide +kernel
theorem dX11_performRows_3 : decode cX11_performRows 3 = .ok (.iload 4, 2) := by decide +kernel
theorem dX11_performRows_5 : decode cX11_performRows 5 = .ok (.bipush 60, 2) := by decide +kernel
theorem dX11_performRows_7 : decode cX11_performRows 7 = .ok (.if_icmp .ge 40, 3) := by decide +kernel
theorem dX11_performRows_10 : decode cX11_performRows 10 = .ok (.aload_n 1, 1) := by decide +kernel
theorem dX11_performRows_11 : decode cX11_performRows 11 = .ok (.aload_n 3, 1) := by decide +kernel
theorem dX11_performRows_12 : decode cX11_performRows 12 = .ok (.iload 4, 2) := by decide +kernel
theorem dX11_performRows_14 : decode cX11_performRows 14 = .ok (.invokevirtual 320, 3) := by decide +kernel
theorem dX11_performRows_17 : decode cX11_performRows 17 = .ok (.astore 5, 2) := by decide +kernel
theorem dX11_performRows_19 : decode cX11_performRows 19 = .ok (.aload 5, 2) := by decide +kernel
theorem dX11_performRows_21 : decode cX11_performRows 21 = .ok (.ifnonnull 5, 3) := by decide +kernel
theorem dX11_performRows_24 : decode cX11_performRows 24 = .ok (.iconst 1, 1) := by decide +kernel
theorem dX11_performRows_25 : decode cX11_performRows 25 = .ok (.ireturn, 1) := by decide +kernel
theorem dX11_performRows_26 : decode cX11_performRows 26 = .ok (.aload_n 0, 1) := by decide +kernel
theorem dX11_performRows_27 : decode cX11_performRows 27 = .ok (.getfield 67, 3) := by decide +kernel
theorem dX11_performRows_30 : decode cX11_performRows 30 = .ok (.aload 5, 2) := by decide +kernel
theorem dX11_performRows_32 : decode cX11_performRows 32 = .ok (.iload_n 2, 1) := by decide +kernel
theorem dX11_performRows_33 : decode cX11_performRows 33 = .ok (.invokevirtual 316, 3) := by decide +kernel
theorem dX11_performRows_36 : decode cX11_performRows 36 = .ok (.ifCond .ne 5, 3) := by decide +kernel
theorem dX11_performRows_39 : decode cX11_performRows 39 = .ok (.iconst 0, 1) := by decide +kernel
theorem dX11_performRows_40 : decode cX11_performRows 40 = .ok (.ireturn, 1) := by decide +kernel
theorem dX11_performRows_41 : decode cX11_performRows 41 = .ok (.iinc 4 1, 3) := by decide +kernel
theorem dX11_performRows_44 : decode cX11_performRows 44 = .ok (.goto (-41), 3) := by decide +kernel
theorem dX11_performRows_47 : decode cX11_performRows 47 = .ok (.iconst 1, 1) := by decide +kernel
theorem dX11_performRows_48 : decode cX11_performRows 48 = .ok (.ireturn, 1) := by decide +kernel
theorem dX11_areMarks_0 : decode cX11_areMarks 0 = .ok (.iload_n 0, 1) := by decide +kernel
theorem dX11_areMarks_1 : decode cX11_areMarks 1 = .ok (.iconst 1, 1) := by decide +kernel
theorem dX11_areMarks_2 : decode cX11_areMarks 2 = .ok (.if_icmp .lt 14, 3) := by decide +kernel
theorem dX11_areMarks_5 : decode cX11_areMarks 5 = .ok (.iload_n 0, 1) := by decide +kernel
theorem dX11_areMarks_6 : decode cX11_areMarks 6 = .ok (.sipush 255, 3) := by decide +kernel
theorem dX11_areMarks_9 : decode cX11_areMarks 9 = .ok (.if_icmp .gt 7, 3) := by decide +kernel
theorem dX11_areMarks_12 : decode cX11_areMarks 12 = .ok (.iconst 1, 1) := by decide +kernel
theorem dX11_areMarks_13 : decode cX11_areMarks 13 = .ok (.goto 4, 3) := by decide +kernel
theorem dX11_areMarks_16 : decode cX11_areMarks 16 = .ok (.iconst 0, 1) := by decide +kernel
theorem dX11_areMarks_17 : decode cX11_areMarks 17 = .ok (.ireturn, 1) := by decide +kernel
theorem dX11_numberOf_0 : decode cX11_numberOf 0 = .ok (.aload_n 0, 1) := by decide +kernel
theorem dX11_numberOf_1 : decode cX11_numberOf 1 = .ok (.ifnonnull 7, 3) := by decide +kernel
theorem dX11_numberOf_4 : decode cX11_numberOf 4 = .ok (.iconst (-1), 1) := by decide +kernel
theorem dX11_numberOf_5 : decode cX11_numberOf 5 = .ok (.goto 7, 3) := by decide +kernel
theorem dX11_numberOf_8 : decode cX11_numberOf 8 = .ok (.aload_n 0, 1) := by decide +kernel
theorem dX11_numberOf_9 : decode cX11_numberOf 9 = .ok (.getfield 323, 3) := by decide +kernel
theorem dX11_numberOf_12 : decode cX11_numberOf 12 = .ok (.ireturn, 1) := by decide +kernel
theorem dX11_letterOf_0 : decode cX11_letterOf 0 = .ok (.iload_n 2, 1) := by decide +kernel
theorem dX11_letterOf_1 : decode cX11_letterOf 1 = .ok (.ifCond .lt 9, 3) := by decide +kernel
theorem dX11_letterOf_4 : decode cX11_letterOf 4 = .ok (.iload_n 2, 1) := by decide +kernel
theorem dX11_letterOf_5 : decode cX11_letterOf 5 = .ok (.bipush 8, 2) := by decide +kernel
theorem dX11_letterOf_7 : decode cX11_letterOf 7 = .ok (.if_icmp .lt 5, 3) := by decide +kernel
theorem dX11_letterOf_10 : decode cX11_letterOf 10 = .ok (.iconst (-1), 1) := by decide +kernel
theorem dX11_letterOf_11 : decode cX11_letterOf 11 = .ok (.ireturn, 1) := by decide +kernel
theorem dX11_letterOf_12 : decode cX11_letterOf 12 = .ok (.lload_n 0, 1) := by decide +kernel
theorem dX11_letterOf_13 : decode cX11_letterOf 13 = .ok (.iload_n 2, 1) := by decide +kernel
theorem dX11_letterOf_14 : decode cX11_letterOf 14 = .ok (.iconst 5, 1) := by decide +kernel
theorem dX11_letterOf_15 : decode cX11_letterOf 15 = .ok (.imul, 1) := by decide +kernel
theorem dX11_letterOf_16 : decode cX11_letterOf 16 = .ok (.lshr, 1) := by decide +kernel
theorem dX11_letterOf_17 : decode cX11_letterOf 17 = .ok (.l2i, 1) := by decide +kernel
theorem dX11_letterOf_18 : decode cX11_letterOf 18 = .ok (.bipush 31, 2) := by decide +kernel
theorem dX11_letterOf_20 : decode cX11_letterOf 20 = .ok (.iand, 1) := by decide +kernel
theorem dX11_letterOf_21 : decode cX11_letterOf 21 = .ok (.istore_n 3, 1) := by decide +kernel
theorem dX11_letterOf_22 : decode cX11_letterOf 22 = .ok (.iload_n 3, 1) := by decide +kernel
theorem dX11_letterOf_23 : decode cX11_letterOf 23 = .ok (.ifCond .ne 7, 3) := by decide +kernel
theorem dX11_letterOf_26 : decode cX11_letterOf 26 = .ok (.iconst (-1), 1) := by decide +kernel
theorem dX11_letterOf_27 : decode cX11_letterOf 27 = .ok (.goto 7, 3) := by decide +kernel
theorem dX11_letterOf_30 : decode cX11_letterOf 30 = .ok (.iload_n 3, 1) := by decide +kernel
theorem dX11_letterOf_31 : decode cX11_letterOf 31 = .ok (.bipush 96, 2) := by decide +kernel
theorem dX11_letterOf_33 : decode cX11_letterOf 33 = .ok (.iadd, 1) := by decide +kernel
theorem dX11_letterOf_34 : decode cX11_letterOf 34 = .ok (.ireturn, 1) := by decide +kernel
theorem dJ6_bitCount_0f7a4_0 : decode cJ6_bitCount_0f7a4 0 = .ok (.iload_n 0, 1) := by decide +kernel
theorem dJ6_bitCount_0f7a4_1 : decode cJ6_bitCount_0f7a4 1 = .ok (.iload_n 0, 1) := by decide +kernel
theorem dJ6_bitCount_0f7a4_2 : decode cJ6_bitCount_0f7a4 2 = .ok (.iconst 1, 1) := by decide +kernel
theorem dJ6_bitCount_0f7a4_3 : decode cJ6_bitCount_0f7a4 3 = .ok (.iushr, 1) := by decide +kernel
theorem dJ6_bitCount_0f7a4_4 : decode cJ6_bitCount_0f7a4 4 = .ok (.ldc_w 265, 3) := by decide +kernel
theorem dJ6_bitCount_0f7a4_7 : decode cJ6_bitCount_0f7a4 7 = .ok (.iand, 1) := by decide +kernel
theorem dJ6_bitCount_0f7a4_8 : decode cJ6_bitCount_0f7a4 8 = .ok (.isub, 1) := by decide +kernel
theorem dJ6_bitCount_0f7a4_9 : decode cJ6_bitCount_0f7a4 9 = .ok (.istore_n 0, 1) := by decide +kernel
theorem dJ6_bitCount_0f7a4_10 : decode cJ6_bitCount_0f7a4 10 = .ok (.iload_n 0, 1) := by decide +kernel
theorem dJ6_bitCount_0f7a4_11 : decode cJ6_bitCount_0f7a4 11 = .ok (.ldc_w 266, 3) := by decide +kernel
theorem dJ6_bitCount_0f7a4_14 : decode cJ6_bitCount_0f7a4 14 = .ok (.iand, 1) := by decide +kernel
theorem dJ6_bitCount_0f7a4_15 : decode cJ6_bitCount_0f7a4 15 = .ok (.iload_n 0, 1) := by decide +kernel
theorem dJ6_bitCount_0f7a4_16 : decode cJ6_bitCount_0f7a4 16 = .ok (.iconst 2, 1) := by decide +kernel
theorem dJ6_bitCount_0f7a4_17 : decode cJ6_bitCount_0f7a4 17 = .ok (.iushr, 1) := by decide +kernel
theorem dJ6_bitCount_0f7a4_18 : decode cJ6_bitCount_0f7a4 18 = .ok (.ldc_w 266, 3) := by decide +kernel
theorem dJ6_bitCount_0f7a4_21 : decode cJ6_bitCount_0f7a4 21 = .ok (.iand, 1) := by decide +kernel
theorem dJ6_bitCount_0f7a4_22 : decode cJ6_bitCount_0f7a4 22 = .ok (.iadd, 1) := by decide +kernel
theorem dJ6_bitCount_0f7a4_23 : decode cJ6_bitCount_0f7a4 23 = .ok (.istore_n 0, 1) := by decide +kernel
theorem dJ6_bitCount_0f7a4_24 : decode cJ6_bitCount_0f7a4 24 = .ok (.iload_n 0, 1) := by decide +kernel
theorem dJ6_bitCount_0f7a4_25 : decode cJ6_bitCount_0f7a4 25 = .ok (.iload_n 0, 1) := by decide +kernel
theorem dJ6_bitCount_0f7a4_26 : decode cJ6_bitCount_0f7a4 26 = .ok (.iconst 4, 1) := by decide +kernel
theorem dJ6_bitCount_0f7a4_27 : decode cJ6_bitCount_0f7a4 27 = .ok (.iushr, 1) := by decide +kernel
theorem dJ6_bitCount_0f7a4_28 : decode cJ6_bitCount_0f7a4 28 = .ok (.iadd, 1) := by decide +kernel
theorem dJ6_bitCount_0f7a4_29 : decode cJ6_bitCount_0f7a4 29 = .ok (.ldc_w 267, 3) := by decide +kernel
theorem dJ6_bitCount_0f7a4_32 : decode cJ6_bitCount_0f7a4 32 = .ok (.iand, 1) := by decide +kernel
theorem dJ6_bitCount_0f7a4_33 : decode cJ6_bitCount_0f7a4 33 = .ok (.istore_n 0, 1) := by decide +kernel
theorem dJ6_bitCount_0f7a4_34 : decode cJ6_bitCount_0f7a4 34 = .ok (.iload_n 0, 1) := by decide +kernel
theorem dJ6_bitCount_0f7a4_35 : decode cJ6_bitCount_0f7a4 35 = .ok (.iload_n 0, 1) := by decide +kernel
theorem dJ6_bitCount_0f7a4_36 : decode cJ6_bitCount_0f7a4 36 = .ok (.bipush 8, 2) := by decide +kernel
theorem dJ6_bitCount_0f7a4_38 : decode cJ6_bitCount_0f7a4 38 = .ok (.iushr, 1) := by decide +kernel
theorem dJ6_bitCount_0f7a4_39 : decode cJ6_bitCount_0f7a4 39 = .ok (.iadd, 1) := by decide +kernel
theorem dJ6_bitCount_0f7a4_40 : decode cJ6_bitCount_0f7a4 40 = .ok (.istore_n 0, 1) := by decide +kernel
theorem dJ6_bitCount_0f7a4_41 : decode cJ6_bitCount_0f7a4 41 = .ok (.iload_n 0, 1) := by decide +kernel
theorem dJ6_bitCount_0f7a4_42 : decode cJ6_bitCount_0f7a4 42 = .ok (.iload_n 0, 1) := by decide +kernel
theorem dJ6_bitCount_0f7a4_43 : decode cJ6_bitCount_0f7a4 43 = .ok (.bipush 16, 2) := by decide +kernel
theorem dJ6_bitCount_0f7a4_45 : decode cJ6_bitCount_0f7a4 45 = .ok (.iushr, 1) := by decide +kernel
theorem dJ6_bitCount_0f7a4_46 : decode cJ6_bitCount_0f7a4 46 = .ok (.iadd, 1) := by decide +kernel
theorem dJ6_bitCount_0f7a4_47 : decode cJ6_bitCount_0f7a4 47 = .ok (.istore_n 0, 1) := by decide +kernel
theorem dJ6_bitCount_0f7a4_48 : decode cJ6_bitCount_0f7a4 48 = .ok (.iload_n 0, 1) := by decide +kernel
theorem dJ6_bitCount_0f7a4_49 : decode cJ6_bitCount_0f7a4 49 = .ok (.bipush 63, 2) := by decide +kernel
theorem dJ6_bitCount_0f7a4_51 : decode cJ6_bitCount_0f7a4 51 = .ok (.iand, 1) := by decide +kernel
theorem dJ6_bitCount_0f7a4_52 : decode cJ6_bitCount_0f7a4 52 = .ok (.ireturn, 1) := by decide +kernel
theorem dJ9_abs_0f7a4_0 : decode cJ9_abs_0f7a4 0 = .ok (.iload_n 0, 1) := by decide +kernel
theorem dJ9_abs_0f7a4_1 : decode cJ9_abs_0f7a4 1 = .ok (.ifCond .ge 8, 3) := by decide +kernel
theorem dJ9_abs_0f7a4_4 : decode cJ9_abs_0f7a4 4 = .ok (.iload_n 0, 1) := by decide +kernel
theorem dJ9_abs_0f7a4_5 : decode cJ9_abs_0f7a4 5 = .ok (.ineg, 1) := by decide +kernel
theorem dJ9_abs_0f7a4_6 : decode cJ9_abs_0f7a4 6 = .ok (.goto 4, 3) := by decide +kernel
theorem dJ9_abs_0f7a4_9 : decode cJ9_abs_0f7a4 9 = .ok (.iload_n 0, 1) := by decide +kernel
theorem dJ9_abs_0f7a4_10 : decode cJ9_abs_0f7a4 10 = .ok (.ireturn, 1) := by decide +kernel
theorem dJ9_min_7cf53_0 : decode cJ9_min_7cf53 0 = .ok (.iload_n 0, 1) := by decide +kernel
theorem dJ9_min_7cf53_1 : decode cJ9_min_7cf53 1 = .ok (.iload_n 1, 1) := by decide +kernel
theorem dJ9_min_7cf53_2 : decode cJ9_min_7cf53 2 = .ok (.if_icmp .gt 7, 3) := by decide +kernel
theorem dJ9_min_7cf53_5 : decode cJ9_min_7cf53 5 = .ok (.iload_n 0, 1) := by decide +kernel
theorem dJ9_min_7cf53_6 : decode cJ9_min_7cf53 6 = .ok (.goto 4, 3) := by decide +kernel
theorem dJ9_min_7cf53_9 : decode cJ9_min_7cf53 9 = .ok (.iload_n 1, 1) := by decide +kernel
theorem dJ9_min_7cf53_10 : decode cJ9_min_7cf53 10 = .ok (.ireturn, 1) := by decide +kernel
end
section
theorem dX12_init_0 : decode cX12_init 0 = .ok (.aload_n 0, 1) := by decide +kernel
theorem dX12_init_1 : decode cX12_init 1 = .ok (.invokespecial 1, 3) := by decide +kernel
theorem dX12_init_4 : decode cX12_init 4 = .ok (.aload_n 0, 1) := by decide +kernel
theorem dX12_init_5 : decode cX12_init 5 = .ok (.sipush 1620, 3) := by decide +kernel
theorem dX12_init_8 : decode cX12_init 8 = .ok (.newarray .byte, 2) := by decide +kernel
theorem dX12_init_10 : decode cX12_init 10 = .ok (.putfield 7, 3) := by decide +kernel
theorem dX12_init_13 : decode cX12_init 13 = .ok (.aload_n 0, 1) := by decide +kernel
theorem dX12_init_14 : decode cX12_init 14 = .ok (.sipush 1600, 3) := by decide +kernel
theorem dX12_init_17 : decode cX12_init 17 = .ok (.newarray .byte, 2) := by decide +kernel
theorem dX12_init_19 : decode cX12_init 19 = .ok (.putfield 13, 3) := by decide +kernel
theorem dX12_init_22 : decode cX12_init 22 = .ok (.aload_n 0, 1) := by decide +kernel
theorem dX12_init_23 : decode cX12_init 23 = .ok (.iconst (-1), 1) := by decide +kernel
theorem dX12_init_24 : decode cX12_init 24 = .ok (.putfield 16, 3) := by decide +kernel
theorem dX12_init_27 : decode cX12_init 27 = .ok (.aload_n 0, 1) := by decide +kernel
theorem dX12_init_28 : decode cX12_init 28 = .ok (.bipush 31, 2) := by decide +kernel
theorem dX12_init_30 : decode cX12_init 30 = .ok (.newarray .int, 2) := by decide +kernel
theorem dX12_init_32 : decode cX12_init 32 = .ok (.putfield 20, 3) := by decide +kernel
theorem dX12_init_35 : decode cX12_init 35 = .ok (.aload_n 0, 1) := by decide +kernel
theorem dX12_init_36 : decode cX12_init 36 = .ok (.sipush 1860, 3) := by decide +kernel
theorem dX12_init_39 : decode cX12_init 39 = .ok (.newarray .int, 2) := by decide +kernel
theorem dX12_init_41 : decode cX12_init 41 = .ok (.putfield 24, 3) := by decide +kernel
theorem dX12_init_44 : decode cX12_init 44 = .ok (.aload_n 0, 1) := by decide +kernel
theorem dX12_init_45 : decode cX12_init 45 = .ok (.sipush 1860, 3) := by decide +kernel
theorem dX12_init_48 : decode cX12_init 48 = .ok (.newarray .int, 2) := by decide +kernel
theorem dX12_init_50 : decode cX12_init 50 = .ok (.putfield 27, 3) := by decide +kernel
theorem dX12_init_53 : decode cX12_init 53 = .ok (.aload_n 0, 1) := by decide +kernel
theorem dX12_init_54 : decode cX12_init 54 = .ok (.sipush 1860, 3) := by decide +kernel
theorem dX12_init_57 : decode cX12_init 57 = .ok (.newarray .int, 2) := by decide +kernel
theorem dX12_init_59 : decode cX12_init 59 = .ok (.putfield 30, 3) := by decide +kernel
theorem dX12_init_62 : decode cX12_init 62 = .ok (.aload_n 0, 1) := by decide +kernel
theorem dX12_init_63 : decode cX12_init 63 = .ok (.sipush 1860, 3) := by decide +kernel
theorem dX12_init_66 : decode cX12_init 66 = .ok (.newarray .int, 2) := by decide +kernel
theorem dX12_init_68 : decode cX12_init 68 = .ok (.putfield 33, 3) := by decide +kernel
theorem dX12_init_71 : decode cX12_init 71 = .ok (.aload_n 0, 1) := by decide +kernel
theorem dX12_init_72 : decode cX12_init 72 = .ok (.sipush 1860, 3) := by decide +kernel
theorem dX12_init_75 : decode cX12_init 75 = .ok (.newarray .int, 2) := by decide +kernel
theorem dX12_init_77 : decode cX12_init 77 = .ok (.putfield 36, 3) := by decide +kernel
theorem dX12_init_80 : decode cX12_init 80 = .ok (.aload_n 0, 1) := by decide +kernel
theorem dX12_init_81 : decode cX12_init 81 = .ok (.sipush 1860, 3) := by decide +kernel
theorem dX12_init_84 : decode cX12_init 84 = .ok (.newarray .int, 2) := by decide +kernel
theorem dX12_init_86 : decode cX12_init 86 = .ok (.putfield 39, 3) := by decide +kernel
theorem dX12_init_89 : decode cX12_init 89 = .ok (.aload_n 0, 1) := by decide +kernel
theorem dX12_init_90 : decode cX12_init 90 = .ok (.sipush 1860, 3) := by decide +kernel
theorem dX12_init_93 : decode cX12_init 93 = .ok (.newarray .long, 2) := by decide +kernel
theorem dX12_init_95 : decode cX12_init 95 = .ok (.putfield 42, 3) := by decide +kernel
theorem dX12_init_98 : decode cX12_init 98 = .ok (.aload_n 0, 1) := by decide +kernel
theorem dX12_init_99 : decode cX12_init 99 = .ok (.sipush 1860, 3) := by decide +kernel
theorem dX12_init_102 : decode cX12_init 102 = .ok (.newarray .long, 2) := by decide +kernel
theorem dX12_init_104 : decode cX12_init 104 = .ok (.putfield 46, 3) := by decide +kernel
theorem dX12_init_107 : decode cX12_init 107 = .ok (.aload_n 0, 1) := by decide +kernel
theorem dX12_init_108 : decode cX12_init 108 = .ok (.sipush 1860, 3) := by decide +kernel
theorem dX12_init_111 : decode cX12_init 111 = .ok (.newarray .boolean, 2) := by decide +kernel
theorem dX12_init_113 : decode cX12_init 113 = .ok (.putfield 49, 3) := by decide +kernel
theorem dX12_init_116 : decode cX12_init 116 = .ok (.aload_n 0, 1) := by decide +kernel
theorem dX12_init_117 : decode cX12_init 117 = .ok (.sipush 29760, 3) := by decide +kernel
theorem dX12_init_120 : decode cX12_init 120 = .ok (.newarray .byte, 2) := by decide +kernel
theorem dX12_init_122 : decode cX12_init 122 = .ok (.putfield 53, 3) := by decide +kernel
theorem dX12_init_125 : decode cX12_init 125 = .ok (.aload_n 0, 1) := by decide +kernel
theorem dX12_init_126 : decode cX12_init 126 = .ok (.bipush 13, 2) := by decide +kernel
theorem dX12_init_128 : decode cX12_init 128 = .ok (.newarray .int, 2) := by decide +kernel
theorem dX12_init_130 : decode cX12_init 130 = .ok (.putfield 56, 3) := by decide +kernel
theorem dX12_init_133 : decode cX12_init 133 = .ok (.aload_n 0, 1) := by decide +kernel
theorem dX12_init_134 : decode cX12_init 134 = .ok (.sipush 3600, 3) := by decide +kernel
theorem dX12_init_137 : decode cX12_init 137 = .ok (.newarray .int, 2) := by decide +kernel
theorem dX12_init_139 : decode cX12_init 139 = .ok (.putfield 59, 3) := by decide +kernel
theorem dX12_init_142 : decode cX12_init 142 = .ok (.aload_n 0, 1) := by decide +kernel
theorem dX12_init_143 : decode cX12_init 143 = .ok (.sipush 3721, 3) := by decide +kernel
theorem dX12_init_146 : decode cX12_init 146 = .ok (.newarray .int, 2) := by decide +kernel
theorem dX12_init_148 : decode cX12_init 148 = .ok (.putfield 62, 3) := by decide +kernel
theorem dX12_init_151 : decode cX12_init 151 = .ok (.aload_n 0, 1) := by decide +kernel
theorem dX12_init_152 : decode cX12_init 152 = .ok (.iconst 1, 1) := by decide +kernel
theorem dX12_init_153 : decode cX12_init 153 = .ok (.putfield 65, 3) := by decide +kernel
theorem dX12_init_156 : decode cX12_init 156 = .ok (.aload_n 0, 1) := by decide +kernel
theorem dX12_init_157 : decode cX12_init 157 = .ok (.bipush 6, 2) := by decide +kernel
theorem dX12_init_159 : decode cX12_init 159 = .ok (.newarray .int, 2) := by decide +kernel
theorem dX12_init_161 : decode cX12_init 161 = .ok (.putfield 68, 3) := by decide +kernel
theorem dX12_init_164 : decode cX12_init 164 = .ok (.aload_n 0, 1) := by decide +kernel
theorem dX12_init_165 : decode cX12_init 165 = .ok (.sipush 360, 3) := by decide +kernel
theorem dX12_init_168 : decode cX12_init 168 = .ok (.newarray .int, 2) := by decide +kernel
theorem dX12_init_170 : decode cX12_init 170 = .ok (.putfield 71, 3) := by decide +kernel
theorem dX12_init_173 : decode cX12_init 173 = .ok (.aload_n 0, 1) := by decide +kernel
theorem dX12_init_174 : decode cX12_init 174 = .ok (.sipush 252, 3) := by decide +kernel
theorem dX12_init_177 : decode cX12_init 177 = .ok (.newarray .long, 2) := by decide +kernel
theorem dX12_init_179 : decode cX12_init 179 = .ok (.putfield 74, 3) := by decide +kernel
theorem dX12_init_182 : decode cX12_init 182 = .ok (.aload_n 0, 1) := by decide +kernel
theorem dX12_init_183 : decode cX12_init 183 = .ok (.sipush 252, 3) := by decide +kernel
theorem dX12_init_186 : decode cX12_init 186 = .ok (.newarray .int, 2) := by decide +kernel
theorem dX12_init_188 : decode cX12_init 188 = .ok (.putfield 77, 3) := by decide +kernel
theorem dX12_init_191 : decode cX12_init 191 = .ok (.aload_n 0, 1) := by decide +kernel
theorem dX12_init_192 : decode cX12_init 192 = .ok (.bipush 21, 2) := by decide +kernel
theorem dX12_init_194 : decode cX12_init 194 = .ok (.newarray .int, 2) := by decide +kernel
theorem dX12_init_196 : decode cX12_init 196 = .ok (.putfield 80, 3) := by decide +kernel
theorem dX12_init_199 : decode cX12_init 199 = .ok (.aload_n 0, 1) := by decide +kernel
theorem dX12_init_200 : decode cX12_init 200 = .ok (.bipush 21, 2) := by decide +kernel
theorem dX12_init_202 : decode cX12_init 202 = .ok (.newarray .int, 2) := by decide +kernel
theorem dX12_init_204 : decode cX12_init 204 = .ok (.putfield 83, 3) := by decide +kernel
theorem dX12_init_207 : decode cX12_init 207 = .ok (.aload_n 0, 1) := by decide +kernel
theorem dX12_init_208 : decode cX12_init 208 = .ok (.bipush 21, 2) := by decide +kernel
theorem dX12_init_210 : decode cX12_init 210 = .ok (.newarray .int, 2) := by decide +kernel
theorem dX12_init_212 : decode cX12_init 212 = .ok (.putfield 86, 3) := by decide +kernel
theorem dX12_init_215 : decode cX12_init 215 = .ok (.aload_n 0, 1) := by decide +kernel
theorem dX12_init_216 : decode cX12_init 216 = .ok (.bipush 21, 2) := by decide +kernel
theorem dX12_init_218 : decode cX12_init 218 = .ok (.newarray .int, 2) := by decide +kernel
theorem dX12_init_220 : decode cX12_init 220 = .ok (.putfield 89, 3) := by decide +kernel
theorem dX12_init_223 : decode cX12_init 223 = .ok (.aload_n 0, 1) := by decide +kernel
theorem dX12_init_224 : decode cX12_init 224 = .ok (.bipush 20, 2) := by decide +kernel
theorem dX12_init_226 : decode cX12_init 226 = .ok (.newarray .boolean, 2) := by decide +kernel
theorem dX12_init_228 : decode cX12_init 228 = .ok (.putfield 92, 3) := by decide +kernel
theorem dX12_init_231 : decode cX12_init 231 = .ok (.aload_n 0, 1) := by decide +kernel
theorem dX12_init_232 : decode cX12_init 232 = .ok (.bipush 20, 2) := by decide +kernel
theorem dX12_init_234 : decode cX12_init 234 = .ok (.newarray .boolean, 2) := by decide +kernel
theorem dX12_init_236 : decode cX12_init 236 = .ok (.putfield 95, 3) := by decide +kernel
theorem dX12_init_239 : decode cX12_init 239 = .ok (.aload_n 0, 1) := by decide +kernel
theorem dX12_init_240 : decode cX12_init 240 = .ok (.bipush 60, 2) := by decide +kernel
theorem dX12_init_242 : decode cX12_init 242 = .ok (.newarray .boolean, 2) := by decide +kernel
theorem dX12_init_244 : decode cX12_init 244 = .ok (.putfield 98, 3) := by decide +kernel
theorem dX12_init_247 : decode cX12_init 247 = .ok (.aload_n 0, 1) := by decide +kernel
theorem dX12_init_248 : decode cX12_init 248 = .ok (.bipush 20, 2) := by decide +kernel
theorem dX12_init_250 : decode cX12_init 250 = .ok (.newarray .int, 2) := by decide +kernel
theorem dX12_init_252 : decode cX12_init 252 = .ok (.putfield 101, 3) := by decide +kernel
theorem dX12_init_255 : decode cX12_init 255 = .ok (.aload_n 0, 1) := by decide +kernel
theorem dX12_init_256 : decode cX12_init 256 = .ok (.bipush 40, 2) := by decide +kernel
theorem dX12_init_258 : decode cX12_init 258 = .ok (.newarray .int, 2) := by decide +kernel
theorem dX12_init_260 : decode cX12_init 260 = .ok (.putfield 104, 3) := by decide +kernel
theorem dX12_init_263 : decode cX12_init 263 = .ok (.aload_n 0, 1) := by decide +kernel
theorem dX12_init_264 : decode cX12_init 264 = .ok (.sipush 640, 3) := by decide +kernel
theorem dX12_init_267 : decode cX12_init 267 = .ok (.newarray .byte, 2) := by decide +kernel
theorem dX12_init_269 : decode cX12_init 269 = .ok (.putfield 107, 3) := by decide +kernel
theorem dX12_init_272 : decode cX12_init 272 = .ok (.return_, 1) := by decide +kernel
theorem dX12_sign_0 : decode cX12_sign 0 = .ok (.iload_n 1, 1) := by decide +kernel
theorem dX12_sign_1 : decode cX12_sign 1 = .ok (.aload_n 0, 1) := by decide +kernel
theorem dX12_sign_2 : decode cX12_sign 2 = .ok (.getfield 110, 3) := by decide +kernel
theorem dX12_sign_5 : decode cX12_sign 5 = .ok (.if_icmp .ge 16, 3) := by decide +kernel
theorem dX12_sign_8 : decode cX12_sign 8 = .ok (.aload_n 0, 1) := by decide +kernel
theorem dX12_sign_9 : decode cX12_sign 9 = .ok (.getfield 13, 3) := by decide +kernel
theorem dX12_sign_12 : decode cX12_sign 12 = .ok (.iload_n 1, 1) := by decide +kernel
theorem dX12_sign_13 : decode cX12_sign 13 = .ok (.baload, 1) := by decide +kernel
theorem dX12_sign_14 : decode cX12_sign 14 = .ok (.sipush 255, 3) := by decide +kernel
theorem dX12_sign_17 : decode cX12_sign 17 = .ok (.iand, 1) := by decide +kernel
theorem dX12_sign_18 : decode cX12_sign 18 = .ok (.goto 4, 3) := by decide +kernel
theorem dX12_sign_21 : decode cX12_sign 21 = .ok (.iconst 0, 1) := by decide +kernel
theorem dX12_sign_22 : decode cX12_sign 22 = .ok (.ireturn, 1) := by decide +kernel
theorem dX12_isLetter_0 : decode cX12_isLetter 0 = .ok (.iload_n 0, 1) := by decide +kernel
theorem dX12_isLetter_1 : decode cX12_isLetter 1 = .ok (.bipush 97, 2) := by decide +kernel
theorem dX12_isLetter_3 : decode cX12_isLetter 3 = .ok (.if_icmp .lt 13, 3) := by decide +kernel
theorem dX12_isLetter_6 : decode cX12_isLetter 6 = .ok (.iload_n 0, 1) := by decide +kernel
theorem dX12_isLetter_7 : decode cX12_isLetter 7 = .ok (.bipush 122, 2) := by decide +kernel
theorem dX12_isLetter_9 : decode cX12_isLetter 9 = .ok (.if_icmp .gt 7, 3) := by decide +kernel
theorem dX12_isLetter_12 : decode cX12_isLetter 12 = .ok (.iconst 1, 1) := by decide +kernel
theorem dX12_isLetter_13 : decode cX12_isLetter 13 = .ok (.goto 4, 3) := by decide +kernel
theorem dX12_isLetter_16 : decode cX12_isLetter 16 = .ok (.iconst 0, 1) := by decide +kernel
theorem dX12_isLetter_17 : decode cX12_isLetter 17 = .ok (.ireturn, 1) := by decide +kernel
theorem dX12_fails_0 : decode cX12_fails 0 = .ok (.aload_n 0, 1) := by decide +kernel
theorem dX12_fails_1 : decode cX12_fails 1 = .ok (.getfield 113, 3) := by decide +kernel
theorem dX12_fails_4 : decode cX12_fails 4 = .ok (.ifCond .le 4, 3) := by decide +kernel
theorem dX12_fails_7 : decode cX12_fails 7 = .ok (.return_, 1) := by decide +kernel
theorem dX12_fails_8 : decode cX12_fails 8 = .ok (.aload_n 0, 1) := by decide +kernel
theorem dX12_fails_9 : decode cX12_fails 9 = .ok (.iload_n 1, 1) := by decide +kernel
theorem dX12_fails_10 : decode cX12_fails 10 = .ok (.putfield 113, 3) := by decide +kernel
theorem dX12_fails_13 : decode cX12_fails 13 = .ok (.aload_n 0, 1) := by decide +kernel
theorem dX12_fails_14 : decode cX12_fails 14 = .ok (.iload_n 2, 1) := by decide +kernel
theorem dX12_fails_15 : decode cX12_fails 15 = .ok (.putfield 16, 3) := by decide +kernel
theorem dX12_fails_18 : decode cX12_fails 18 = .ok (.return_, 1) := by decide +kernel
theorem dX12_isGood_0 : decode cX12_isGood 0 = .ok (.aload_n 0, 1) := by decide +kernel
theorem dX12_isGood_1 : decode cX12_isGood 1 = .ok (.getfield 113, 3) := by decide +kernel
theorem dX12_isGood_4 : decode cX12_isGood 4 = .ok (.ifCond .ne 7, 3) := by decide +kernel
theorem dX12_isGood_7 : decode cX12_isGood 7 = .ok (.iconst 1, 1) := by decide +kernel
theorem dX12_isGood_8 : decode cX12_isGood 8 = .ok (.goto 4, 3) := by decide +kernel
theorem dX12_isGood_11 : decode cX12_isGood 11 = .ok (.iconst 0, 1) := by decide +kernel
theorem dX12_isGood_12 : decode cX12_isGood 12 = .ok (.ireturn, 1) := by decide +kernel
theorem dX12_next_0 : decode cX12_next 0 = .ok (.aload_n 0, 1) := by decide +kernel
theorem dX12_next_1 : decode cX12_next 1 = .ok (.aload_n 0, 1) := by decide +kernel
theorem dX12_next_2 : decode cX12_next 2 = .ok (.getfield 116, 3) := by decide +kernel
theorem dX12_next_5 : decode cX12_next 5 = .ok (.putfield 119, 3) := by decide +kernel
theorem dX12_next_8 : decode cX12_next 8 = .ok (.aload_n 0, 1) := by decide +kernel
theorem dX12_next_9 : decode cX12_next 9 = .ok (.getfield 119, 3) := by decide +kernel
theorem dX12_next_12 : decode cX12_next 12 = .ok (.aload_n 0, 1) := by decide +kernel
theorem dX12_next_13 : decode cX12_next 13 = .ok (.getfield 110, 3) := by decide +kernel
theorem dX12_next_16 : decode cX12_next 16 = .ok (.if_icmp .ge 42, 3) := by decide +kernel
theorem dX12_next_19 : decode cX12_next 19 = .ok (.aload_n 0, 1) := by decide +kernel
theorem dX12_next_20 : decode cX12_next 20 = .ok (.aload_n 0, 1) := by decide +kernel
theorem dX12_next_21 : decode cX12_next 21 = .ok (.getfield 119, 3) := by decide +kernel
theorem dX12_next_24 : decode cX12_next 24 = .ok (.invokevirtual 122, 3) := by decide +kernel
theorem dX12_next_27 : decode cX12_next 27 = .ok (.bipush 32, 2) := by decide +kernel
theorem dX12_next_29 : decode cX12_next 29 = .ok (.if_icmp .eq 16, 3) := by decide +kernel
theorem dX12_next_32 : decode cX12_next 32 = .ok (.aload_n 0, 1) := by decide +kernel
theorem dX12_next_33 : decode cX12_next 33 = .ok (.aload_n 0, 1) := by decide +kernel
theorem dX12_next_34 : decode cX12_next 34 = .ok (.getfield 119, 3) := by decide +kernel
theorem dX12_next_37 : decode cX12_next 37 = .ok (.invokevirtual 122, 3) := by decide +kernel
theorem dX12_next_40 : decode cX12_next 40 = .ok (.bipush 10, 2) := by decide +kernel
theorem dX12_next_42 : decode cX12_next 42 = .ok (.if_icmp .ne 16, 3) := by decide +kernel
theorem dX12_next_45 : decode cX12_next 45 = .ok (.aload_n 0, 1) := by decide +kernel
theorem dX12_next_46 : decode cX12_next 46 = .ok (.dup, 1) := by decide +kernel
theorem dX12_next_47 : decode cX12_next 47 = .ok (.getfield 119, 3) := by decide +kernel
theorem dX12_next_50 : decode cX12_next 50 = .ok (.iconst 1, 1) := by decide +kernel
theorem dX12_next_51 : decode cX12_next 51 = .ok (.iadd, 1) := by decide +kernel
theorem dX12_next_52 : decode cX12_next 52 = .ok (.putfield 119, 3) := by decide +kernel
theorem dX12_next_55 : decode cX12_next 55 = .ok (.goto (-47), 3) := by decide +kernel
theorem dX12_next_58 : decode cX12_next 58 = .ok (.aload_n 0, 1) := by decide +kernel
theorem dX12_next_59 : decode cX12_next 59 = .ok (.aload_n 0, 1) := by decide +kernel
theorem dX12_next_60 : decode cX12_next 60 = .ok (.getfield 119, 3) := by decide +kernel
theorem dX12_next_63 : decode cX12_next 63 = .ok (.invokevirtual 122, 3) := by decide +kernel
theorem dX12_next_66 : decode cX12_next 66 = .ok (.istore_n 1, 1) := by decide +kernel
theorem dX12_next_67 : decode cX12_next 67 = .ok (.aload_n 0, 1) := by decide +kernel
theorem dX12_next_68 : decode cX12_next 68 = .ok (.aload_n 0, 1) := by decide +kernel
theorem dX12_next_69 : decode cX12_next 69 = .ok (.getfield 119, 3) := by decide +kernel
theorem dX12_next_72 : decode cX12_next 72 = .ok (.iconst 1, 1) := by decide +kernel
theorem dX12_next_73 : decode cX12_next 73 = .ok (.iadd, 1) := by decide +kernel
theorem dX12_next_74 : decode cX12_next 74 = .ok (.putfield 116, 3) := by decide +kernel
theorem dX12_next_77 : decode cX12_next 77 = .ok (.aload_n 0, 1) := by decide +kernel
theorem dX12_next_78 : decode cX12_next 78 = .ok (.getfield 119, 3) := by decide +kernel
theorem dX12_next_81 : decode cX12_next 81 = .ok (.aload_n 0, 1) := by decide +kernel
theorem dX12_next_82 : decode cX12_next 82 = .ok (.getfield 110, 3) := by decide +kernel
theorem dX12_next_85 : decode cX12_next 85 = .ok (.if_icmp .lt 27, 3) := by decide +kernel
theorem dX12_next_88 : decode cX12_next 88 = .ok (.aload_n 0, 1) := by decide +kernel
theorem dX12_next_89 : decode cX12_next 89 = .ok (.iconst 0, 1) := by decide +kernel
theorem dX12_next_90 : decode cX12_next 90 = .ok (.putfield 126, 3) := by decide +kernel
theorem dX12_next_93 : decode cX12_next 93 = .ok (.aload_n 0, 1) := by decide +kernel
theorem dX12_next_94 : decode cX12_next 94 = .ok (.aload_n 0, 1) := by decide +kernel
theorem dX12_next_95 : decode cX12_next 95 = .ok (.getfield 110, 3) := by decide +kernel
theorem dX12_next_98 : decode cX12_next 98 = .ok (.putfield 119, 3) := by decide +kernel
theorem dX12_next_101 : decode cX12_next 101 = .ok (.aload_n 0, 1) := by decide +kernel
theorem dX12_next_102 : decode cX12_next 102 = .ok (.aload_n 0, 1) := by decide +kernel
theorem dX12_next_103 : decode cX12_next 103 = .ok (.getfield 110, 3) := by decide +kernel
theorem dX12_next_106 : decode cX12_next 106 = .ok (.putfield 116, 3) := by decide +kernel
theorem dX12_next_109 : decode cX12_next 109 = .ok (.goto 280, 3) := by decide +kernel
theorem dX12_next_112 : decode cX12_next 112 = .ok (.iload_n 1, 1) := by decide +kernel
theorem dX12_next_113 : decode cX12_next 113 = .ok (.invokestatic 129, 3) := by decide +kernel
theorem dX12_next_116 : decode cX12_next 116 = .ok (.ifCond .eq 109, 3) := by decide +kernel
theorem dX12_next_119 : decode cX12_next 119 = .ok (.aload_n 0, 1) := by decide +kernel
theorem dX12_next_120 : decode cX12_next 120 = .ok (.aload_n 0, 1) := by decide +kernel
theorem dX12_next_121 : decode cX12_next 121 = .ok (.getfield 116, 3) := by decide +kernel
theorem dX12_next_124 : decode cX12_next 124 = .ok (.invokevirtual 122, 3) := by decide +kernel
theorem dX12_next_127 : decode cX12_next 127 = .ok (.invokestatic 129, 3) := by decide +kernel
theorem dX12_next_130 : decode cX12_next 130 = .ok (.ifCond .eq 16, 3) := by decide +kernel
theorem dX12_next_133 : decode cX12_next 133 = .ok (.aload_n 0, 1) := by decide +kernel
theorem dX12_next_134 : decode cX12_next 134 = .ok (.dup, 1) := by decide +kernel
theorem dX12_next_135 : decode cX12_next 135 = .ok (.getfield 116, 3) := by decide +kernel
theorem dX12_next_138 : decode cX12_next 138 = .ok (.iconst 1, 1) := by decide +kernel
theorem dX12_next_139 : decode cX12_next 139 = .ok (.iadd, 1) := by decide +kernel
theorem dX12_next_140 : decode cX12_next 140 = .ok (.putfield 116, 3) := by decide +kernel
theorem dX12_next_143 : decode cX12_next 143 = .ok (.goto (-24), 3) := by decide +kernel
theorem dX12_next_146 : decode cX12_next 146 = .ok (.aload_n 0, 1) := by decide +kernel
theorem dX12_next_147 : decode cX12_next 147 = .ok (.lconst 0, 1) := by decide +kernel
theorem dX12_next_148 : decode cX12_next 148 = .ok (.putfield 133, 3) := by decide +kernel
theorem dX12_next_151 : decode cX12_next 151 = .ok (.aload_n 0, 1) := by decide +kernel
theorem dX12_next_152 : decode cX12_next 152 = .ok (.getfield 119, 3) := by decide +kernel
theorem dX12_next_155 : decode cX12_next 155 = .ok (.istore_n 2, 1) := by decide +kernel
theorem dX12_next_156 : decode cX12_next 156 = .ok (.iload_n 2, 1) := by decide +kernel
theorem dX12_next_157 : decode cX12_next 157 = .ok (.aload_n 0, 1) := by decide +kernel
theorem dX12_next_158 : decode cX12_next 158 = .ok (.getfield 116, 3) := by decide +kernel
theorem dX12_next_161 : decode cX12_next 161 = .ok (.if_icmp .ge 38, 3) := by decide +kernel
theorem dX12_next_164 : decode cX12_next 164 = .ok (.iload_n 2, 1) := by decide +kernel
theorem dX12_next_165 : decode cX12_next 165 = .ok (.aload_n 0, 1) := by decide +kernel
theorem dX12_next_166 : decode cX12_next 166 = .ok (.getfield 119, 3) := by decide +kernel
theorem dX12_next_169 : decode cX12_next 169 = .ok (.bipush 8, 2) := by decide +kernel
theorem dX12_next_171 : decode cX12_next 171 = .ok (.iadd, 1) := by decide +kernel
theorem dX12_next_172 : decode cX12_next 172 = .ok (.if_icmp .ge 27, 3) := by decide +kernel
theorem dX12_next_175 : decode cX12_next 175 = .ok (.aload_n 0, 1) := by decide +kernel
theorem dX12_next_176 : decode cX12_next 176 = .ok (.aload_n 0, 1) := by decide +kernel
theorem dX12_next_177 : decode cX12_next 177 = .ok (.getfield 133, 3) := by decide +kernel
theorem dX12_next_180 : decode cX12_next 180 = .ok (.bipush 8, 2) := by decide +kernel
theorem dX12_next_182 : decode cX12_next 182 = .ok (.lshl, 1) := by decide +kernel
theorem dX12_next_183 : decode cX12_next 183 = .ok (.aload_n 0, 1) := by decide +kernel
theorem dX12_next_184 : decode cX12_next 184 = .ok (.iload_n 2, 1) := by decide +kernel
theorem dX12_next_185 : decode cX12_next 185 = .ok (.invokevirtual 122, 3) := by decide +kernel
theorem dX12_next_188 : decode cX12_next 188 = .ok (.i2l, 1) := by decide +kernel
theorem dX12_next_189 : decode cX12_next 189 = .ok (.lor, 1) := by decide +kernel
theorem dX12_next_190 : decode cX12_next 190 = .ok (.putfield 133, 3) := by decide +kernel
theorem dX12_next_193 : decode cX12_next 193 = .ok (.iinc 2 1, 3) := by decide +kernel
theorem dX12_next_196 : decode cX12_next 196 = .ok (.goto (-40), 3) := by decide +kernel
theorem dX12_next_199 : decode cX12_next 199 = .ok (.aload_n 0, 1) := by decide +kernel
theorem dX12_next_200 : decode cX12_next 200 = .ok (.aload_n 0, 1) := by decide +kernel
theorem dX12_next_201 : decode cX12_next 201 = .ok (.getfield 116, 3) := by decide +kernel
theorem dX12_next_204 : decode cX12_next 204 = .ok (.aload_n 0, 1) := by decide +kernel
theorem dX12_next_205 : decode cX12_next 205 = .ok (.getfield 119, 3) := by decide +kernel
theorem dX12_next_208 : decode cX12_next 208 = .ok (.isub, 1) := by decide +kernel
theorem dX12_next_209 : decode cX12_next 209 = .ok (.bipush 8, 2) := by decide +kernel
theorem dX12_next_211 : decode cX12_next 211 = .ok (.if_icmp .le 7, 3) := by decide +kernel
theorem dX12_next_214 : decode cX12_next 214 = .ok (.iconst 1, 1) := by decide +kernel
theorem dX12_next_215 : decode cX12_next 215 = .ok (.goto 4, 3) := by decide +kernel
theorem dX12_next_218 : decode cX12_next 218 = .ok (.iconst 2, 1) := by decide +kernel
theorem dX12_next_219 : decode cX12_next 219 = .ok (.putfield 126, 3) := by decide +kernel
theorem dX12_next_222 : decode cX12_next 222 = .ok (.goto 167, 3) := by decide +kernel
theorem dX12_next_225 : decode cX12_next 225 = .ok (.iload_n 1, 1) := by decide +kernel
theorem dX12_next_226 : decode cX12_next 226 = .ok (.bipush 34, 2) := by decide +kernel
theorem dX12_next_228 : decode cX12_next 228 = .ok (.if_icmp .ne 128, 3) := by decide +kernel
theorem dX12_next_231 : decode cX12_next 231 = .ok (.aload_n 0, 1) := by decide +kernel
theorem dX12_next_232 : decode cX12_next 232 = .ok (.getfield 116, 3) := by decide +kernel
theorem dX12_next_235 : decode cX12_next 235 = .ok (.aload_n 0, 1) := by decide +kernel
theorem dX12_next_236 : decode cX12_next 236 = .ok (.getfield 110, 3) := by decide +kernel
theorem dX12_next_239 : decode cX12_next 239 = .ok (.if_icmp .ge 55, 3) := by decide +kernel
theorem dX12_next_242 : decode cX12_next 242 = .ok (.aload_n 0, 1) := by decide +kernel
theorem dX12_next_243 : decode cX12_next 243 = .ok (.aload_n 0, 1) := by decide +kernel
theorem dX12_next_244 : decode cX12_next 244 = .ok (.getfield 116, 3) := by decide +kernel
theorem dX12_next_247 : decode cX12_next 247 = .ok (.invokevirtual 122, 3) := by decide +kernel
theorem dX12_next_250 : decode cX12_next 250 = .ok (.bipush 32, 2) := by decide +kernel
theorem dX12_next_252 : decode cX12_next 252 = .ok (.if_icmp .lt 42, 3) := by decide +kernel
theorem dX12_next_255 : decode cX12_next 255 = .ok (.aload_n 0, 1) := by decide +kernel
theorem dX12_next_256 : decode cX12_next 256 = .ok (.aload_n 0, 1) := by decide +kernel
theorem dX12_next_257 : decode cX12_next 257 = .ok (.getfield 116, 3) := by decide +kernel
theorem dX12_next_260 : decode cX12_next 260 = .ok (.invokevirtual 122, 3) := by decide +kernel
theorem dX12_next_263 : decode cX12_next 263 = .ok (.bipush 127, 2) := by decide +kernel
theorem dX12_next_265 : decode cX12_next 265 = .ok (.if_icmp .ge 29, 3) := by decide +kernel
theorem dX12_next_268 : decode cX12_next 268 = .ok (.aload_n 0, 1) := by decide +kernel
theorem dX12_next_269 : decode cX12_next 269 = .ok (.aload_n 0, 1) := by decide +kernel
theorem dX12_next_270 : decode cX12_next 270 = .ok (.getfield 116, 3) := by decide +kernel
theorem dX12_next_273 : decode cX12_next 273 = .ok (.invokevirtual 122, 3) := by decide +kernel
theorem dX12_next_276 : decode cX12_next 276 = .ok (.bipush 34, 2) := by decide +kernel
theorem dX12_next_278 : decode cX12_next 278 = .ok (.if_icmp .eq 16, 3) := by decide +kernel
theorem dX12_next_281 : decode cX12_next 281 = .ok (.aload_n 0, 1) := by decide +kernel
theorem dX12_next_282 : decode cX12_next 282 = .ok (.dup, 1) := by decide +kernel
theorem dX12_next_283 : decode cX12_next 283 = .ok (.getfield 116, 3) := by decide +kernel
theorem dX12_next_286 : decode cX12_next 286 = .ok (.iconst 1, 1) := by decide +kernel
theorem dX12_next_287 : decode cX12_next 287 = .ok (.iadd, 1) := by decide +kernel
theorem dX12_next_288 : decode cX12_next 288 = .ok (.putfield 116, 3) := by decide +kernel
theorem dX12_next_291 : decode cX12_next 291 = .ok (.goto (-60), 3) := by decide +kernel
theorem dX12_next_294 : decode cX12_next 294 = .ok (.aload_n 0, 1) := by decide +kernel
theorem dX12_next_295 : decode cX12_next 295 = .ok (.aload_n 0, 1) := by decide +kernel
theorem dX12_next_296 : decode cX12_next 296 = .ok (.getfield 116, 3) := by decide +kernel
theorem dX12_next_299 : decode cX12_next 299 = .ok (.aload_n 0, 1) := by decide +kernel
theorem dX12_next_300 : decode cX12_next 300 = .ok (.getfield 110, 3) := by decide +kernel
theorem dX12_next_303 : decode cX12_next 303 = .ok (.if_icmp .ge 36, 3) := by decide +kernel
theorem dX12_next_306 : decode cX12_next 306 = .ok (.aload_n 0, 1) := by decide +kernel
theorem dX12_next_307 : decode cX12_next 307 = .ok (.aload_n 0, 1) := by decide +kernel
theorem dX12_next_308 : decode cX12_next 308 = .ok (.getfield 116, 3) := by decide +kernel
theorem dX12_next_311 : decode cX12_next 311 = .ok (.invokevirtual 122, 3) := by decide +kernel
theorem dX12_next_314 : decode cX12_next 314 = .ok (.bipush 34, 2) := by decide +kernel
theorem dX12_next_316 : decode cX12_next 316 = .ok (.if_icmp .ne 23, 3) := by decide +kernel
theorem dX12_next_319 : decode cX12_next 319 = .ok (.aload_n 0, 1) := by decide +kernel
theorem dX12_next_320 : decode cX12_next 320 = .ok (.getfield 116, 3) := by decide +kernel
theorem dX12_next_323 : decode cX12_next 323 = .ok (.aload_n 0, 1) := by decide +kernel
theorem dX12_next_324 : decode cX12_next 324 = .ok (.getfield 119, 3) := by decide +kernel
theorem dX12_next_327 : decode cX12_next 327 = .ok (.isub, 1) := by decide +kernel
theorem dX12_next_328 : decode cX12_next 328 = .ok (.iconst 1, 1) := by decide +kernel
theorem dX12_next_329 : decode cX12_next 329 = .ok (.isub, 1) := by decide +kernel
theorem dX12_next_330 : decode cX12_next 330 = .ok (.bipush 16, 2) := by decide +kernel
theorem dX12_next_332 : decode cX12_next 332 = .ok (.if_icmp .gt 7, 3) := by decide +kernel
theorem dX12_next_335 : decode cX12_next 335 = .ok (.iconst 3, 1) := by decide +kernel
theorem dX12_next_336 : decode cX12_next 336 = .ok (.goto 4, 3) := by decide +kernel
theorem dX12_next_339 : decode cX12_next 339 = .ok (.iconst 1, 1) := by decide +kernel
theorem dX12_next_340 : decode cX12_next 340 = .ok (.putfield 126, 3) := by decide +kernel
theorem dX12_next_343 : decode cX12_next 343 = .ok (.aload_n 0, 1) := by decide +kernel
theorem dX12_next_344 : decode cX12_next 344 = .ok (.dup, 1) := by decide +kernel
theorem dX12_next_345 : decode cX12_next 345 = .ok (.getfield 116, 3) := by decide +kernel
theorem dX12_next_348 : decode cX12_next 348 = .ok (.iconst 1, 1) := by decide +kernel
theorem dX12_next_349 : decode cX12_next 349 = .ok (.iadd, 1) := by decide +kernel
theorem dX12_next_350 : decode cX12_next 350 = .ok (.putfield 116, 3) := by decide +kernel
theorem dX12_next_353 : decode cX12_next 353 = .ok (.goto 36, 3) := by decide +kernel
theorem dX12_next_356 : decode cX12_next 356 = .ok (.aload_n 0, 1) := by decide +kernel
theorem dX12_next_357 : decode cX12_next 357 = .ok (.iload_n 1, 1) := by decide +kernel
theorem dX12_next_358 : decode cX12_next 358 = .ok (.bipush 35, 2) := by decide +kernel
theorem dX12_next_360 : decode cX12_next 360 = .ok (.if_icmp .eq 21, 3) := by decide +kernel
theorem dX12_next_363 : decode cX12_next 363 = .ok (.iload_n 1, 1) := by decide +kernel
theorem dX12_next_364 : decode cX12_next 364 = .ok (.bipush 33, 2) := by decide +kernel
theorem dX12_next_366 : decode cX12_next 366 = .ok (.if_icmp .eq 15, 3) := by decide +kernel
theorem dX12_next_369 : decode cX12_next 369 = .ok (.iload_n 1, 1) := by decide +kernel
theorem dX12_next_370 : decode cX12_next 370 = .ok (.bipush 40, 2) := by decide +kernel
theorem dX12_next_372 : decode cX12_next 372 = .ok (.if_icmp .eq 9, 3) := by decide +kernel
theorem dX12_next_375 : decode cX12_next 375 = .ok (.iload_n 1, 1) := by decide +kernel
theorem dX12_next_376 : decode cX12_next 376 = .ok (.bipush 41, 2) := by decide +kernel
theorem dX12_next_378 : decode cX12_next 378 = .ok (.if_icmp .ne 7, 3) := by decide +kernel
theorem dX12_next_381 : decode cX12_next 381 = .ok (.iconst 4, 1) := by decide +kernel
theorem dX12_next_382 : decode cX12_next 382 = .ok (.goto 4, 3) := by decide +kernel
theorem dX12_next_385 : decode cX12_next 385 = .ok (.iconst 1, 1) := by decide +kernel
theorem dX12_next_386 : decode cX12_next 386 = .ok (.putfield 126, 3) := by decide +kernel
theorem dX12_next_389 : decode cX12_next 389 = .ok (.return_, 1) := by decide +kernel
theorem dX12_is_0 : decode cX12_is 0 = .ok (.aload_n 0, 1) := by decide +kernel
theorem dX12_is_1 : decode cX12_is 1 = .ok (.getfield 126, 3) := by decide +kernel
theorem dX12_is_4 : decode cX12_is 4 = .ok (.iconst 4, 1) := by decide +kernel
theorem dX12_is_5 : decode cX12_is 5 = .ok (.if_icmp .ne 19, 3) := by decide +kernel
theorem dX12_is_8 : decode cX12_is 8 = .ok (.aload_n 0, 1) := by decide +kernel
theorem dX12_is_9 : decode cX12_is 9 = .ok (.aload_n 0, 1) := by decide +kernel
theorem dX12_is_10 : decode cX12_is 10 = .ok (.getfield 119, 3) := by decide +kernel
theorem dX12_is_13 : decode cX12_is 13 = .ok (.invokevirtual 122, 3) := by decide +kernel
theorem dX12_is_16 : decode cX12_is 16 = .ok (.iload_n 1, 1) := by decide +kernel
theorem dX12_is_17 : decode cX12_is 17 = .ok (.if_icmp .ne 7, 3) := by decide +kernel
theorem dX12_is_20 : decode cX12_is 20 = .ok (.iconst 1, 1) := by decide +kernel
theorem dX12_is_21 : decode cX12_is 21 = .ok (.goto 4, 3) := by decide +kernel
theorem dX12_is_24 : decode cX12_is 24 = .ok (.iconst 0, 1) := by decide +kernel
theorem dX12_is_25 : decode cX12_is 25 = .ok (.ireturn, 1) := by decide +kernel
theorem dX12_wrong_0 : decode cX12_wrong 0 = .ok (.aload_n 0, 1) := by decide +kernel
theorem dX12_wrong_1 : decode cX12_wrong 1 = .ok (.aload_n 0, 1) := by decide +kernel
theorem dX12_wrong_2 : decode cX12_wrong 2 = .ok (.getfield 126, 3) := by decide +kernel
theorem dX12_wrong_5 : decode cX12_wrong 5 = .ok (.iconst 1, 1) := by decide +kernel
theorem dX12_wrong_6 : decode cX12_wrong 6 = .ok (.if_icmp .ne 7, 3) := by decide +kernel
theorem dX12_wrong_9 : decode cX12_wrong 9 = .ok (.iconst 1, 1) := by decide +kernel
theorem dX12_wrong_10 : decode cX12_wrong 10 = .ok (.goto 4, 3) := by decide +kernel
theorem dX12_wrong_13 : decode cX12_wrong 13 = .ok (.iconst 2, 1) := by decide +kernel
theorem dX12_wrong_14 : decode cX12_wrong 14 = .ok (.aload_n 0, 1) := by decide +kernel
theorem dX12_wrong_15 : decode cX12_wrong 15 = .ok (.getfield 119, 3) := by decide +kernel
theorem dX12_wrong_18 : decode cX12_wrong 18 = .ok (.invokevirtual 137, 3) := by decide +kernel
theorem dX12_wrong_21 : decode cX12_wrong 21 = .ok (.return_, 1) := by decide +kernel
theorem dX12_spot_0 : decode cX12_spot 0 = .ok (.bipush 60, 2) := by decide +kernel
theorem dX12_spot_2 : decode cX12_spot 2 = .ok (.iload_n 0, 1) := by decide +kernel
theorem dX12_spot_3 : decode cX12_spot 3 = .ok (.imul, 1) := by decide +kernel
theorem dX12_spot_4 : decode cX12_spot 4 = .ok (.iload_n 1, 1) := by decide +kernel
theorem dX12_spot_5 : decode cX12_spot 5 = .ok (.iadd, 1) := by decide +kernel
theorem dX12_spot_6 : decode cX12_spot 6 = .ok (.ireturn, 1) := by decide +kernel
theorem dX12_readPart_0 : decode cX12_readPart 0 = .ok (.aload_n 0, 1) := by decide +kernel
theorem dX12_readPart_1 : decode cX12_readPart 1 = .ok (.getfield 126, 3) := by decide +kernel
theorem dX12_readPart_4 : decode cX12_readPart 4 = .ok (.iconst 2, 1) := by decide +kernel
theorem dX12_readPart_5 : decode cX12_readPart 5 = .ok (.if_icmp .ne 24, 3) := by decide +kernel
theorem dX12_readPart_8 : decode cX12_readPart 8 = .ok (.aload_n 0, 1) := by decide +kernel
theorem dX12_readPart_9 : decode cX12_readPart 9 = .ok (.getfield 20, 3) := by decide +kernel
theorem dX12_readPart_12 : decode cX12_readPart 12 = .ok (.bipush 30, 2) := by decide +kernel
theorem dX12_readPart_14 : decode cX12_readPart 14 = .ok (.iaload, 1) := by decide +kernel
theorem dX12_readPart_15 : decode cX12_readPart 15 = .ok (.bipush 60, 2) := by decide +kernel
theorem dX12_readPart_17 : decode cX12_readPart 17 = .ok (.if_icmp .eq 12, 3) := by decide +kernel
theorem dX12_readPart_20 : decode cX12_readPart 20 = .ok (.aload_n 0, 1) := by decide +kernel
theorem dX12_readPart_21 : decode cX12_readPart 21 = .ok (.getfield 141, 3) := by decide +kernel
theorem dX12_readPart_24 : decode cX12_readPart 24 = .ok (.bipush 12, 2) := by decide +kernel
theorem dX12_readPart_26 : decode cX12_readPart 26 = .ok (.if_icmp .ne 7, 3) := by decide +kernel
theorem dX12_readPart_29 : decode cX12_readPart 29 = .ok (.aload_n 0, 1) := by decide +kernel
theorem dX12_readPart_30 : decode cX12_readPart 30 = .ok (.invokevirtual 144, 3) := by decide +kernel
theorem dX12_readPart_33 : decode cX12_readPart 33 = .ok (.aload_n 0, 1) := by decide +kernel
theorem dX12_readPart_34 : decode cX12_readPart 34 = .ok (.invokevirtual 147, 3) := by decide +kernel
theorem dX12_readPart_37 : decode cX12_readPart 37 = .ok (.ifCond .ne 4, 3) := by decide +kernel
theorem dX12_readPart_40 : decode cX12_readPart 40 = .ok (.return_, 1) := by decide +kernel
theorem dX12_readPart_41 : decode cX12_readPart 41 = .ok (.aload_n 0, 1) := by decide +kernel
theorem dX12_readPart_42 : decode cX12_readPart 42 = .ok (.getfield 20, 3) := by decide +kernel
theorem dX12_readPart_45 : decode cX12_readPart 45 = .ok (.bipush 30, 2) := by decide +kernel
theorem dX12_readPart_47 : decode cX12_readPart 47 = .ok (.iaload, 1) := by decide +kernel
theorem dX12_readPart_48 : decode cX12_readPart 48 = .ok (.istore_n 1, 1) := by decide +kernel
theorem dX12_readPart_49 : decode cX12_readPart 49 = .ok (.bipush 30, 2) := by decide +kernel
theorem dX12_readPart_51 : decode cX12_readPart 51 = .ok (.iload_n 1, 1) := by decide +kernel
theorem dX12_readPart_52 : decode cX12_readPart 52 = .ok (.invokestatic 151, 3) := by decide +kernel
theorem dX12_readPart_55 : decode cX12_readPart 55 = .ok (.istore_n 2, 1) := by decide +kernel
theorem dX12_readPart_56 : decode cX12_readPart 56 = .ok (.aload_n 0, 1) := by decide +kernel
theorem dX12_readPart_57 : decode cX12_readPart 57 = .ok (.getfield 42, 3) := by decide +kernel
theorem dX12_readPart_60 : decode cX12_readPart 60 = .ok (.iload_n 2, 1) := by decide +kernel
theorem dX12_readPart_61 : decode cX12_readPart 61 = .ok (.aload_n 0, 1) := by decide +kernel
theorem dX12_readPart_62 : decode cX12_readPart 62 = .ok (.getfield 133, 3) := by decide +kernel
theorem dX12_readPart_65 : decode cX12_readPart 65 = .ok (.lastore, 1) := by decide +kernel
theorem dX12_readPart_66 : decode cX12_readPart 66 = .ok (.aload_n 0, 1) := by decide +kernel
theorem dX12_readPart_67 : decode cX12_readPart 67 = .ok (.getfield 46, 3) := by decide +kernel
theorem dX12_readPart_70 : decode cX12_readPart 70 = .ok (.iload_n 2, 1) := by decide +kernel
theorem dX12_readPart_71 : decode cX12_readPart 71 = .ok (.lconst 0, 1) := by decide +kernel
theorem dX12_readPart_72 : decode cX12_readPart 72 = .ok (.lastore, 1) := by decide +kernel
theorem dX12_readPart_73 : decode cX12_readPart 73 = .ok (.aload_n 0, 1) := by decide +kernel
theorem dX12_readPart_74 : decode cX12_readPart 74 = .ok (.getfield 36, 3) := by decide +kernel
theorem dX12_readPart_77 : decode cX12_readPart 77 = .ok (.iload_n 2, 1) := by decide +kernel
theorem dX12_readPart_78 : decode cX12_readPart 78 = .ok (.iconst (-1), 1) := by decide +kernel
theorem dX12_readPart_79 : decode cX12_readPart 79 = .ok (.iastore, 1) := by decide +kernel
theorem dX12_readPart_80 : decode cX12_readPart 80 = .ok (.aload_n 0, 1) := by decide +kernel
theorem dX12_readPart_81 : decode cX12_readPart 81 = .ok (.getfield 49, 3) := by decide +kernel
theorem dX12_readPart_84 : decode cX12_readPart 84 = .ok (.iload_n 2, 1) := by decide +kernel
theorem dX12_readPart_85 : decode cX12_readPart 85 = .ok (.iconst 0, 1) := by decide +kernel
theorem dX12_readPart_86 : decode cX12_readPart 86 = .ok (.bastore, 1) := by decide +kernel
theorem dX12_readPart_87 : decode cX12_readPart 87 = .ok (.aload_n 0, 1) := by decide +kernel
theorem dX12_readPart_88 : decode cX12_readPart 88 = .ok (.getfield 39, 3) := by decide +kernel
theorem dX12_readPart_91 : decode cX12_readPart 91 = .ok (.iload_n 2, 1) := by decide +kernel
theorem dX12_readPart_92 : decode cX12_readPart 92 = .ok (.iconst 0, 1) := by decide +kernel
theorem dX12_readPart_93 : decode cX12_readPart 93 = .ok (.iastore, 1) := by decide +kernel
theorem dX12_readPart_94 : decode cX12_readPart 94 = .ok (.aload_n 0, 1) := by decide +kernel
theorem dX12_readPart_95 : decode cX12_readPart 95 = .ok (.getfield 24, 3) := by decide +kernel
theorem dX12_readPart_98 : decode cX12_readPart 98 = .ok (.iload_n 2, 1) := by decide +kernel
theorem dX12_readPart_99 : decode cX12_readPart 99 = .ok (.aload_n 0, 1) := by decide +kernel
theorem dX12_readPart_100 : decode cX12_readPart 100 = .ok (.getfield 141, 3) := by decide +kernel
theorem dX12_readPart_103 : decode cX12_readPart 103 = .ok (.ifCond .ne 7, 3) := by decide +kernel
theorem dX12_readPart_106 : decode cX12_readPart 106 = .ok (.iconst (-1), 1) := by decide +kernel
theorem dX12_readPart_107 : decode cX12_readPart 107 = .ok (.goto 14, 3) := by decide +kernel
theorem dX12_readPart_110 : decode cX12_readPart 110 = .ok (.aload_n 0, 1) := by decide +kernel
theorem dX12_readPart_111 : decode cX12_readPart 111 = .ok (.getfield 56, 3) := by decide +kernel
theorem dX12_readPart_114 : decode cX12_readPart 114 = .ok (.aload_n 0, 1) := by decide +kernel
theorem dX12_readPart_115 : decode cX12_readPart 115 = .ok (.getfield 141, 3) := by decide +kernel
theorem dX12_readPart_118 : decode cX12_readPart 118 = .ok (.iconst 1, 1) := by decide +kernel
theorem dX12_readPart_119 : decode cX12_readPart 119 = .ok (.isub, 1) := by decide +kernel
theorem dX12_readPart_120 : decode cX12_readPart 120 = .ok (.iaload, 1) := by decide +kernel
theorem dX12_readPart_121 : decode cX12_readPart 121 = .ok (.iastore, 1) := by decide +kernel
theorem dX12_readPart_122 : decode cX12_readPart 122 = .ok (.aload_n 0, 1) := by decide +kernel
theorem dX12_readPart_123 : decode cX12_readPart 123 = .ok (.getfield 33, 3) := by decide +kernel
theorem dX12_readPart_126 : decode cX12_readPart 126 = .ok (.iload_n 2, 1) := by decide +kernel
theorem dX12_readPart_127 : decode cX12_readPart 127 = .ok (.aload_n 0, 1) := by decide +kernel
theorem dX12_readPart_128 : decode cX12_readPart 128 = .ok (.getfield 141, 3) := by decide +kernel
theorem dX12_readPart_131 : decode cX12_readPart 131 = .ok (.iastore, 1) := by decide +kernel
theorem dX12_readPart_132 : decode cX12_readPart 132 = .ok (.aload_n 0, 1) := by decide +kernel
theorem dX12_readPart_133 : decode cX12_readPart 133 = .ok (.getfield 20, 3) := by decide +kernel
theorem dX12_readPart_136 : decode cX12_readPart 136 = .ok (.bipush 30, 2) := by decide +kernel
theorem dX12_readPart_138 : decode cX12_readPart 138 = .ok (.dup2, 1) := by decide +kernel
theorem dX12_readPart_139 : decode cX12_readPart 139 = .ok (.iaload, 1) := by decide +kernel
theorem dX12_readPart_140 : decode cX12_readPart 140 = .ok (.iconst 1, 1) := by decide +kernel
theorem dX12_readPart_141 : decode cX12_readPart 141 = .ok (.iadd, 1) := by decide +kernel
theorem dX12_readPart_142 : decode cX12_readPart 142 = .ok (.iastore, 1) := by decide +kernel
theorem dX12_readPart_143 : decode cX12_readPart 143 = .ok (.aload_n 0, 1) := by decide +kernel
theorem dX12_readPart_144 : decode cX12_readPart 144 = .ok (.invokevirtual 155, 3) := by decide +kernel
theorem dX12_readPart_147 : decode cX12_readPart 147 = .ok (.aload_n 0, 1) := by decide +kernel
theorem dX12_readPart_148 : decode cX12_readPart 148 = .ok (.bipush 35, 2) := by decide +kernel
theorem dX12_readPart_150 : decode cX12_readPart 150 = .ok (.invokevirtual 158, 3) := by decide +kernel
theorem dX12_readPart_153 : decode cX12_readPart 153 = .ok (.ifCond .eq 40, 3) := by decide +kernel
theorem dX12_readPart_156 : decode cX12_readPart 156 = .ok (.aload_n 0, 1) := by decide +kernel
theorem dX12_readPart_157 : decode cX12_readPart 157 = .ok (.invokevirtual 155, 3) := by decide +kernel
theorem dX12_readPart_160 : decode cX12_readPart 160 = .ok (.aload_n 0, 1) := by decide +kernel
theorem dX12_readPart_161 : decode cX12_readPart 161 = .ok (.getfield 126, 3) := by decide +kernel
theorem dX12_readPart_164 : decode cX12_readPart 164 = .ok (.iconst 2, 1) := by decide +kernel
theorem dX12_readPart_165 : decode cX12_readPart 165 = .ok (.if_icmp .eq 7, 3) := by decide +kernel
theorem dX12_readPart_168 : decode cX12_readPart 168 = .ok (.aload_n 0, 1) := by decide +kernel
theorem dX12_readPart_169 : decode cX12_readPart 169 = .ok (.invokevirtual 144, 3) := by decide +kernel
theorem dX12_readPart_172 : decode cX12_readPart 172 = .ok (.aload_n 0, 1) := by decide +kernel
theorem dX12_readPart_173 : decode cX12_readPart 173 = .ok (.getfield 46, 3) := by decide +kernel
theorem dX12_readPart_176 : decode cX12_readPart 176 = .ok (.iload_n 2, 1) := by decide +kernel
theorem dX12_readPart_177 : decode cX12_readPart 177 = .ok (.aload_n 0, 1) := by decide +kernel
theorem dX12_readPart_178 : decode cX12_readPart 178 = .ok (.getfield 133, 3) := by decide +kernel
theorem dX12_readPart_181 : decode cX12_readPart 181 = .ok (.lastore, 1) := by decide +kernel
theorem dX12_readPart_182 : decode cX12_readPart 182 = .ok (.aload_n 0, 1) := by decide +kernel
theorem dX12_readPart_183 : decode cX12_readPart 183 = .ok (.invokevirtual 147, 3) := by decide +kernel
theorem dX12_readPart_186 : decode cX12_readPart 186 = .ok (.ifCond .eq 7, 3) := by decide +kernel
theorem dX12_readPart_189 : decode cX12_readPart 189 = .ok (.aload_n 0, 1) := by decide +kernel
theorem dX12_readPart_190 : decode cX12_readPart 190 = .ok (.invokevirtual 155, 3) := by decide +kernel
theorem dX12_readPart_193 : decode cX12_readPart 193 = .ok (.aload_n 0, 1) := by decide +kernel
theorem dX12_readPart_194 : decode cX12_readPart 194 = .ok (.invokevirtual 147, 3) := by decide +kernel
theorem dX12_readPart_197 : decode cX12_readPart 197 = .ok (.ifCond .eq 74, 3) := by decide +kernel
theorem dX12_readPart_200 : decode cX12_readPart 200 = .ok (.aload_n 0, 1) := by decide +kernel
theorem dX12_readPart_201 : decode cX12_readPart 201 = .ok (.getfield 126, 3) := by decide +kernel
theorem dX12_readPart_204 : decode cX12_readPart 204 = .ok (.iconst 3, 1) := by decide +kernel
theorem dX12_readPart_205 : decode cX12_readPart 205 = .ok (.if_icmp .ne 66, 3) := by decide +kernel
theorem dX12_readPart_208 : decode cX12_readPart 208 = .ok (.aload_n 0, 1) := by decide +kernel
theorem dX12_readPart_209 : decode cX12_readPart 209 = .ok (.getfield 36, 3) := by decide +kernel
theorem dX12_readPart_212 : decode cX12_readPart 212 = .ok (.iload_n 2, 1) := by decide +kernel
theorem dX12_readPart_213 : decode cX12_readPart 213 = .ok (.aload_n 0, 1) := by decide +kernel
theorem dX12_readPart_214 : decode cX12_readPart 214 = .ok (.getfield 116, 3) := by decide +kernel
theorem dX12_readPart_217 : decode cX12_readPart 217 = .ok (.aload_n 0, 1) := by decide +kernel
theorem dX12_readPart_218 : decode cX12_readPart 218 = .ok (.getfield 119, 3) := by decide +kernel
theorem dX12_readPart_221 : decode cX12_readPart 221 = .ok (.isub, 1) := by decide +kernel
theorem dX12_readPart_222 : decode cX12_readPart 222 = .ok (.iconst 2, 1) := by decide +kernel
theorem dX12_readPart_223 : decode cX12_readPart 223 = .ok (.isub, 1) := by decide +kernel
theorem dX12_readPart_224 : decode cX12_readPart 224 = .ok (.iastore, 1) := by decide +kernel
theorem dX12_readPart_225 : decode cX12_readPart 225 = .ok (.iconst 0, 1) := by decide +kernel
theorem dX12_readPart_226 : decode cX12_readPart 226 = .ok (.istore_n 3, 1) := by decide +kernel
theorem dX12_readPart_227 : decode cX12_readPart 227 = .ok (.iload_n 3, 1) := by decide +kernel
theorem dX12_readPart_228 : decode cX12_readPart 228 = .ok (.aload_n 0, 1) := by decide +kernel
theorem dX12_readPart_229 : decode cX12_readPart 229 = .ok (.getfield 36, 3) := by decide +kernel
theorem dX12_readPart_232 : decode cX12_readPart 232 = .ok (.iload_n 2, 1) := by decide +kernel
theorem dX12_readPart_233 : decode cX12_readPart 233 = .ok (.iaload, 1) := by decide +kernel
theorem dX12_readPart_234 : decode cX12_readPart 234 = .ok (.if_icmp .ge 33, 3) := by decide +kernel
theorem dX12_readPart_237 : decode cX12_readPart 237 = .ok (.aload_n 0, 1) := by decide +kernel
theorem dX12_readPart_238 : decode cX12_readPart 238 = .ok (.getfield 53, 3) := by decide +kernel
theorem dX12_readPart_241 : decode cX12_readPart 241 = .ok (.bipush 16, 2) := by decide +kernel
theorem dX12_readPart_243 : decode cX12_readPart 243 = .ok (.iload_n 2, 1) := by decide +kernel
theorem dX12_readPart_244 : decode cX12_readPart 244 = .ok (.imul, 1) := by decide +kernel
theorem dX12_readPart_245 : decode cX12_readPart 245 = .ok (.iload_n 3, 1) := by decide +kernel
theorem dX12_readPart_246 : decode cX12_readPart 246 = .ok (.iadd, 1) := by decide +kernel
theorem dX12_readPart_247 : decode cX12_readPart 247 = .ok (.aload_n 0, 1) := by decide +kernel
theorem dX12_readPart_248 : decode cX12_readPart 248 = .ok (.getfield 13, 3) := by decide +kernel
theorem dX12_readPart_251 : decode cX12_readPart 251 = .ok (.aload_n 0, 1) := by decide +kernel
theorem dX12_readPart_252 : decode cX12_readPart 252 = .ok (.getfield 119, 3) := by decide +kernel
theorem dX12_readPart_255 : decode cX12_readPart 255 = .ok (.iconst 1, 1) := by decide +kernel
theorem dX12_readPart_256 : decode cX12_readPart 256 = .ok (.iadd, 1) := by decide +kernel
theorem dX12_readPart_257 : decode cX12_readPart 257 = .ok (.iload_n 3, 1) := by decide +kernel
theorem dX12_readPart_258 : decode cX12_readPart 258 = .ok (.iadd, 1) := by decide +kernel
theorem dX12_readPart_259 : decode cX12_readPart 259 = .ok (.baload, 1) := by decide +kernel
theorem dX12_readPart_260 : decode cX12_readPart 260 = .ok (.bastore, 1) := by decide +kernel
theorem dX12_readPart_261 : decode cX12_readPart 261 = .ok (.iinc 3 1, 3) := by decide +kernel
theorem dX12_readPart_264 : decode cX12_readPart 264 = .ok (.goto (-37), 3) := by decide +kernel
theorem dX12_readPart_267 : decode cX12_readPart 267 = .ok (.aload_n 0, 1) := by decide +kernel
theorem dX12_readPart_268 : decode cX12_readPart 268 = .ok (.invokevirtual 155, 3) := by decide +kernel
theorem dX12_readPart_271 : decode cX12_readPart 271 = .ok (.aload_n 0, 1) := by decide +kernel
theorem dX12_readPart_272 : decode cX12_readPart 272 = .ok (.invokevirtual 147, 3) := by decide +kernel
theorem dX12_readPart_275 : decode cX12_readPart 275 = .ok (.ifCond .eq 23, 3) := by decide +kernel
theorem dX12_readPart_278 : decode cX12_readPart 278 = .ok (.aload_n 0, 1) := by decide +kernel
theorem dX12_readPart_279 : decode cX12_readPart 279 = .ok (.bipush 33, 2) := by decide +kernel
theorem dX12_readPart_281 : decode cX12_readPart 281 = .ok (.invokevirtual 158, 3) := by decide +kernel
theorem dX12_readPart_284 : decode cX12_readPart 284 = .ok (.ifCond .eq 14, 3) := by decide +kernel
theorem dX12_readPart_287 : decode cX12_readPart 287 = .ok (.aload_n 0, 1) := by decide +kernel
theorem dX12_readPart_288 : decode cX12_readPart 288 = .ok (.getfield 49, 3) := by decide +kernel
theorem dX12_readPart_291 : decode cX12_readPart 291 = .ok (.iload_n 2, 1) := by decide +kernel
theorem dX12_readPart_292 : decode cX12_readPart 292 = .ok (.iconst 1, 1) := by decide +kernel
theorem dX12_readPart_293 : decode cX12_readPart 293 = .ok (.bastore, 1) := by decide +kernel
theorem dX12_readPart_294 : decode cX12_readPart 294 = .ok (.aload_n 0, 1) := by decide +kernel
theorem dX12_readPart_295 : decode cX12_readPart 295 = .ok (.invokevirtual 155, 3) := by decide +kernel
theorem dX12_readPart_298 : decode cX12_readPart 298 = .ok (.aload_n 0, 1) := by decide +kernel
theorem dX12_readPart_299 : decode cX12_readPart 299 = .ok (.getfield 56, 3) := by decide +kernel
theorem dX12_readPart_302 : decode cX12_readPart 302 = .ok (.aload_n 0, 1) := by decide +kernel
theorem dX12_readPart_303 : decode cX12_readPart 303 = .ok (.getfield 141, 3) := by decide +kernel
theorem dX12_readPart_306 : decode cX12_readPart 306 = .ok (.iload_n 1, 1) := by decide +kernel
theorem dX12_readPart_307 : decode cX12_readPart 307 = .ok (.iastore, 1) := by decide +kernel
theorem dX12_readPart_308 : decode cX12_readPart 308 = .ok (.aload_n 0, 1) := by decide +kernel
theorem dX12_readPart_309 : decode cX12_readPart 309 = .ok (.dup, 1) := by decide +kernel
theorem dX12_readPart_310 : decode cX12_readPart 310 = .ok (.getfield 141, 3) := by decide +kernel
theorem dX12_readPart_313 : decode cX12_readPart 313 = .ok (.iconst 1, 1) := by decide +kernel
theorem dX12_readPart_314 : decode cX12_readPart 314 = .ok (.iadd, 1) := by decide +kernel
theorem dX12_readPart_315 : decode cX12_readPart 315 = .ok (.putfield 141, 3) := by decide +kernel
theorem dX12_readPart_318 : decode cX12_readPart 318 = .ok (.return_, 1) := by decide +kernel
theorem dX12_readPage_0 : decode cX12_readPage 0 = .ok (.aload_n 0, 1) := by decide +kernel
theorem dX12_readPage_1 : decode cX12_readPage 1 = .ok (.getfield 20, 3) := by decide +kernel
theorem dX12_readPage_4 : decode cX12_readPage 4 = .ok (.bipush 30, 2) := by decide +kernel
theorem dX12_readPage_6 : decode cX12_readPage 6 = .ok (.iconst 0, 1) := by decide +kernel
theorem dX12_readPage_7 : decode cX12_readPage 7 = .ok (.iastore, 1) := by decide +kernel
theorem dX12_readPage_8 : decode cX12_readPage 8 = .ok (.aload_n 0, 1) := by decide +kernel
theorem dX12_readPage_9 : decode cX12_readPage 9 = .ok (.iconst 0, 1) := by decide +kernel
theorem dX12_readPage_10 : decode cX12_readPage 10 = .ok (.putfield 141, 3) := by decide +kernel
theorem dX12_readPage_13 : decode cX12_readPage 13 = .ok (.aload_n 0, 1) := by decide +kernel
theorem dX12_readPage_14 : decode cX12_readPage 14 = .ok (.iconst 0, 1) := by decide +kernel
theorem dX12_readPage_15 : decode cX12_readPage 15 = .ok (.putfield 116, 3) := by decide +kernel
theorem dX12_readPage_18 : decode cX12_readPage 18 = .ok (.aload_n 0, 1) := by decide +kernel
theorem dX12_readPage_19 : decode cX12_readPage 19 = .ok (.invokevirtual 155, 3) := by decide +kernel
theorem dX12_readPage_22 : decode cX12_readPage 22 = .ok (.aload_n 0, 1) := by decide +kernel
theorem dX12_readPage_23 : decode cX12_readPage 23 = .ok (.invokevirtual 161, 3) := by decide +kernel
theorem dX12_readPage_26 : decode cX12_readPage 26 = .ok (.aload_n 0, 1) := by decide +kernel
theorem dX12_readPage_27 : decode cX12_readPage 27 = .ok (.invokevirtual 147, 3) := by decide +kernel
theorem dX12_readPage_30 : decode cX12_readPage 30 = .ok (.ifCond .eq 107, 3) := by decide +kernel
theorem dX12_readPage_33 : decode cX12_readPage 33 = .ok (.aload_n 0, 1) := by decide +kernel
theorem dX12_readPage_34 : decode cX12_readPage 34 = .ok (.getfield 141, 3) := by decide +kernel
theorem dX12_readPage_37 : decode cX12_readPage 37 = .ok (.ifCond .le 100, 3) := by decide +kernel
theorem dX12_readPage_40 : decode cX12_readPage 40 = .ok (.aload_n 0, 1) := by decide +kernel
theorem dX12_readPage_41 : decode cX12_readPage 41 = .ok (.bipush 40, 2) := by decide +kernel
theorem dX12_readPage_43 : decode cX12_readPage 43 = .ok (.invokevirtual 158, 3) := by decide +kernel
theorem dX12_readPage_46 : decode cX12_readPage 46 = .ok (.ifCond .eq 14, 3) := by decide +kernel
theorem dX12_readPage_49 : decode cX12_readPage 49 = .ok (.aload_n 0, 1) := by decide +kernel
theorem dX12_readPage_50 : decode cX12_readPage 50 = .ok (.invokevirtual 155, 3) := by decide +kernel
theorem dX12_readPage_53 : decode cX12_readPage 53 = .ok (.aload_n 0, 1) := by decide +kernel
theorem dX12_readPage_54 : decode cX12_readPage 54 = .ok (.invokevirtual 161, 3) := by decide +kernel
theorem dX12_readPage_57 : decode cX12_readPage 57 = .ok (.goto (-31), 3) := by decide +kernel
theorem dX12_readPage_60 : decode cX12_readPage 60 = .ok (.aload_n 0, 1) := by decide +kernel
theorem dX12_readPage_61 : decode cX12_readPage 61 = .ok (.dup, 1) := by decide +kernel
theorem dX12_readPage_62 : decode cX12_readPage 62 = .ok (.getfield 141, 3) := by decide +kernel
theorem dX12_readPage_65 : decode cX12_readPage 65 = .ok (.iconst 1, 1) := by decide +kernel
theorem dX12_readPage_66 : decode cX12_readPage 66 = .ok (.isub, 1) := by decide +kernel
theorem dX12_readPage_67 : decode cX12_readPage 67 = .ok (.putfield 141, 3) := by decide +kernel
theorem dX12_readPage_70 : decode cX12_readPage 70 = .ok (.aload_n 0, 1) := by decide +kernel
theorem dX12_readPage_71 : decode cX12_readPage 71 = .ok (.getfield 141, 3) := by decide +kernel
theorem dX12_readPage_74 : decode cX12_readPage 74 = .ok (.ifCond .le 7, 3) := by decide +kernel
theorem dX12_readPage_77 : decode cX12_readPage 77 = .ok (.iconst 1, 1) := by decide +kernel
theorem dX12_readPage_78 : decode cX12_readPage 78 = .ok (.goto 4, 3) := by decide +kernel
theorem dX12_readPage_81 : decode cX12_readPage 81 = .ok (.iconst 0, 1) := by decide +kernel
theorem dX12_readPage_82 : decode cX12_readPage 82 = .ok (.istore_n 1, 1) := by decide +kernel
theorem dX12_readPage_83 : decode cX12_readPage 83 = .ok (.iload_n 1, 1) := by decide +kernel
theorem dX12_readPage_84 : decode cX12_readPage 84 = .ok (.ifCond .eq 42, 3) := by decide +kernel
theorem dX12_readPage_87 : decode cX12_readPage 87 = .ok (.aload_n 0, 1) := by decide +kernel
theorem dX12_readPage_88 : decode cX12_readPage 88 = .ok (.bipush 41, 2) := by decide +kernel
theorem dX12_readPage_90 : decode cX12_readPage 90 = .ok (.invokevirtual 158, 3) := by decide +kernel
theorem dX12_readPage_93 : decode cX12_readPage 93 = .ok (.ifCond .eq 33, 3) := by decide +kernel
theorem dX12_readPage_96 : decode cX12_readPage 96 = .ok (.aload_n 0, 1) := by decide +kernel
theorem dX12_readPage_97 : decode cX12_readPage 97 = .ok (.invokevirtual 155, 3) := by decide +kernel
theorem dX12_readPage_100 : decode cX12_readPage 100 = .ok (.aload_n 0, 1) := by decide +kernel
theorem dX12_readPage_101 : decode cX12_readPage 101 = .ok (.dup, 1) := by decide +kernel
theorem dX12_readPage_102 : decode cX12_readPage 102 = .ok (.getfield 141, 3) := by decide +kernel
theorem dX12_readPage_105 : decode cX12_readPage 105 = .ok (.iconst 1, 1) := by decide +kernel
theorem dX12_readPage_106 : decode cX12_readPage 106 = .ok (.isub, 1) := by decide +kernel
theorem dX12_readPage_107 : decode cX12_readPage 107 = .ok (.putfield 141, 3) := by decide +kernel
theorem dX12_readPage_110 : decode cX12_readPage 110 = .ok (.aload_n 0, 1) := by decide +kernel
theorem dX12_readPage_111 : decode cX12_readPage 111 = .ok (.getfield 141, 3) := by decide +kernel
theorem dX12_readPage_114 : decode cX12_readPage 114 = .ok (.ifCond .le 7, 3) := by decide +kernel
theorem dX12_readPage_117 : decode cX12_readPage 117 = .ok (.iconst 1, 1) := by decide +kernel
theorem dX12_readPage_118 : decode cX12_readPage 118 = .ok (.goto 4, 3) := by decide +kernel
theorem dX12_readPage_121 : decode cX12_readPage 121 = .ok (.iconst 0, 1) := by decide +kernel
theorem dX12_readPage_122 : decode cX12_readPage 122 = .ok (.istore_n 1, 1) := by decide +kernel
theorem dX12_readPage_123 : decode cX12_readPage 123 = .ok (.goto (-40), 3) := by decide +kernel
theorem dX12_readPage_126 : decode cX12_readPage 126 = .ok (.iload_n 1, 1) := by decide +kernel
theorem dX12_readPage_127 : decode cX12_readPage 127 = .ok (.ifCond .eq 7, 3) := by decide +kernel
theorem dX12_readPage_130 : decode cX12_readPage 130 = .ok (.aload_n 0, 1) := by decide +kernel
theorem dX12_readPage_131 : decode cX12_readPage 131 = .ok (.invokevirtual 161, 3) := by decide +kernel
theorem dX12_readPage_134 : decode cX12_readPage 134 = .ok (.goto (-108), 3) := by decide +kernel
theorem dX12_readPage_137 : decode cX12_readPage 137 = .ok (.aload_n 0, 1) := by decide +kernel
theorem dX12_readPage_138 : decode cX12_readPage 138 = .ok (.invokevirtual 147, 3) := by decide +kernel
theorem dX12_readPage_141 : decode cX12_readPage 141 = .ok (.ifCond .eq 14, 3) := by decide +kernel
theorem dX12_readPage_144 : decode cX12_readPage 144 = .ok (.aload_n 0, 1) := by decide +kernel
theorem dX12_readPage_145 : decode cX12_readPage 145 = .ok (.getfield 126, 3) := by decide +kernel
theorem dX12_readPage_148 : decode cX12_readPage 148 = .ok (.ifCond .eq 7, 3) := by decide +kernel
theorem dX12_readPage_151 : decode cX12_readPage 151 = .ok (.aload_n 0, 1) := by decide +kernel
theorem dX12_readPage_152 : decode cX12_readPage 152 = .ok (.invokevirtual 144, 3) := by decide +kernel
theorem dX12_readPage_155 : decode cX12_readPage 155 = .ok (.return_, 1) := by decide +kernel
theorem dX12_measure_0 : decode cX12_measure 0 = .ok (.aload_n 0, 1) := by decide +kernel
theorem dX12_measure_1 : decode cX12_measure 1 = .ok (.getfield 20, 3) := by decide +kernel
theorem dX12_measure_4 : decode cX12_measure 4 = .ok (.bipush 30, 2) := by decide +kernel
theorem dX12_measure_6 : decode cX12_measure 6 = .ok (.iaload, 1) := by decide +kernel
theorem dX12_measure_7 : decode cX12_measure 7 = .ok (.istore_n 1, 1) := by decide +kernel
theorem dX12_measure_8 : decode cX12_measure 8 = .ok (.iload_n 1, 1) := by decide +kernel
theorem dX12_measure_9 : decode cX12_measure 9 = .ok (.iconst 1, 1) := by decide +kernel
theorem dX12_measure_10 : decode cX12_measure 10 = .ok (.isub, 1) := by decide +kernel
theorem dX12_measure_11 : decode cX12_measure 11 = .ok (.istore_n 2, 1) := by decide +kernel
theorem dX12_measure_12 : decode cX12_measure 12 = .ok (.iload_n 2, 1) := by decide +kernel
theorem dX12_measure_13 : decode cX12_measure 13 = .ok (.ifCond .lt 145, 3) := by decide +kernel
theorem dX12_measure_16 : decode cX12_measure 16 = .ok (.bipush 30, 2) := by decide +kernel
theorem dX12_measure_18 : decode cX12_measure 18 = .ok (.iload_n 2, 1) := by decide +kernel
theorem dX12_measure_19 : decode cX12_measure 19 = .ok (.invokestatic 151, 3) := by decide +kernel
theorem dX12_measure_22 : decode cX12_measure 22 = .ok (.istore_n 3, 1) := by decide +kernel
theorem dX12_measure_23 : decode cX12_measure 23 = .ok (.aload_n 0, 1) := by decide +kernel
theorem dX12_measure_24 : decode cX12_measure 24 = .ok (.getfield 27, 3) := by decide +kernel
theorem dX12_measure_27 : decode cX12_measure 27 = .ok (.iload_n 3, 1) := by decide +kernel
theorem dX12_measure_28 : decode cX12_measure 28 = .ok (.iconst 1, 1) := by decide +kernel
theorem dX12_measure_29 : decode cX12_measure 29 = .ok (.iastore, 1) := by decide +kernel
theorem dX12_measure_30 : decode cX12_measure 30 = .ok (.iload_n 2, 1) := by decide +kernel
theorem dX12_measure_31 : decode cX12_measure 31 = .ok (.iconst 1, 1) := by decide +kernel
theorem dX12_measure_32 : decode cX12_measure 32 = .ok (.iadd, 1) := by decide +kernel
theorem dX12_measure_33 : decode cX12_measure 33 = .ok (.istore 4, 2) := by decide +kernel
theorem dX12_measure_35 : decode cX12_measure 35 = .ok (.iload 4, 2) := by decide +kernel
theorem dX12_measure_37 : decode cX12_measure 37 = .ok (.iload_n 1, 1) := by decide +kernel
theorem dX12_measure_38 : decode cX12_measure 38 = .ok (.if_icmp .ge 35, 3) := by decide +kernel
theorem dX12_measure_41 : decode cX12_measure 41 = .ok (.aload_n 0, 1) := by decide +kernel
theorem dX12_measure_42 : decode cX12_measure 42 = .ok (.getfield 27, 3) := by decide +kernel
theorem dX12_measure_45 : decode cX12_measure 45 = .ok (.iload_n 3, 1) := by decide +kernel
theorem dX12_measure_46 : decode cX12_measure 46 = .ok (.dup2, 1) := by decide +kernel
theorem dX12_measure_47 : decode cX12_measure 47 = .ok (.iaload, 1) := by decide +kernel
theorem dX12_measure_48 : decode cX12_measure 48 = .ok (.aload_n 0, 1) := by decide +kernel
theorem dX12_measure_49 : decode cX12_measure 49 = .ok (.bipush 30, 2) := by decide +kernel
theorem dX12_measure_51 : decode cX12_measure 51 = .ok (.iload 4, 2) := by decide +kernel
theorem dX12_measure_53 : decode cX12_measure 53 = .ok (.iload_n 2, 1) := by decide +kernel
theorem dX12_measure_54 : decode cX12_measure 54 = .ok (.invokevirtual 164, 3) := by decide +kernel
theorem dX12_measure_57 : decode cX12_measure 57 = .ok (.ifCond .eq 7, 3) := by decide +kernel
theorem dX12_measure_60 : decode cX12_measure 60 = .ok (.iconst 1, 1) := by decide +kernel
theorem dX12_measure_61 : decode cX12_measure 61 = .ok (.goto 4, 3) := by decide +kernel
theorem dX12_measure_64 : decode cX12_measure 64 = .ok (.iconst 0, 1) := by decide +kernel
theorem dX12_measure_65 : decode cX12_measure 65 = .ok (.iadd, 1) := by decide +kernel
theorem dX12_measure_66 : decode cX12_measure 66 = .ok (.iastore, 1) := by decide +kernel
theorem dX12_measure_67 : decode cX12_measure 67 = .ok (.iinc 4 1, 3) := by decide +kernel
theorem dX12_measure_70 : decode cX12_measure 70 = .ok (.goto (-35), 3) := by decide +kernel
theorem dX12_measure_73 : decode cX12_measure 73 = .ok (.aload_n 0, 1) := by decide +kernel
theorem dX12_measure_74 : decode cX12_measure 74 = .ok (.getfield 30, 3) := by decide +kernel
theorem dX12_measure_77 : decode cX12_measure 77 = .ok (.iload_n 3, 1) := by decide +kernel
theorem dX12_measure_78 : decode cX12_measure 78 = .ok (.iconst 0, 1) := by decide +kernel
theorem dX12_measure_79 : decode cX12_measure 79 = .ok (.iastore, 1) := by decide +kernel
theorem dX12_measure_80 : decode cX12_measure 80 = .ok (.iconst 0, 1) := by decide +kernel
theorem dX12_measure_81 : decode cX12_measure 81 = .ok (.istore 4, 2) := by decide +kernel
theorem dX12_measure_83 : decode cX12_measure 83 = .ok (.iload 4, 2) := by decide +kernel
theorem dX12_measure_85 : decode cX12_measure 85 = .ok (.iload_n 2, 1) := by decide +kernel
theorem dX12_measure_86 : decode cX12_measure 86 = .ok (.if_icmp .ge 66, 3) := by decide +kernel
theorem dX12_measure_89 : decode cX12_measure 89 = .ok (.aload_n 0, 1) := by decide +kernel
theorem dX12_measure_90 : decode cX12_measure 90 = .ok (.getfield 30, 3) := by decide +kernel
theorem dX12_measure_93 : decode cX12_measure 93 = .ok (.iload_n 3, 1) := by decide +kernel
theorem dX12_measure_94 : decode cX12_measure 94 = .ok (.dup2, 1) := by decide +kernel
theorem dX12_measure_95 : decode cX12_measure 95 = .ok (.iaload, 1) := by decide +kernel
theorem dX12_measure_96 : decode cX12_measure 96 = .ok (.aload_n 0, 1) := by decide +kernel
theorem dX12_measure_97 : decode cX12_measure 97 = .ok (.getfield 24, 3) := by decide +kernel
theorem dX12_measure_100 : decode cX12_measure 100 = .ok (.bipush 30, 2) := by decide +kernel
theorem dX12_measure_102 : decode cX12_measure 102 = .ok (.iload 4, 2) := by decide +kernel
theorem dX12_measure_104 : decode cX12_measure 104 = .ok (.invokestatic 151, 3) := by decide +kernel
theorem dX12_measure_107 : decode cX12_measure 107 = .ok (.iaload, 1) := by decide +kernel
theorem dX12_measure_108 : decode cX12_measure 108 = .ok (.aload_n 0, 1) := by decide +kernel
theorem dX12_measure_109 : decode cX12_measure 109 = .ok (.getfield 24, 3) := by decide +kernel
theorem dX12_measure_112 : decode cX12_measure 112 = .ok (.iload_n 3, 1) := by decide +kernel
theorem dX12_measure_113 : decode cX12_measure 113 = .ok (.iaload, 1) := by decide +kernel
theorem dX12_measure_114 : decode cX12_measure 114 = .ok (.if_icmp .ne 29, 3) := by decide +kernel
theorem dX12_measure_117 : decode cX12_measure 117 = .ok (.aload_n 0, 1) := by decide +kernel
theorem dX12_measure_118 : decode cX12_measure 118 = .ok (.getfield 42, 3) := by decide +kernel
theorem dX12_measure_121 : decode cX12_measure 121 = .ok (.bipush 30, 2) := by decide +kernel
theorem dX12_measure_123 : decode cX12_measure 123 = .ok (.iload 4, 2) := by decide +kernel
theorem dX12_measure_125 : decode cX12_measure 125 = .ok (.invokestatic 151, 3) := by decide +kernel
theorem dX12_measure_128 : decode cX12_measure 128 = .ok (.laload, 1) := by decide +kernel
theorem dX12_measure_129 : decode cX12_measure 129 = .ok (.aload_n 0, 1) := by decide +kernel
theorem dX12_measure_130 : decode cX12_measure 130 = .ok (.getfield 42, 3) := by decide +kernel
theorem dX12_measure_133 : decode cX12_measure 133 = .ok (.iload_n 3, 1) := by decide +kernel
theorem dX12_measure_134 : decode cX12_measure 134 = .ok (.laload, 1) := by decide +kernel
theorem dX12_measure_135 : decode cX12_measure 135 = .ok (.lcmp, 1) := by decide +kernel
theorem dX12_measure_136 : decode cX12_measure 136 = .ok (.ifCond .ne 7, 3) := by decide +kernel
theorem dX12_measure_139 : decode cX12_measure 139 = .ok (.iconst 1, 1) := by decide +kernel
theorem dX12_measure_140 : decode cX12_measure 140 = .ok (.goto 4, 3) := by decide +kernel
theorem dX12_measure_143 : decode cX12_measure 143 = .ok (.iconst 0, 1) := by decide +kernel
theorem dX12_measure_144 : decode cX12_measure 144 = .ok (.iadd, 1) := by decide +kernel
theorem dX12_measure_145 : decode cX12_measure 145 = .ok (.iastore, 1) := by decide +kernel
theorem dX12_measure_146 : decode cX12_measure 146 = .ok (.iinc 4 1, 3) := by decide +kernel
theorem dX12_measure_149 : decode cX12_measure 149 = .ok (.goto (-66), 3) := by decide +kernel
theorem dX12_measure_152 : decode cX12_measure 152 = .ok (.iinc 2 (-1), 3) := by decide +kernel
theorem dX12_measure_155 : decode cX12_measure 155 = .ok (.goto (-143), 3) := by decide +kernel
theorem dX12_measure_158 : decode cX12_measure 158 = .ok (.return_, 1) := by decide +kernel
theorem dX12_isUnder_0 : decode cX12_isUnder 0 = .ok (.aload_n 0, 1) := by decide +kernel
theorem dX12_isUnder_1 : decode cX12_isUnder 1 = .ok (.getfield 24, 3) := by decide +kernel
theorem dX12_isUnder_4 : decode cX12_isUnder 4 = .ok (.iload_n 1, 1) := by decide +kernel
theorem dX12_isUnder_5 : decode cX12_isUnder 5 = .ok (.iload_n 2, 1) := by decide +kernel
theorem dX12_isUnder_6 : decode cX12_isUnder 6 = .ok (.invokestatic 151, 3) := by decide +kernel
theorem dX12_isUnder_9 : decode cX12_isUnder 9 = .ok (.iaload, 1) := by decide +kernel
theorem dX12_isUnder_10 : decode cX12_isUnder 10 = .ok (.istore 4, 2) := by decide +kernel
theorem dX12_isUnder_12 : decode cX12_isUnder 12 = .ok (.iload 4, 2) := by decide +kernel
theorem dX12_isUnder_14 : decode cX12_isUnder 14 = .ok (.ifCond .lt 25, 3) := by decide +kernel
theorem dX12_isUnder_17 : decode cX12_isUnder 17 = .ok (.iload 4, 2) := by decide +kernel
theorem dX12_isUnder_19 : decode cX12_isUnder 19 = .ok (.iload_n 3, 1) := by decide +kernel
theorem dX12_isUnder_20 : decode cX12_isUnder 20 = .ok (.if_icmp .eq 19, 3) := by decide +kernel
theorem dX12_isUnder_23 : decode cX12_isUnder 23 = .ok (.aload_n 0, 1) := by decide +kernel
theorem dX12_isUnder_24 : decode cX12_isUnder 24 = .ok (.getfield 24, 3) := by decide +kernel
theorem dX12_isUnder_27 : decode cX12_isUnder 27 = .ok (.iload_n 1, 1) := by decide +kernel
theorem dX12_isUnder_28 : decode cX12_isUnder 28 = .ok (.iload 4, 2) := by decide +kernel
theorem dX12_isUnder_30 : decode cX12_isUnder 30 = .ok (.invokestatic 151, 3) := by decide +kernel
theorem dX12_isUnder_33 : decode cX12_isUnder 33 = .ok (.iaload, 1) := by decide +kernel
theorem dX12_isUnder_34 : decode cX12_isUnder 34 = .ok (.istore 4, 2) := by decide +kernel
theorem dX12_isUnder_36 : decode cX12_isUnder 36 = .ok (.goto (-24), 3) := by decide +kernel
theorem dX12_isUnder_39 : decode cX12_isUnder 39 = .ok (.iload 4, 2) := by decide +kernel
theorem dX12_isUnder_41 : decode cX12_isUnder 41 = .ok (.iload_n 3, 1) := by decide +kernel
theorem dX12_isUnder_42 : decode cX12_isUnder 42 = .ok (.if_icmp .ne 7, 3) := by decide +kernel
theorem dX12_isUnder_45 : decode cX12_isUnder 45 = .ok (.iconst 1, 1) := by decide +kernel
theorem dX12_isUnder_46 : decode cX12_isUnder 46 = .ok (.goto 4, 3) := by decide +kernel
theorem dX12_isUnder_49 : decode cX12_isUnder 49 = .ok (.iconst 0, 1) := by decide +kernel
theorem dX12_isUnder_50 : decode cX12_isUnder 50 = .ok (.ireturn, 1) := by decide +kernel
theorem dX12_copyPage_0 : decode cX12_copyPage 0 = .ok (.aload_n 0, 1) := by decide +kernel
theorem dX12_copyPage_1 : decode cX12_copyPage 1 = .ok (.getfield 20, 3) := by decide +kernel
theorem dX12_copyPage_4 : decode cX12_copyPage 4 = .ok (.iload_n 2, 1) := by decide +kernel
theorem dX12_copyPage_5 : decode cX12_copyPage 5 = .ok (.aload_n 0, 1) := by decide +kernel
theorem dX12_copyPage_6 : decode cX12_copyPage 6 = .ok (.getfield 20, 3) := by decide +kernel
theorem dX12_copyPage_9 : decode cX12_copyPage 9 = .ok (.iload_n 1, 1) := by decide +kernel
theorem dX12_copyPage_10 : decode cX12_copyPage 10 = .ok (.iaload, 1) := by decide +kernel
theorem dX12_copyPage_11 : decode cX12_copyPage 11 = .ok (.iastore, 1) := by decide +kernel
theorem dX12_copyPage_12 : decode cX12_copyPage 12 = .ok (.iconst 0, 1) := by decide +kernel
theorem dX12_copyPage_13 : decode cX12_copyPage 13 = .ok (.istore_n 3, 1) := by decide +kernel
theorem dX12_copyPage_14 : decode cX12_copyPage 14 = .ok (.iload_n 3, 1) := by decide +kernel
theorem dX12_copyPage_15 : decode cX12_copyPage 15 = .ok (.aload_n 0, 1) := by decide +kernel
theorem dX12_copyPage_16 : decode cX12_copyPage 16 = .ok (.getfield 20, 3) := by decide +kernel
theorem dX12_copyPage_19 : decode cX12_copyPage 19 = .ok (.iload_n 1, 1) := by decide +kernel
theorem dX12_copyPage_20 : decode cX12_copyPage 20 = .ok (.iaload, 1) := by decide +kernel
theorem dX12_copyPage_21 : decode cX12_copyPage 21 = .ok (.if_icmp .ge 196, 3) := by decide +kernel
theorem dX12_copyPage_24 : decode cX12_copyPage 24 = .ok (.iload_n 1, 1) := by decide +kernel
theorem dX12_copyPage_25 : decode cX12_copyPage 25 = .ok (.iload_n 3, 1) := by decide +kernel
theorem dX12_copyPage_26 : decode cX12_copyPage 26 = .ok (.invokestatic 151, 3) := by decide +kernel
theorem dX12_copyPage_29 : decode cX12_copyPage 29 = .ok (.istore 4, 2) := by decide +kernel
theorem dX12_copyPage_31 : decode cX12_copyPage 31 = .ok (.iload_n 2, 1) := by decide +kernel
theorem dX12_copyPage_32 : decode cX12_copyPage 32 = .ok (.iload_n 3, 1) := by decide +kernel
theorem dX12_copyPage_33 : decode cX12_copyPage 33 = .ok (.invokestatic 151, 3) := by decide +kernel
theorem dX12_copyPage_36 : decode cX12_copyPage 36 = .ok (.istore 5, 2) := by decide +kernel
theorem dX12_copyPage_38 : decode cX12_copyPage 38 = .ok (.aload_n 0, 1) := by decide +kernel
theorem dX12_copyPage_39 : decode cX12_copyPage 39 = .ok (.getfield 24, 3) := by decide +kernel
theorem dX12_copyPage_42 : decode cX12_copyPage 42 = .ok (.iload 5, 2) := by decide +kernel
theorem dX12_copyPage_44 : decode cX12_copyPage 44 = .ok (.aload_n 0, 1) := by decide +kernel
theorem dX12_copyPage_45 : decode cX12_copyPage 45 = .ok (.getfield 24, 3) := by decide +kernel
theorem dX12_copyPage_48 : decode cX12_copyPage 48 = .ok (.iload 4, 2) := by decide +kernel
theorem dX12_copyPage_50 : decode cX12_copyPage 50 = .ok (.iaload, 1) := by decide +kernel
theorem dX12_copyPage_51 : decode cX12_copyPage 51 = .ok (.iastore, 1) := by decide +kernel
theorem dX12_copyPage_52 : decode cX12_copyPage 52 = .ok (.aload_n 0, 1) := by decide +kernel
theorem dX12_copyPage_53 : decode cX12_copyPage 53 = .ok (.getfield 27, 3) := by decide +kernel
theorem dX12_copyPage_56 : decode cX12_copyPage 56 = .ok (.iload 5, 2) := by decide +kernel
theorem dX12_copyPage_58 : decode cX12_copyPage 58 = .ok (.aload_n 0, 1) := by decide +kernel
theorem dX12_copyPage_59 : decode cX12_copyPage 59 = .ok (.getfield 27, 3) := by decide +kernel
theorem dX12_copyPage_62 : decode cX12_copyPage 62 = .ok (.iload 4, 2) := by decide +kernel
theorem dX12_copyPage_64 : decode cX12_copyPage 64 = .ok (.iaload, 1) := by decide +kernel
theorem dX12_copyPage_65 : decode cX12_copyPage 65 = .ok (.iastore, 1) := by decide +kernel
theorem dX12_copyPage_66 : decode cX12_copyPage 66 = .ok (.aload_n 0, 1) := by decide +kernel
theorem dX12_copyPage_67 : decode cX12_copyPage 67 = .ok (.getfield 30, 3) := by decide +kernel
theorem dX12_copyPage_70 : decode cX12_copyPage 70 = .ok (.iload 5, 2) := by decide +kernel
theorem dX12_copyPage_72 : decode cX12_copyPage 72 = .ok (.aload_n 0, 1) := by decide +kernel
theorem dX12_copyPage_73 : decode cX12_copyPage 73 = .ok (.getfield 30, 3) := by decide +kernel
theorem dX12_copyPage_76 : decode cX12_copyPage 76 = .ok (.iload 4, 2) := by decide +kernel
theorem dX12_copyPage_78 : decode cX12_copyPage 78 = .ok (.iaload, 1) := by decide +kernel
theorem dX12_copyPage_79 : decode cX12_copyPage 79 = .ok (.iastore, 1) := by decide +kernel
theorem dX12_copyPage_80 : decode cX12_copyPage 80 = .ok (.aload_n 0, 1) := by decide +kernel
theorem dX12_copyPage_81 : decode cX12_copyPage 81 = .ok (.getfield 33, 3) := by decide +kernel
theorem dX12_copyPage_84 : decode cX12_copyPage 84 = .ok (.iload 5, 2) := by decide +kernel
theorem dX12_copyPage_86 : decode cX12_copyPage 86 = .ok (.aload_n 0, 1) := by decide +kernel
theorem dX12_copyPage_87 : decode cX12_copyPage 87 = .ok (.getfield 33, 3) := by decide +kernel
theorem dX12_copyPage_90 : decode cX12_copyPage 90 = .ok (.iload 4, 2) := by decide +kernel
theorem dX12_copyPage_92 : decode cX12_copyPage 92 = .ok (.iaload, 1) := by decide +kernel
theorem dX12_copyPage_93 : decode cX12_copyPage 93 = .ok (.iastore, 1) := by decide +kernel
theorem dX12_copyPage_94 : decode cX12_copyPage 94 = .ok (.aload_n 0, 1) := by decide +kernel
theorem dX12_copyPage_95 : decode cX12_copyPage 95 = .ok (.getfield 36, 3) := by decide +kernel
theorem dX12_copyPage_98 : decode cX12_copyPage 98 = .ok (.iload 5, 2) := by decide +kernel
theorem dX12_copyPage_100 : decode cX12_copyPage 100 = .ok (.aload_n 0, 1) := by decide +kernel
theorem dX12_copyPage_101 : decode cX12_copyPage 101 = .ok (.getfield 36, 3) := by decide +kernel
theorem dX12_copyPage_104 : decode cX12_copyPage 104 = .ok (.iload 4, 2) := by decide +kernel
theorem dX12_copyPage_106 : decode cX12_copyPage 106 = .ok (.iaload, 1) := by decide +kernel
theorem dX12_copyPage_107 : decode cX12_copyPage 107 = .ok (.iastore, 1) := by decide +kernel
theorem dX12_copyPage_108 : decode cX12_copyPage 108 = .ok (.aload_n 0, 1) := by decide +kernel
theorem dX12_copyPage_109 : decode cX12_copyPage 109 = .ok (.getfield 39, 3) := by decide +kernel
theorem dX12_copyPage_112 : decode cX12_copyPage 112 = .ok (.iload 5, 2) := by decide +kernel
theorem dX12_copyPage_114 : decode cX12_copyPage 114 = .ok (.aload_n 0, 1) := by decide +kernel
theorem dX12_copyPage_115 : decode cX12_copyPage 115 = .ok (.getfield 39, 3) := by decide +kernel
theorem dX12_copyPage_118 : decode cX12_copyPage 118 = .ok (.iload 4, 2) := by decide +kernel
theorem dX12_copyPage_120 : decode cX12_copyPage 120 = .ok (.iaload, 1) := by decide +kernel
theorem dX12_copyPage_121 : decode cX12_copyPage 121 = .ok (.iastore, 1) := by decide +kernel
theorem dX12_copyPage_122 : decode cX12_copyPage 122 = .ok (.aload_n 0, 1) := by decide +kernel
theorem dX12_copyPage_123 : decode cX12_copyPage 123 = .ok (.getfield 42, 3) := by decide +kernel
theorem dX12_copyPage_126 : decode cX12_copyPage 126 = .ok (.iload 5, 2) := by decide +kernel
theorem dX12_copyPage_128 : decode cX12_copyPage 128 = .ok (.aload_n 0, 1) := by decide +kernel
theorem dX12_copyPage_129 : decode cX12_copyPage 129 = .ok (.getfield 42, 3) := by decide +kernel
theorem dX12_copyPage_132 : decode cX12_copyPage 132 = .ok (.iload 4, 2) := by decide +kernel
theorem dX12_copyPage_134 : decode cX12_copyPage 134 = .ok (.laload, 1) := by decide +kernel
theorem dX12_copyPage_135 : decode cX12_copyPage 135 = .ok (.lastore, 1) := by decide +kernel
theorem dX12_copyPage_136 : decode cX12_copyPage 136 = .ok (.aload_n 0, 1) := by decide +kernel
theorem dX12_copyPage_137 : decode cX12_copyPage 137 = .ok (.getfield 46, 3) := by decide +kernel
theorem dX12_copyPage_140 : decode cX12_copyPage 140 = .ok (.iload 5, 2) := by decide +kernel
theorem dX12_copyPage_142 : decode cX12_copyPage 142 = .ok (.aload_n 0, 1) := by decide +kernel
theorem dX12_copyPage_143 : decode cX12_copyPage 143 = .ok (.getfield 46, 3) := by decide +kernel
theorem dX12_copyPage_146 : decode cX12_copyPage 146 = .ok (.iload 4, 2) := by decide +kernel
theorem dX12_copyPage_148 : decode cX12_copyPage 148 = .ok (.laload, 1) := by decide +kernel
theorem dX12_copyPage_149 : decode cX12_copyPage 149 = .ok (.lastore, 1) := by decide +kernel
theorem dX12_copyPage_150 : decode cX12_copyPage 150 = .ok (.aload_n 0, 1) := by decide +kernel
theorem dX12_copyPage_151 : decode cX12_copyPage 151 = .ok (.getfield 49, 3) := by decide +kernel
theorem dX12_copyPage_154 : decode cX12_copyPage 154 = .ok (.iload 5, 2) := by decide +kernel
theorem dX12_copyPage_156 : decode cX12_copyPage 156 = .ok (.aload_n 0, 1) := by decide +kernel
theorem dX12_copyPage_157 : decode cX12_copyPage 157 = .ok (.getfield 49, 3) := by decide +kernel
theorem dX12_copyPage_160 : decode cX12_copyPage 160 = .ok (.iload 4, 2) := by decide +kernel
theorem dX12_copyPage_162 : decode cX12_copyPage 162 = .ok (.baload, 1) := by decide +kernel
theorem dX12_copyPage_163 : decode cX12_copyPage 163 = .ok (.bastore, 1) := by decide +kernel
theorem dX12_copyPage_164 : decode cX12_copyPage 164 = .ok (.iconst 0, 1) := by decide +kernel
theorem dX12_copyPage_165 : decode cX12_copyPage 165 = .ok (.istore 6, 2) := by decide +kernel
theorem dX12_copyPage_167 : decode cX12_copyPage 167 = .ok (.iload 6, 2) := by decide +kernel
theorem dX12_copyPage_169 : decode cX12_copyPage 169 = .ok (.aload_n 0, 1) := by decide +kernel
theorem dX12_copyPage_170 : decode cX12_copyPage 170 = .ok (.getfield 36, 3) := by decide +kernel
theorem dX12_copyPage_173 : decode cX12_copyPage 173 = .ok (.iload 4, 2) := by decide +kernel
theorem dX12_copyPage_175 : decode cX12_copyPage 175 = .ok (.iaload, 1) := by decide +kernel
theorem dX12_copyPage_176 : decode cX12_copyPage 176 = .ok (.if_icmp .ge 35, 3) := by decide +kernel
theorem dX12_copyPage_179 : decode cX12_copyPage 179 = .ok (.aload_n 0, 1) := by decide +kernel
theorem dX12_copyPage_180 : decode cX12_copyPage 180 = .ok (.getfield 53, 3) := by decide +kernel
theorem dX12_copyPage_183 : decode cX12_copyPage 183 = .ok (.bipush 16, 2) := by decide +kernel
theorem dX12_copyPage_185 : decode cX12_copyPage 185 = .ok (.iload 5, 2) := by decide +kernel
theorem dX12_copyPage_187 : decode cX12_copyPage 187 = .ok (.imul, 1) := by decide +kernel
theorem dX12_copyPage_188 : decode cX12_copyPage 188 = .ok (.iload 6, 2) := by decide +kernel
theorem dX12_copyPage_190 : decode cX12_copyPage 190 = .ok (.iadd, 1) := by decide +kernel
theorem dX12_copyPage_191 : decode cX12_copyPage 191 = .ok (.aload_n 0, 1) := by decide +kernel
theorem dX12_copyPage_192 : decode cX12_copyPage 192 = .ok (.getfield 53, 3) := by decide +kernel
theorem dX12_copyPage_195 : decode cX12_copyPage 195 = .ok (.bipush 16, 2) := by decide +kernel
theorem dX12_copyPage_197 : decode cX12_copyPage 197 = .ok (.iload 4, 2) := by decide +kernel
theorem dX12_copyPage_199 : decode cX12_copyPage 199 = .ok (.imul, 1) := by decide +kernel
theorem dX12_copyPage_200 : decode cX12_copyPage 200 = .ok (.iload 6, 2) := by decide +kernel
theorem dX12_copyPage_202 : decode cX12_copyPage 202 = .ok (.iadd, 1) := by decide +kernel
theorem dX12_copyPage_203 : decode cX12_copyPage 203 = .ok (.baload, 1) := by decide +kernel
theorem dX12_copyPage_204 : decode cX12_copyPage 204 = .ok (.bastore, 1) := by decide +kernel
theorem dX12_copyPage_205 : decode cX12_copyPage 205 = .ok (.iinc 6 1, 3) := by decide +kernel
theorem dX12_copyPage_208 : decode cX12_copyPage 208 = .ok (.goto (-41), 3) := by decide +kernel
theorem dX12_copyPage_211 : decode cX12_copyPage 211 = .ok (.iinc 3 1, 3) := by decide +kernel
theorem dX12_copyPage_214 : decode cX12_copyPage 214 = .ok (.goto (-200), 3) := by decide +kernel
theorem dX12_copyPage_217 : decode cX12_copyPage 217 = .ok (.return_, 1) := by decide +kernel
theorem dX12_isShelf_0 : decode cX12_isShelf 0 = .ok (.iload_n 0, 1) := by decide +kernel
theorem dX12_isShelf_1 : decode cX12_isShelf 1 = .ok (.ifCond .lt 12, 3) := by decide +kernel
theorem dX12_isShelf_4 : decode cX12_isShelf 4 = .ok (.iload_n 0, 1) := by decide +kernel
theorem dX12_isShelf_5 : decode cX12_isShelf 5 = .ok (.iconst 4, 1) := by decide +kernel
theorem dX12_isShelf_6 : decode cX12_isShelf 6 = .ok (.if_icmp .ge 7, 3) := by decide +kernel
theorem dX12_isShelf_9 : decode cX12_isShelf 9 = .ok (.iconst 1, 1) := by decide +kernel
theorem dX12_isShelf_10 : decode cX12_isShelf 10 = .ok (.goto 4, 3) := by decide +kernel
theorem dX12_isShelf_13 : decode cX12_isShelf 13 = .ok (.iconst 0, 1) := by decide +kernel
theorem dX12_isShelf_14 : decode cX12_isShelf 14 = .ok (.ireturn, 1) := by decide +kernel
theorem dX12_page_0 : decode cX12_page 0 = .ok (.iload_n 1, 1) := by decide +kernel
theorem dX12_page_1 : decode cX12_page 1 = .ok (.invokestatic 168, 3) := by decide +kernel
theorem dX12_page_4 : decode cX12_page 4 = .ok (.ifCond .ne 6, 3) := by decide +kernel
theorem dX12_page_7 : decode cX12_page 7 = .ok (.bipush (-2), 2) := by decide +kernel
theorem dX12_page_9 : decode cX12_page 9 = .ok (.ireturn, 1) := by decide +kernel
theorem dX12_page_10 : decode cX12_page 10 = .ok (.aload_n 0, 1) := by decide +kernel
theorem dX12_page_11 : decode cX12_page 11 = .ok (.iconst 0, 1) := by decide +kernel
theorem dX12_page_12 : decode cX12_page 12 = .ok (.putfield 113, 3) := by decide +kernel
theorem dX12_page_15 : decode cX12_page 15 = .ok (.aload_n 0, 1) := by decide +kernel
theorem dX12_page_16 : decode cX12_page 16 = .ok (.iconst (-1), 1) := by decide +kernel
theorem dX12_page_17 : decode cX12_page 17 = .ok (.putfield 16, 3) := by decide +kernel
theorem dX12_page_20 : decode cX12_page 20 = .ok (.aload_n 0, 1) := by decide +kernel
theorem dX12_page_21 : decode cX12_page 21 = .ok (.aload_n 0, 1) := by decide +kernel
theorem dX12_page_22 : decode cX12_page 22 = .ok (.getfield 171, 3) := by decide +kernel
theorem dX12_page_25 : decode cX12_page 25 = .ok (.putfield 110, 3) := by decide +kernel
theorem dX12_page_28 : decode cX12_page 28 = .ok (.iconst 0, 1) := by decide +kernel
theorem dX12_page_29 : decode cX12_page 29 = .ok (.istore_n 2, 1) := by decide +kernel
theorem dX12_page_30 : decode cX12_page 30 = .ok (.iload_n 2, 1) := by decide +kernel
theorem dX12_page_31 : decode cX12_page 31 = .ok (.aload_n 0, 1) := by decide +kernel
theorem dX12_page_32 : decode cX12_page 32 = .ok (.getfield 110, 3) := by decide +kernel
theorem dX12_page_35 : decode cX12_page 35 = .ok (.if_icmp .ge 21, 3) := by decide +kernel
theorem dX12_page_38 : decode cX12_page 38 = .ok (.aload_n 0, 1) := by decide +kernel
theorem dX12_page_39 : decode cX12_page 39 = .ok (.getfield 13, 3) := by decide +kernel
theorem dX12_page_42 : decode cX12_page 42 = .ok (.iload_n 2, 1) := by decide +kernel
theorem dX12_page_43 : decode cX12_page 43 = .ok (.aload_n 0, 1) := by decide +kernel
theorem dX12_page_44 : decode cX12_page 44 = .ok (.getfield 7, 3) := by decide +kernel
theorem dX12_page_47 : decode cX12_page 47 = .ok (.iload_n 2, 1) := by decide +kernel
theorem dX12_page_48 : decode cX12_page 48 = .ok (.baload, 1) := by decide +kernel
theorem dX12_page_49 : decode cX12_page 49 = .ok (.bastore, 1) := by decide +kernel
theorem dX12_page_50 : decode cX12_page 50 = .ok (.iinc 2 1, 3) := by decide +kernel
theorem dX12_page_53 : decode cX12_page 53 = .ok (.goto (-23), 3) := by decide +kernel
theorem dX12_page_56 : decode cX12_page 56 = .ok (.aload_n 0, 1) := by decide +kernel
theorem dX12_page_57 : decode cX12_page 57 = .ok (.iconst 0, 1) := by decide +kernel
theorem dX12_page_58 : decode cX12_page 58 = .ok (.putfield 171, 3) := by decide +kernel
theorem dX12_page_61 : decode cX12_page 61 = .ok (.aload_n 0, 1) := by decide +kernel
theorem dX12_page_62 : decode cX12_page 62 = .ok (.invokevirtual 174, 3) := by decide +kernel
theorem dX12_page_65 : decode cX12_page 65 = .ok (.aload_n 0, 1) := by decide +kernel
theorem dX12_page_66 : decode cX12_page 66 = .ok (.invokevirtual 147, 3) := by decide +kernel
theorem dX12_page_69 : decode cX12_page 69 = .ok (.ifCond .ne 5, 3) := by decide +kernel
theorem dX12_page_72 : decode cX12_page 72 = .ok (.iconst (-1), 1) := by decide +kernel
theorem dX12_page_73 : decode cX12_page 73 = .ok (.ireturn, 1) := by decide +kernel
theorem dX12_page_74 : decode cX12_page 74 = .ok (.aload_n 0, 1) := by decide +kernel
theorem dX12_page_75 : decode cX12_page 75 = .ok (.invokevirtual 177, 3) := by decide +kernel
theorem dX12_page_78 : decode cX12_page 78 = .ok (.aload_n 0, 1) := by decide +kernel
theorem dX12_page_79 : decode cX12_page 79 = .ok (.bipush 30, 2) := by decide +kernel
theorem dX12_page_81 : decode cX12_page 81 = .ok (.iload_n 1, 1) := by decide +kernel
theorem dX12_page_82 : decode cX12_page 82 = .ok (.invokevirtual 180, 3) := by decide +kernel
theorem dX12_page_85 : decode cX12_page 85 = .ok (.aload_n 0, 1) := by decide +kernel
theorem dX12_page_86 : decode cX12_page 86 = .ok (.getfield 20, 3) := by decide +kernel
theorem dX12_page_89 : decode cX12_page 89 = .ok (.iload_n 1, 1) := by decide +kernel
theorem dX12_page_90 : decode cX12_page 90 = .ok (.iaload, 1) := by decide +kernel
theorem dX12_page_91 : decode cX12_page 91 = .ok (.ireturn, 1) := by decide +kernel
theorem dX12_fault_0 : decode cX12_fault 0 = .ok (.iload_n 1, 1) := by decide +kernel
theorem dX12_fault_1 : decode cX12_fault 1 = .ok (.ifCond .ne 10, 3) := by decide +kernel
theorem dX12_fault_4 : decode cX12_fault 4 = .ok (.aload_n 0, 1) := by decide +kernel
theorem dX12_fault_5 : decode cX12_fault 5 = .ok (.getfield 113, 3) := by decide +kernel
theorem dX12_fault_8 : decode cX12_fault 8 = .ok (.goto 16, 3) := by decide +kernel
theorem dX12_fault_11 : decode cX12_fault 11 = .ok (.iload_n 1, 1) := by decide +kernel
theorem dX12_fault_12 : decode cX12_fault 12 = .ok (.iconst 1, 1) := by decide +kernel
theorem dX12_fault_13 : decode cX12_fault 13 = .ok (.if_icmp .ne 10, 3) := by decide +kernel
theorem dX12_fault_16 : decode cX12_fault 16 = .ok (.aload_n 0, 1) := by decide +kernel
theorem dX12_fault_17 : decode cX12_fault 17 = .ok (.getfield 16, 3) := by decide +kernel
theorem dX12_fault_20 : decode cX12_fault 20 = .ok (.goto 4, 3) := by decide +kernel
theorem dX12_fault_23 : decode cX12_fault 23 = .ok (.iconst (-1), 1) := by decide +kernel
theorem dX12_fault_24 : decode cX12_fault 24 = .ok (.ireturn, 1) := by decide +kernel
theorem dX12_isPart_0 : decode cX12_isPart 0 = .ok (.iload_n 1, 1) := by decide +kernel
theorem dX12_isPart_1 : decode cX12_isPart 1 = .ok (.invokestatic 168, 3) := by decide +kernel
theorem dX12_isPart_4 : decode cX12_isPart 4 = .ok (.ifCond .eq 21, 3) := by decide +kernel
theorem dX12_isPart_7 : decode cX12_isPart 7 = .ok (.iload_n 2, 1) := by decide +kernel
theorem dX12_isPart_8 : decode cX12_isPart 8 = .ok (.ifCond .lt 17, 3) := by decide +kernel
theorem dX12_isPart_11 : decode cX12_isPart 11 = .ok (.iload_n 2, 1) := by decide +kernel
theorem dX12_isPart_12 : decode cX12_isPart 12 = .ok (.aload_n 0, 1) := by decide +kernel
theorem dX12_isPart_13 : decode cX12_isPart 13 = .ok (.getfield 20, 3) := by decide +kernel
theorem dX12_isPart_16 : decode cX12_isPart 16 = .ok (.iload_n 1, 1) := by decide +kernel
theorem dX12_isPart_17 : decode cX12_isPart 17 = .ok (.iaload, 1) := by decide +kernel
theorem dX12_isPart_18 : decode cX12_isPart 18 = .ok (.if_icmp .ge 7, 3) := by decide +kernel
theorem dX12_isPart_21 : decode cX12_isPart 21 = .ok (.iconst 1, 1) := by decide +kernel
theorem dX12_isPart_22 : decode cX12_isPart 22 = .ok (.goto 4, 3) := by decide +kernel
theorem dX12_isPart_25 : decode cX12_isPart 25 = .ok (.iconst 0, 1) := by decide +kernel
theorem dX12_isPart_26 : decode cX12_isPart 26 = .ok (.ireturn, 1) := by decide +kernel
theorem dX12_hasPage_0 : decode cX12_hasPage 0 = .ok (.iload_n 1, 1) := by decide +kernel
theorem dX12_hasPage_1 : decode cX12_hasPage 1 = .ok (.invokestatic 168, 3) := by decide +kernel
theorem dX12_hasPage_4 : decode cX12_hasPage 4 = .ok (.ifCond .eq 16, 3) := by decide +kernel
theorem dX12_hasPage_7 : decode cX12_hasPage 7 = .ok (.aload_n 0, 1) := by decide +kernel
theorem dX12_hasPage_8 : decode cX12_hasPage 8 = .ok (.getfield 20, 3) := by decide +kernel
theorem dX12_hasPage_11 : decode cX12_hasPage 11 = .ok (.iload_n 1, 1) := by decide +kernel
theorem dX12_hasPage_12 : decode cX12_hasPage 12 = .ok (.iaload, 1) := by decide +kernel
theorem dX12_hasPage_13 : decode cX12_hasPage 13 = .ok (.ifCond .le 7, 3) := by decide +kernel
theorem dX12_hasPage_16 : decode cX12_hasPage 16 = .ok (.iconst 1, 1) := by decide +kernel
theorem dX12_hasPage_17 : decode cX12_hasPage 17 = .ok (.goto 4, 3) := by decide +kernel
theorem dX12_hasPage_20 : decode cX12_hasPage 20 = .ok (.iconst 0, 1) := by decide +kernel
theorem dX12_hasPage_21 : decode cX12_hasPage 21 = .ok (.ireturn, 1) := by decide +kernel
theorem dX12_left_0 : decode cX12_left 0 = .ok (.iconst (-1), 1) := by decide +kernel
theorem dX12_left_1 : decode cX12_left 1 = .ok (.istore_n 3, 1) := by decide +kernel
theorem dX12_left_2 : decode cX12_left 2 = .ok (.iconst 0, 1) := by decide +kernel
theorem dX12_left_3 : decode cX12_left 3 = .ok (.istore 4, 2) := by decide +kernel
theorem dX12_left_5 : decode cX12_left 5 = .ok (.iload 4, 2) := by decide +kernel
theorem dX12_left_7 : decode cX12_left 7 = .ok (.iload_n 2, 1) := by decide +kernel
theorem dX12_left_8 : decode cX12_left 8 = .ok (.if_icmp .ge 45, 3) := by decide +kernel
theorem dX12_left_11 : decode cX12_left 11 = .ok (.iload_n 2, 1) := by decide +kernel
theorem dX12_left_12 : decode cX12_left 12 = .ok (.ifCond .le 35, 3) := by decide +kernel
theorem dX12_left_15 : decode cX12_left 15 = .ok (.iload 4, 2) := by decide +kernel
theorem dX12_left_17 : decode cX12_left 17 = .ok (.ifCond .le 30, 3) := by decide +kernel
theorem dX12_left_20 : decode cX12_left 20 = .ok (.aload_n 0, 1) := by decide +kernel
theorem dX12_left_21 : decode cX12_left 21 = .ok (.getfield 24, 3) := by decide +kernel
theorem dX12_left_24 : decode cX12_left 24 = .ok (.iload_n 1, 1) := by decide +kernel
theorem dX12_left_25 : decode cX12_left 25 = .ok (.iload 4, 2) := by decide +kernel
theorem dX12_left_27 : decode cX12_left 27 = .ok (.invokestatic 151, 3) := by decide +kernel
theorem dX12_left_30 : decode cX12_left 30 = .ok (.iaload, 1) := by decide +kernel
theorem dX12_left_31 : decode cX12_left 31 = .ok (.aload_n 0, 1) := by decide +kernel
theorem dX12_left_32 : decode cX12_left 32 = .ok (.getfield 24, 3) := by decide +kernel
theorem dX12_left_35 : decode cX12_left 35 = .ok (.iload_n 1, 1) := by decide +kernel
theorem dX12_left_36 : decode cX12_left 36 = .ok (.iload_n 2, 1) := by decide +kernel
theorem dX12_left_37 : decode cX12_left 37 = .ok (.invokestatic 151, 3) := by decide +kernel
theorem dX12_left_40 : decode cX12_left 40 = .ok (.iaload, 1) := by decide +kernel
theorem dX12_left_41 : decode cX12_left 41 = .ok (.if_icmp .ne 6, 3) := by decide +kernel
theorem dX12_left_44 : decode cX12_left 44 = .ok (.iload 4, 2) := by decide +kernel
theorem dX12_left_46 : decode cX12_left 46 = .ok (.istore_n 3, 1) := by decide +kernel
theorem dX12_left_47 : decode cX12_left 47 = .ok (.iinc 4 1, 3) := by decide +kernel
theorem dX12_left_50 : decode cX12_left 50 = .ok (.goto (-45), 3) := by decide +kernel
theorem dX12_left_53 : decode cX12_left 53 = .ok (.iload_n 3, 1) := by decide +kernel
theorem dX12_left_54 : decode cX12_left 54 = .ok (.ireturn, 1) := by decide +kernel
theorem dX12_right_0 : decode cX12_right 0 = .ok (.iload_n 2, 1) := by decide +kernel
theorem dX12_right_1 : decode cX12_right 1 = .ok (.aload_n 0, 1) := by decide +kernel
theorem dX12_right_2 : decode cX12_right 2 = .ok (.getfield 27, 3) := by decide +kernel
theorem dX12_right_5 : decode cX12_right 5 = .ok (.iload_n 1, 1) := by decide +kernel
theorem dX12_right_6 : decode cX12_right 6 = .ok (.iload_n 2, 1) := by decide +kernel
theorem dX12_right_7 : decode cX12_right 7 = .ok (.invokestatic 151, 3) := by decide +kernel
theorem dX12_right_10 : decode cX12_right 10 = .ok (.iaload, 1) := by decide +kernel
theorem dX12_right_11 : decode cX12_right 11 = .ok (.iadd, 1) := by decide +kernel
theorem dX12_right_12 : decode cX12_right 12 = .ok (.istore_n 3, 1) := by decide +kernel
theorem dX12_right_13 : decode cX12_right 13 = .ok (.iload_n 2, 1) := by decide +kernel
theorem dX12_right_14 : decode cX12_right 14 = .ok (.ifCond .le 40, 3) := by decide +kernel
theorem dX12_right_17 : decode cX12_right 17 = .ok (.iload_n 3, 1) := by decide +kernel
theorem dX12_right_18 : decode cX12_right 18 = .ok (.aload_n 0, 1) := by decide +kernel
theorem dX12_right_19 : decode cX12_right 19 = .ok (.getfield 20, 3) := by decide +kernel
theorem dX12_right_22 : decode cX12_right 22 = .ok (.iload_n 1, 1) := by decide +kernel
theorem dX12_right_23 : decode cX12_right 23 = .ok (.iaload, 1) := by decide +kernel
theorem dX12_right_24 : decode cX12_right 24 = .ok (.if_icmp .ge 30, 3) := by decide +kernel
theorem dX12_right_27 : decode cX12_right 27 = .ok (.aload_n 0, 1) := by decide +kernel
theorem dX12_right_28 : decode cX12_right 28 = .ok (.getfield 24, 3) := by decide +kernel
theorem dX12_right_31 : decode cX12_right 31 = .ok (.iload_n 1, 1) := by decide +kernel
theorem dX12_right_32 : decode cX12_right 32 = .ok (.iload_n 3, 1) := by decide +kernel
theorem dX12_right_33 : decode cX12_right 33 = .ok (.invokestatic 151, 3) := by decide +kernel
theorem dX12_right_36 : decode cX12_right 36 = .ok (.iaload, 1) := by decide +kernel
theorem dX12_right_37 : decode cX12_right 37 = .ok (.aload_n 0, 1) := by decide +kernel
theorem dX12_right_38 : decode cX12_right 38 = .ok (.getfield 24, 3) := by decide +kernel
theorem dX12_right_41 : decode cX12_right 41 = .ok (.iload_n 1, 1) := by decide +kernel
theorem dX12_right_42 : decode cX12_right 42 = .ok (.iload_n 2, 1) := by decide +kernel
theorem dX12_right_43 : decode cX12_right 43 = .ok (.invokestatic 151, 3) := by decide +kernel
theorem dX12_right_46 : decode cX12_right 46 = .ok (.iaload, 1) := by decide +kernel
theorem dX12_right_47 : decode cX12_right 47 = .ok (.if_icmp .ne 7, 3) := by decide +kernel
theorem dX12_right_50 : decode cX12_right 50 = .ok (.iload_n 3, 1) := by decide +kernel
theorem dX12_right_51 : decode cX12_right 51 = .ok (.goto 4, 3) := by decide +kernel
theorem dX12_right_54 : decode cX12_right 54 = .ok (.iconst (-1), 1) := by decide +kernel
theorem dX12_right_55 : decode cX12_right 55 = .ok (.ireturn, 1) := by decide +kernel
theorem dX12_label_0 : decode cX12_label 0 = .ok (.iload_n 2, 1) := by decide +kernel
theorem dX12_label_1 : decode cX12_label 1 = .ok (.iconst 1, 1) := by decide +kernel
theorem dX12_label_2 : decode cX12_label 2 = .ok (.isub, 1) := by decide +kernel
theorem dX12_label_3 : decode cX12_label 3 = .ok (.istore_n 3, 1) := by decide +kernel
theorem dX12_label_4 : decode cX12_label 4 = .ok (.iload_n 3, 1) := by decide +kernel
theorem dX12_label_5 : decode cX12_label 5 = .ok (.ifCond .lt 40, 3) := by decide +kernel
theorem dX12_label_8 : decode cX12_label 8 = .ok (.aload_n 0, 1) := by decide +kernel
theorem dX12_label_9 : decode cX12_label 9 = .ok (.getfield 42, 3) := by decide +kernel
theorem dX12_label_12 : decode cX12_label 12 = .ok (.iload_n 1, 1) := by decide +kernel
theorem dX12_label_13 : decode cX12_label 13 = .ok (.iload_n 3, 1) := by decide +kernel
theorem dX12_label_14 : decode cX12_label 14 = .ok (.invokestatic 151, 3) := by decide +kernel
theorem dX12_label_17 : decode cX12_label 17 = .ok (.laload, 1) := by decide +kernel
theorem dX12_label_18 : decode cX12_label 18 = .ok (.ldc2_w 183, 3) := by decide +kernel
theorem dX12_label_21 : decode cX12_label 21 = .ok (.lcmp, 1) := by decide +kernel
theorem dX12_label_22 : decode cX12_label 22 = .ok (.ifCond .ne 17, 3) := by decide +kernel
theorem dX12_label_25 : decode cX12_label 25 = .ok (.aload_n 0, 1) := by decide +kernel
theorem dX12_label_26 : decode cX12_label 26 = .ok (.getfield 36, 3) := by decide +kernel
theorem dX12_label_29 : decode cX12_label 29 = .ok (.iload_n 1, 1) := by decide +kernel
theorem dX12_label_30 : decode cX12_label 30 = .ok (.iload_n 3, 1) := by decide +kernel
theorem dX12_label_31 : decode cX12_label 31 = .ok (.invokestatic 151, 3) := by decide +kernel
theorem dX12_label_34 : decode cX12_label 34 = .ok (.iaload, 1) := by decide +kernel
theorem dX12_label_35 : decode cX12_label 35 = .ok (.iconst 1, 1) := by decide +kernel
theorem dX12_label_36 : decode cX12_label 36 = .ok (.if_icmp .ge 9, 3) := by decide +kernel
theorem dX12_label_39 : decode cX12_label 39 = .ok (.iinc 3 (-1), 3) := by decide +kernel
theorem dX12_label_42 : decode cX12_label 42 = .ok (.goto (-38), 3) := by decide +kernel
theorem dX12_label_45 : decode cX12_label 45 = .ok (.iload_n 3, 1) := by decide +kernel
theorem dX12_label_46 : decode cX12_label 46 = .ok (.ireturn, 1) := by decide +kernel
theorem dX12_part_0 : decode cX12_part 0 = .ok (.aload_n 0, 1) := by decide +kernel
theorem dX12_part_1 : decode cX12_part 1 = .ok (.iload_n 1, 1) := by decide +kernel
theorem dX12_part_2 : decode cX12_part 2 = .ok (.iload_n 2, 1) := by decide +kernel
theorem dX12_part_3 : decode cX12_part 3 = .ok (.invokevirtual 185, 3) := by decide +kernel
theorem dX12_part_6 : decode cX12_part 6 = .ok (.ifCond .ne 5, 3) := by decide +kernel
theorem dX12_part_9 : decode cX12_part 9 = .ok (.iconst (-1), 1) := by decide +kernel
theorem dX12_part_10 : decode cX12_part 10 = .ok (.ireturn, 1) := by decide +kernel
theorem dX12_part_11 : decode cX12_part 11 = .ok (.iload_n 1, 1) := by decide +kernel
theorem dX12_part_12 : decode cX12_part 12 = .ok (.iload_n 2, 1) := by decide +kernel
theorem dX12_part_13 : decode cX12_part 13 = .ok (.invokestatic 151, 3) := by decide +kernel
theorem dX12_part_16 : decode cX12_part 16 = .ok (.istore 4, 2) := by decide +kernel
theorem dX12_part_18 : decode cX12_part 18 = .ok (.iload_n 3, 1) := by decide +kernel
theorem dX12_part_19 : decode cX12_part 19 = .ok (.tableswitch 140 0 9 #[53, 61, 68, 75, 83, 90, 98, 114, 122, 130], 53) := by decide +kernel
theorem dX12_part_72 : decode cX12_part 72 = .ok (.aload_n 0, 1) := by decide +kernel
theorem dX12_part_73 : decode cX12_part 73 = .ok (.getfield 24, 3) := by decide +kernel
theorem dX12_part_76 : decode cX12_part 76 = .ok (.iload 4, 2) := by decide +kernel
theorem dX12_part_78 : decode cX12_part 78 = .ok (.iaload, 1) := by decide +kernel
theorem dX12_part_79 : decode cX12_part 79 = .ok (.ireturn, 1) := by decide +kernel
theorem dX12_part_80 : decode cX12_part 80 = .ok (.aload_n 0, 1) := by decide +kernel
theorem dX12_part_81 : decode cX12_part 81 = .ok (.iload_n 1, 1) := by decide +kernel
theorem dX12_part_82 : decode cX12_part 82 = .ok (.iload_n 2, 1) := by decide +kernel
theorem dX12_part_83 : decode cX12_part 83 = .ok (.invokevirtual 189, 3) := by decide +kernel
theorem dX12_part_86 : decode cX12_part 86 = .ok (.ireturn, 1) := by decide +kernel
theorem dX12_part_87 : decode cX12_part 87 = .ok (.aload_n 0, 1) := by decide +kernel
theorem dX12_part_88 : decode cX12_part 88 = .ok (.iload_n 1, 1) := by decide +kernel
theorem dX12_part_89 : decode cX12_part 89 = .ok (.iload_n 2, 1) := by decide +kernel
theorem dX12_part_90 : decode cX12_part 90 = .ok (.invokevirtual 192, 3) := by decide +kernel
theorem dX12_part_93 : decode cX12_part 93 = .ok (.ireturn, 1) := by decide +kernel
theorem dX12_part_94 : decode cX12_part 94 = .ok (.aload_n 0, 1) := by decide +kernel
theorem dX12_part_95 : decode cX12_part 95 = .ok (.getfield 30, 3) := by decide +kernel
theorem dX12_part_98 : decode cX12_part 98 = .ok (.iload 4, 2) := by decide +kernel
theorem dX12_part_100 : decode cX12_part 100 = .ok (.iaload, 1) := by decide +kernel
theorem dX12_part_101 : decode cX12_part 101 = .ok (.ireturn, 1) := by decide +kernel
theorem dX12_part_102 : decode cX12_part 102 = .ok (.aload_n 0, 1) := by decide +kernel
theorem dX12_part_103 : decode cX12_part 103 = .ok (.iload_n 1, 1) := by decide +kernel
theorem dX12_part_104 : decode cX12_part 104 = .ok (.iload_n 2, 1) := by decide +kernel
theorem dX12_part_105 : decode cX12_part 105 = .ok (.invokevirtual 195, 3) := by decide +kernel
theorem dX12_part_108 : decode cX12_part 108 = .ok (.ireturn, 1) := by decide +kernel
theorem dX12_part_109 : decode cX12_part 109 = .ok (.aload_n 0, 1) := by decide +kernel
theorem dX12_part_110 : decode cX12_part 110 = .ok (.getfield 33, 3) := by decide +kernel
theorem dX12_part_113 : decode cX12_part 113 = .ok (.iload 4, 2) := by decide +kernel
theorem dX12_part_115 : decode cX12_part 115 = .ok (.iaload, 1) := by decide +kernel
theorem dX12_part_116 : decode cX12_part 116 = .ok (.ireturn, 1) := by decide +kernel
theorem dX12_part_117 : decode cX12_part 117 = .ok (.aload_n 0, 1) := by decide +kernel
theorem dX12_part_118 : decode cX12_part 118 = .ok (.getfield 49, 3) := by decide +kernel
theorem dX12_part_121 : decode cX12_part 121 = .ok (.iload 4, 2) := by decide +kernel
theorem dX12_part_123 : decode cX12_part 123 = .ok (.baload, 1) := by decide +kernel
theorem dX12_part_124 : decode cX12_part 124 = .ok (.ifCond .eq 7, 3) := by decide +kernel
theorem dX12_part_127 : decode cX12_part 127 = .ok (.iconst 1, 1) := by decide +kernel
theorem dX12_part_128 : decode cX12_part 128 = .ok (.goto 4, 3) := by decide +kernel
theorem dX12_part_131 : decode cX12_part 131 = .ok (.iconst 0, 1) := by decide +kernel
theorem dX12_part_132 : decode cX12_part 132 = .ok (.ireturn, 1) := by decide +kernel
theorem dX12_part_133 : decode cX12_part 133 = .ok (.aload_n 0, 1) := by decide +kernel
theorem dX12_part_134 : decode cX12_part 134 = .ok (.getfield 36, 3) := by decide +kernel
theorem dX12_part_137 : decode cX12_part 137 = .ok (.iload 4, 2) := by decide +kernel
theorem dX12_part_139 : decode cX12_part 139 = .ok (.iaload, 1) := by decide +kernel
theorem dX12_part_140 : decode cX12_part 140 = .ok (.ireturn, 1) := by decide +kernel
theorem dX12_part_141 : decode cX12_part 141 = .ok (.aload_n 0, 1) := by decide +kernel
theorem dX12_part_142 : decode cX12_part 142 = .ok (.getfield 39, 3) := by decide +kernel
theorem dX12_part_145 : decode cX12_part 145 = .ok (.iload 4, 2) := by decide +kernel
theorem dX12_part_147 : decode cX12_part 147 = .ok (.iaload, 1) := by decide +kernel
theorem dX12_part_148 : decode cX12_part 148 = .ok (.ireturn, 1) := by decide +kernel
theorem dX12_part_149 : decode cX12_part 149 = .ok (.aload_n 0, 1) := by decide +kernel
theorem dX12_part_150 : decode cX12_part 150 = .ok (.getfield 27, 3) := by decide +kernel
theorem dX12_part_153 : decode cX12_part 153 = .ok (.iload 4, 2) := by decide +kernel
theorem dX12_part_155 : decode cX12_part 155 = .ok (.iaload, 1) := by decide +kernel
theorem dX12_part_156 : decode cX12_part 156 = .ok (.iconst 1, 1) := by decide +kernel
theorem dX12_part_157 : decode cX12_part 157 = .ok (.isub, 1) := by decide +kernel
theorem dX12_part_158 : decode cX12_part 158 = .ok (.ireturn, 1) := by decide +kernel
theorem dX12_part_159 : decode cX12_part 159 = .ok (.iconst (-1), 1) := by decide +kernel
theorem dX12_part_160 : decode cX12_part 160 = .ok (.ireturn, 1) := by decide +kernel
theorem dX12_sizeOf_0 : decode cX12_sizeOf 0 = .ok (.iconst 0, 1) := by decide +kernel
theorem dX12_sizeOf_1 : decode cX12_sizeOf 1 = .ok (.istore_n 2, 1) := by decide +kernel
theorem dX12_sizeOf_2 : decode cX12_sizeOf 2 = .ok (.iload_n 2, 1) := by decide +kernel
theorem dX12_sizeOf_3 : decode cX12_sizeOf 3 = .ok (.bipush 8, 2) := by decide +kernel
theorem dX12_sizeOf_5 : decode cX12_sizeOf 5 = .ok (.if_icmp .ge 20, 3) := by decide +kernel
theorem dX12_sizeOf_8 : decode cX12_sizeOf 8 = .ok (.lload_n 0, 1) := by decide +kernel
theorem dX12_sizeOf_9 : decode cX12_sizeOf 9 = .ok (.bipush 8, 2) := by decide +kernel
theorem dX12_sizeOf_11 : decode cX12_sizeOf 11 = .ok (.iload_n 2, 1) := by decide +kernel
theorem dX12_sizeOf_12 : decode cX12_sizeOf 12 = .ok (.imul, 1) := by decide +kernel
theorem dX12_sizeOf_13 : decode cX12_sizeOf 13 = .ok (.lushr, 1) := by decide +kernel
theorem dX12_sizeOf_14 : decode cX12_sizeOf 14 = .ok (.lconst 0, 1) := by decide +kernel
theorem dX12_sizeOf_15 : decode cX12_sizeOf 15 = .ok (.lcmp, 1) := by decide +kernel
theorem dX12_sizeOf_16 : decode cX12_sizeOf 16 = .ok (.ifCond .eq 9, 3) := by decide +kernel
theorem dX12_sizeOf_19 : decode cX12_sizeOf 19 = .ok (.iinc 2 1, 3) := by decide +kernel
theorem dX12_sizeOf_22 : decode cX12_sizeOf 22 = .ok (.goto (-20), 3) := by decide +kernel
theorem dX12_sizeOf_25 : decode cX12_sizeOf 25 = .ok (.iload_n 2, 1) := by decide +kernel
theorem dX12_sizeOf_26 : decode cX12_sizeOf 26 = .ok (.ireturn, 1) := by decide +kernel
theorem dX12_text_0 : decode cX12_text 0 = .ok (.aload_n 0, 1) := by decide +kernel
theorem dX12_text_1 : decode cX12_text 1 = .ok (.iload_n 1, 1) := by decide +kernel
theorem dX12_text_2 : decode cX12_text 2 = .ok (.iload_n 2, 1) := by decide +kernel
theorem dX12_text_3 : decode cX12_text 3 = .ok (.invokevirtual 185, 3) := by decide +kernel
theorem dX12_text_6 : decode cX12_text 6 = .ok (.ifCond .eq 17, 3) := by decide +kernel
theorem dX12_text_9 : decode cX12_text 9 = .ok (.iload_n 3, 1) := by decide +kernel
theorem dX12_text_10 : decode cX12_text 10 = .ok (.ifCond .lt 13, 3) := by decide +kernel
theorem dX12_text_13 : decode cX12_text 13 = .ok (.iload_n 3, 1) := by decide +kernel
theorem dX12_text_14 : decode cX12_text 14 = .ok (.iconst 2, 1) := by decide +kernel
theorem dX12_text_15 : decode cX12_text 15 = .ok (.if_icmp .gt 8, 3) := by decide +kernel
theorem dX12_text_18 : decode cX12_text 18 = .ok (.iload 4, 2) := by decide +kernel
theorem dX12_text_20 : decode cX12_text 20 = .ok (.ifCond .ge 5, 3) := by decide +kernel
theorem dX12_text_23 : decode cX12_text 23 = .ok (.iconst (-1), 1) := by decide +kernel
theorem dX12_text_24 : decode cX12_text 24 = .ok (.ireturn, 1) := by decide +kernel
theorem dX12_text_25 : decode cX12_text 25 = .ok (.iload_n 1, 1) := by decide +kernel
theorem dX12_text_26 : decode cX12_text 26 = .ok (.iload_n 2, 1) := by decide +kernel
theorem dX12_text_27 : decode cX12_text 27 = .ok (.invokestatic 151, 3) := by decide +kernel
theorem dX12_text_30 : decode cX12_text 30 = .ok (.istore 5, 2) := by decide +kernel
theorem dX12_text_32 : decode cX12_text 32 = .ok (.iload_n 3, 1) := by decide +kernel
theorem dX12_text_33 : decode cX12_text 33 = .ok (.iconst 2, 1) := by decide +kernel
theorem dX12_text_34 : decode cX12_text 34 = .ok (.if_icmp .ne 37, 3) := by decide +kernel
theorem dX12_text_37 : decode cX12_text 37 = .ok (.iload 4, 2) := by decide +kernel
theorem dX12_text_39 : decode cX12_text 39 = .ok (.aload_n 0, 1) := by decide +kernel
theorem dX12_text_40 : decode cX12_text 40 = .ok (.getfield 36, 3) := by decide +kernel
theorem dX12_text_43 : decode cX12_text 43 = .ok (.iload 5, 2) := by decide +kernel
theorem dX12_text_45 : decode cX12_text 45 = .ok (.iaload, 1) := by decide +kernel
theorem dX12_text_46 : decode cX12_text 46 = .ok (.if_icmp .ge 23, 3) := by decide +kernel
theorem dX12_text_49 : decode cX12_text 49 = .ok (.aload_n 0, 1) := by decide +kernel
theorem dX12_text_50 : decode cX12_text 50 = .ok (.getfield 53, 3) := by decide +kernel
theorem dX12_text_53 : decode cX12_text 53 = .ok (.bipush 16, 2) := by decide +kernel
theorem dX12_text_55 : decode cX12_text 55 = .ok (.iload 5, 2) := by decide +kernel
theorem dX12_text_57 : decode cX12_text 57 = .ok (.imul, 1) := by decide +kernel
theorem dX12_text_58 : decode cX12_text 58 = .ok (.iload 4, 2) := by decide +kernel
theorem dX12_text_60 : decode cX12_text 60 = .ok (.iadd, 1) := by decide +kernel
theorem dX12_text_61 : decode cX12_text 61 = .ok (.baload, 1) := by decide +kernel
theorem dX12_text_62 : decode cX12_text 62 = .ok (.sipush 255, 3) := by decide +kernel
theorem dX12_text_65 : decode cX12_text 65 = .ok (.iand, 1) := by decide +kernel
theorem dX12_text_66 : decode cX12_text 66 = .ok (.goto 4, 3) := by decide +kernel
theorem dX12_text_69 : decode cX12_text 69 = .ok (.iconst (-1), 1) := by decide +kernel
theorem dX12_text_70 : decode cX12_text 70 = .ok (.ireturn, 1) := by decide +kernel
theorem dX12_text_71 : decode cX12_text 71 = .ok (.iload_n 3, 1) := by decide +kernel
theorem dX12_text_72 : decode cX12_text 72 = .ok (.ifCond .ne 13, 3) := by decide +kernel
theorem dX12_text_75 : decode cX12_text 75 = .ok (.aload_n 0, 1) := by decide +kernel
theorem dX12_text_76 : decode cX12_text 76 = .ok (.getfield 42, 3) := by decide +kernel
theorem dX12_text_79 : decode cX12_text 79 = .ok (.iload 5, 2) := by decide +kernel
theorem dX12_text_81 : decode cX12_text 81 = .ok (.laload, 1) := by decide +kernel
theorem dX12_text_82 : decode cX12_text 82 = .ok (.goto 10, 3) := by decide +kernel
theorem dX12_text_85 : decode cX12_text 85 = .ok (.aload_n 0, 1) := by decide +kernel
theorem dX12_text_86 : decode cX12_text 86 = .ok (.getfield 46, 3) := by decide +kernel
theorem dX12_text_89 : decode cX12_text 89 = .ok (.iload 5, 2) := by decide +kernel
theorem dX12_text_91 : decode cX12_text 91 = .ok (.laload, 1) := by decide +kernel
theorem dX12_text_92 : decode cX12_text 92 = .ok (.lstore 6, 2) := by decide +kernel
theorem dX12_text_94 : decode cX12_text 94 = .ok (.lload 6, 2) := by decide +kernel
theorem dX12_text_96 : decode cX12_text 96 = .ok (.invokestatic 198, 3) := by decide +kernel
theorem dX12_text_99 : decode cX12_text 99 = .ok (.istore 8, 2) := by decide +kernel
theorem dX12_text_101 : decode cX12_text 101 = .ok (.iload 4, 2) := by decide +kernel
theorem dX12_text_103 : decode cX12_text 103 = .ok (.iload 8, 2) := by decide +kernel
theorem dX12_text_105 : decode cX12_text 105 = .ok (.if_icmp .ge 24, 3) := by decide +kernel
theorem dX12_text_108 : decode cX12_text 108 = .ok (.lload 6, 2) := by decide +kernel
theorem dX12_text_110 : decode cX12_text 110 = .ok (.bipush 8, 2) := by decide +kernel
theorem dX12_text_112 : decode cX12_text 112 = .ok (.iload 8, 2) := by decide +kernel
theorem dX12_text_114 : decode cX12_text 114 = .ok (.iconst 1, 1) := by decide +kernel
theorem dX12_text_115 : decode cX12_text 115 = .ok (.isub, 1) := by decide +kernel
theorem dX12_text_116 : decode cX12_text 116 = .ok (.iload 4, 2) := by decide +kernel
theorem dX12_text_118 : decode cX12_text 118 = .ok (.isub, 1) := by decide +kernel
theorem dX12_text_119 : decode cX12_text 119 = .ok (.imul, 1) := by decide +kernel
theorem dX12_text_120 : decode cX12_text 120 = .ok (.lshr, 1) := by decide +kernel
theorem dX12_text_121 : decode cX12_text 121 = .ok (.ldc2_w 202, 3) := by decide +kernel
theorem dX12_text_124 : decode cX12_text 124 = .ok (.land, 1) := by decide +kernel
theorem dX12_text_125 : decode cX12_text 125 = .ok (.l2i, 1) := by decide +kernel
theorem dX12_text_126 : decode cX12_text 126 = .ok (.goto 4, 3) := by decide +kernel
theorem dX12_text_129 : decode cX12_text 129 = .ok (.iconst (-1), 1) := by decide +kernel
theorem dX12_text_130 : decode cX12_text 130 = .ok (.ireturn, 1) := by decide +kernel
theorem dX12_areSameWords_0 : decode cX12_areSameWords 0 = .ok (.aload_n 0, 1) := by decide +kernel
theorem dX12_areSameWords_1 : decode cX12_areSameWords 1 = .ok (.getfield 36, 3) := by decide +kernel
theorem dX12_areSameWords_4 : decode cX12_areSameWords 4 = .ok (.iload_n 1, 1) := by decide +kernel
theorem dX12_areSameWords_5 : decode cX12_areSameWords 5 = .ok (.iaload, 1) := by decide +kernel
theorem dX12_areSameWords_6 : decode cX12_areSameWords 6 = .ok (.aload_n 0, 1) := by decide +kernel
theorem dX12_areSameWords_7 : decode cX12_areSameWords 7 = .ok (.getfield 36, 3) := by decide +kernel
theorem dX12_areSameWords_10 : decode cX12_areSameWords 10 = .ok (.iload_n 2, 1) := by decide +kernel
theorem dX12_areSameWords_11 : decode cX12_areSameWords 11 = .ok (.iaload, 1) := by decide +kernel
theorem dX12_areSameWords_12 : decode cX12_areSameWords 12 = .ok (.if_icmp .eq 5, 3) := by decide +kernel
theorem dX12_areSameWords_15 : decode cX12_areSameWords 15 = .ok (.iconst 0, 1) := by decide +kernel
theorem dX12_areSameWords_16 : decode cX12_areSameWords 16 = .ok (.ireturn, 1) := by decide +kernel
theorem dX12_areSameWords_17 : decode cX12_areSameWords 17 = .ok (.iconst 0, 1) := by decide +kernel
theorem dX12_areSameWords_18 : decode cX12_areSameWords 18 = .ok (.istore_n 3, 1) := by decide +kernel
theorem dX12_areSameWords_19 : decode cX12_areSameWords 19 = .ok (.iload_n 3, 1) := by decide +kernel
theorem dX12_areSameWords_20 : decode cX12_areSameWords 20 = .ok (.aload_n 0, 1) := by decide +kernel
theorem dX12_areSameWords_21 : decode cX12_areSameWords 21 = .ok (.getfield 36, 3) := by decide +kernel
theorem dX12_areSameWords_24 : decode cX12_areSameWords 24 = .ok (.iload_n 1, 1) := by decide +kernel
theorem dX12_areSameWords_25 : decode cX12_areSameWords 25 = .ok (.iaload, 1) := by decide +kernel
theorem dX12_areSameWords_26 : decode cX12_areSameWords 26 = .ok (.if_icmp .ge 36, 3) := by decide +kernel
theorem dX12_areSameWords_29 : decode cX12_areSameWords 29 = .ok (.aload_n 0, 1) := by decide +kernel
theorem dX12_areSameWords_30 : decode cX12_areSameWords 30 = .ok (.getfield 53, 3) := by decide +kernel
theorem dX12_areSameWords_33 : decode cX12_areSameWords 33 = .ok (.bipush 16, 2) := by decide +kernel
theorem dX12_areSameWords_35 : decode cX12_areSameWords 35 = .ok (.iload_n 1, 1) := by decide +kernel
theorem dX12_areSameWords_36 : decode cX12_areSameWords 36 = .ok (.imul, 1) := by decide +kernel
theorem dX12_areSameWords_37 : decode cX12_areSameWords 37 = .ok (.iload_n 3, 1) := by decide +kernel
theorem dX12_areSameWords_38 : decode cX12_areSameWords 38 = .ok (.iadd, 1) := by decide +kernel
theorem dX12_areSameWords_39 : decode cX12_areSameWords 39 = .ok (.baload, 1) := by decide +kernel
theorem dX12_areSameWords_40 : decode cX12_areSameWords 40 = .ok (.aload_n 0, 1) := by decide +kernel
theorem dX12_areSameWords_41 : decode cX12_areSameWords 41 = .ok (.getfield 53, 3) := by decide +kernel
theorem dX12_areSameWords_44 : decode cX12_areSameWords 44 = .ok (.bipush 16, 2) := by decide +kernel
theorem dX12_areSameWords_46 : decode cX12_areSameWords 46 = .ok (.iload_n 2, 1) := by decide +kernel
theorem dX12_areSameWords_47 : decode cX12_areSameWords 47 = .ok (.imul, 1) := by decide +kernel
theorem dX12_areSameWords_48 : decode cX12_areSameWords 48 = .ok (.iload_n 3, 1) := by decide +kernel
theorem dX12_areSameWords_49 : decode cX12_areSameWords 49 = .ok (.iadd, 1) := by decide +kernel
theorem dX12_areSameWords_50 : decode cX12_areSameWords 50 = .ok (.baload, 1) := by decide +kernel
theorem dX12_areSameWords_51 : decode cX12_areSameWords 51 = .ok (.if_icmp .eq 5, 3) := by decide +kernel
theorem dX12_areSameWords_54 : decode cX12_areSameWords 54 = .ok (.iconst 0, 1) := by decide +kernel
theorem dX12_areSameWords_55 : decode cX12_areSameWords 55 = .ok (.ireturn, 1) := by decide +kernel
theorem dX12_areSameWords_56 : decode cX12_areSameWords 56 = .ok (.iinc 3 1, 3) := by decide +kernel
theorem dX12_areSameWords_59 : decode cX12_areSameWords 59 = .ok (.goto (-40), 3) := by decide +kernel
theorem dX12_areSameWords_62 : decode cX12_areSameWords 62 = .ok (.iconst 1, 1) := by decide +kernel
theorem dX12_areSameWords_63 : decode cX12_areSameWords 63 = .ok (.ireturn, 1) := by decide +kernel
theorem dX12_change_0 : decode cX12_change 0 = .ok (.aload_n 0, 1) := by decide +kernel
theorem dX12_change_1 : decode cX12_change 1 = .ok (.getfield 42, 3) := by decide +kernel
theorem dX12_change_4 : decode cX12_change 4 = .ok (.iload_n 1, 1) := by decide +kernel
theorem dX12_change_5 : decode cX12_change 5 = .ok (.laload, 1) := by decide +kernel
theorem dX12_change_6 : decode cX12_change 6 = .ok (.aload_n 0, 1) := by decide +kernel
theorem dX12_change_7 : decode cX12_change 7 = .ok (.getfield 42, 3) := by decide +kernel
theorem dX12_change_10 : decode cX12_change 10 = .ok (.iload_n 2, 1) := by decide +kernel
theorem dX12_change_11 : decode cX12_change 11 = .ok (.laload, 1) := by decide +kernel
theorem dX12_change_12 : decode cX12_change 12 = .ok (.lcmp, 1) := by decide +kernel
theorem dX12_change_13 : decode cX12_change 13 = .ok (.ifCond .ne 7, 3) := by decide +kernel
theorem dX12_change_16 : decode cX12_change 16 = .ok (.iconst 0, 1) := by decide +kernel
theorem dX12_change_17 : decode cX12_change 17 = .ok (.goto 4, 3) := by decide +kernel
theorem dX12_change_20 : decode cX12_change 20 = .ok (.iconst 4, 1) := by decide +kernel
theorem dX12_change_21 : decode cX12_change 21 = .ok (.aload_n 0, 1) := by decide +kernel
theorem dX12_change_22 : decode cX12_change 22 = .ok (.getfield 46, 3) := by decide +kernel
theorem dX12_change_25 : decode cX12_change 25 = .ok (.iload_n 1, 1) := by decide +kernel
theorem dX12_change_26 : decode cX12_change 26 = .ok (.laload, 1) := by decide +kernel
theorem dX12_change_27 : decode cX12_change 27 = .ok (.aload_n 0, 1) := by decide +kernel
theorem dX12_change_28 : decode cX12_change 28 = .ok (.getfield 46, 3) := by decide +kernel
theorem dX12_change_31 : decode cX12_change 31 = .ok (.iload_n 2, 1) := by decide +kernel
theorem dX12_change_32 : decode cX12_change 32 = .ok (.laload, 1) := by decide +kernel
theorem dX12_change_33 : decode cX12_change 33 = .ok (.lcmp, 1) := by decide +kernel
theorem dX12_change_34 : decode cX12_change 34 = .ok (.ifCond .ne 7, 3) := by decide +kernel
theorem dX12_change_37 : decode cX12_change 37 = .ok (.iconst 0, 1) := by decide +kernel
theorem dX12_change_38 : decode cX12_change 38 = .ok (.goto 4, 3) := by decide +kernel
theorem dX12_change_41 : decode cX12_change 41 = .ok (.iconst 2, 1) := by decide +kernel
theorem dX12_change_42 : decode cX12_change 42 = .ok (.iadd, 1) := by decide +kernel
theorem dX12_change_43 : decode cX12_change 43 = .ok (.aload_n 0, 1) := by decide +kernel
theorem dX12_change_44 : decode cX12_change 44 = .ok (.iload_n 1, 1) := by decide +kernel
theorem dX12_change_45 : decode cX12_change 45 = .ok (.iload_n 2, 1) := by decide +kernel
theorem dX12_change_46 : decode cX12_change 46 = .ok (.invokevirtual 204, 3) := by decide +kernel
theorem dX12_change_49 : decode cX12_change 49 = .ok (.ifCond .eq 7, 3) := by decide +kernel
theorem dX12_change_52 : decode cX12_change 52 = .ok (.iconst 0, 1) := by decide +kernel
theorem dX12_change_53 : decode cX12_change 53 = .ok (.goto 4, 3) := by decide +kernel
theorem dX12_change_56 : decode cX12_change 56 = .ok (.iconst 1, 1) := by decide +kernel
theorem dX12_change_57 : decode cX12_change 57 = .ok (.iadd, 1) := by decide +kernel
theorem dX12_change_58 : decode cX12_change 58 = .ok (.ireturn, 1) := by decide +kernel
theorem dX12_measureAll_0 : decode cX12_measureAll 0 = .ok (.aload_n 0, 1) := by decide +kernel
theorem dX12_measureAll_1 : decode cX12_measureAll 1 = .ok (.getfield 20, 3) := by decide +kernel
theorem dX12_measureAll_4 : decode cX12_measureAll 4 = .ok (.iload_n 1, 1) := by decide +kernel
theorem dX12_measureAll_5 : decode cX12_measureAll 5 = .ok (.iaload, 1) := by decide +kernel
theorem dX12_measureAll_6 : decode cX12_measureAll 6 = .ok (.iconst 1, 1) := by decide +kernel
theorem dX12_measureAll_7 : decode cX12_measureAll 7 = .ok (.isub, 1) := by decide +kernel
theorem dX12_measureAll_8 : decode cX12_measureAll 8 = .ok (.istore_n 3, 1) := by decide +kernel
theorem dX12_measureAll_9 : decode cX12_measureAll 9 = .ok (.iload_n 3, 1) := by decide +kernel
theorem dX12_measureAll_10 : decode cX12_measureAll 10 = .ok (.ifCond .lt 51, 3) := by decide +kernel
theorem dX12_measureAll_13 : decode cX12_measureAll 13 = .ok (.aload_n 0, 1) := by decide +kernel
theorem dX12_measureAll_14 : decode cX12_measureAll 14 = .ok (.getfield 20, 3) := by decide +kernel
theorem dX12_measureAll_17 : decode cX12_measureAll 17 = .ok (.iload_n 2, 1) := by decide +kernel
theorem dX12_measureAll_18 : decode cX12_measureAll 18 = .ok (.iaload, 1) := by decide +kernel
theorem dX12_measureAll_19 : decode cX12_measureAll 19 = .ok (.iconst 1, 1) := by decide +kernel
theorem dX12_measureAll_20 : decode cX12_measureAll 20 = .ok (.isub, 1) := by decide +kernel
theorem dX12_measureAll_21 : decode cX12_measureAll 21 = .ok (.istore 4, 2) := by decide +kernel
theorem dX12_measureAll_23 : decode cX12_measureAll 23 = .ok (.iload 4, 2) := by decide +kernel
theorem dX12_measureAll_25 : decode cX12_measureAll 25 = .ok (.ifCond .lt 30, 3) := by decide +kernel
theorem dX12_measureAll_28 : decode cX12_measureAll 28 = .ok (.aload_n 0, 1) := by decide +kernel
theorem dX12_measureAll_29 : decode cX12_measureAll 29 = .ok (.getfield 59, 3) := by decide +kernel
theorem dX12_measureAll_32 : decode cX12_measureAll 32 = .ok (.bipush 60, 2) := by decide +kernel
theorem dX12_measureAll_34 : decode cX12_measureAll 34 = .ok (.iload_n 3, 1) := by decide +kernel
theorem dX12_measureAll_35 : decode cX12_measureAll 35 = .ok (.imul, 1) := by decide +kernel
theorem dX12_measureAll_36 : decode cX12_measureAll 36 = .ok (.iload 4, 2) := by decide +kernel
theorem dX12_measureAll_38 : decode cX12_measureAll 38 = .ok (.iadd, 1) := by decide +kernel
theorem dX12_measureAll_39 : decode cX12_measureAll 39 = .ok (.aload_n 0, 1) := by decide +kernel
theorem dX12_measureAll_40 : decode cX12_measureAll 40 = .ok (.iload_n 1, 1) := by decide +kernel
theorem dX12_measureAll_41 : decode cX12_measureAll 41 = .ok (.iload_n 2, 1) := by decide +kernel
theorem dX12_measureAll_42 : decode cX12_measureAll 42 = .ok (.iload_n 3, 1) := by decide +kernel
theorem dX12_measureAll_43 : decode cX12_measureAll 43 = .ok (.iload 4, 2) := by decide +kernel
theorem dX12_measureAll_45 : decode cX12_measureAll 45 = .ok (.invokevirtual 207, 3) := by decide +kernel
theorem dX12_measureAll_48 : decode cX12_measureAll 48 = .ok (.iastore, 1) := by decide +kernel
theorem dX12_measureAll_49 : decode cX12_measureAll 49 = .ok (.iinc 4 (-1), 3) := by decide +kernel
theorem dX12_measureAll_52 : decode cX12_measureAll 52 = .ok (.goto (-29), 3) := by decide +kernel
theorem dX12_measureAll_55 : decode cX12_measureAll 55 = .ok (.iinc 3 (-1), 3) := by decide +kernel
theorem dX12_measureAll_58 : decode cX12_measureAll 58 = .ok (.goto (-49), 3) := by decide +kernel
theorem dX12_measureAll_61 : decode cX12_measureAll 61 = .ok (.return_, 1) := by decide +kernel
theorem dX12_measureOne_0 : decode cX12_measureOne 0 = .ok (.iload_n 3, 1) := by decide +kernel
theorem dX12_measureOne_1 : decode cX12_measureOne 1 = .ok (.aload_n 0, 1) := by decide +kernel
theorem dX12_measureOne_2 : decode cX12_measureOne 2 = .ok (.getfield 27, 3) := by decide +kernel
theorem dX12_measureOne_5 : decode cX12_measureOne 5 = .ok (.iload_n 1, 1) := by decide +kernel
theorem dX12_measureOne_6 : decode cX12_measureOne 6 = .ok (.iload_n 3, 1) := by decide +kernel
theorem dX12_measureOne_7 : decode cX12_measureOne 7 = .ok (.invokestatic 151, 3) := by decide +kernel
theorem dX12_measureOne_10 : decode cX12_measureOne 10 = .ok (.iaload, 1) := by decide +kernel
theorem dX12_measureOne_11 : decode cX12_measureOne 11 = .ok (.iadd, 1) := by decide +kernel
theorem dX12_measureOne_12 : decode cX12_measureOne 12 = .ok (.istore 5, 2) := by decide +kernel
theorem dX12_measureOne_14 : decode cX12_measureOne 14 = .ok (.iload 4, 2) := by decide +kernel
theorem dX12_measureOne_16 : decode cX12_measureOne 16 = .ok (.aload_n 0, 1) := by decide +kernel
theorem dX12_measureOne_17 : decode cX12_measureOne 17 = .ok (.getfield 27, 3) := by decide +kernel
theorem dX12_measureOne_20 : decode cX12_measureOne 20 = .ok (.iload_n 2, 1) := by decide +kernel
theorem dX12_measureOne_21 : decode cX12_measureOne 21 = .ok (.iload 4, 2) := by decide +kernel
theorem dX12_measureOne_23 : decode cX12_measureOne 23 = .ok (.invokestatic 151, 3) := by decide +kernel
theorem dX12_measureOne_26 : decode cX12_measureOne 26 = .ok (.iaload, 1) := by decide +kernel
theorem dX12_measureOne_27 : decode cX12_measureOne 27 = .ok (.iadd, 1) := by decide +kernel
theorem dX12_measureOne_28 : decode cX12_measureOne 28 = .ok (.istore 6, 2) := by decide +kernel
theorem dX12_measureOne_30 : decode cX12_measureOne 30 = .ok (.iload 5, 2) := by decide +kernel
theorem dX12_measureOne_32 : decode cX12_measureOne 32 = .ok (.istore 7, 2) := by decide +kernel
theorem dX12_measureOne_34 : decode cX12_measureOne 34 = .ok (.iload 7, 2) := by decide +kernel
theorem dX12_measureOne_36 : decode cX12_measureOne 36 = .ok (.iload_n 3, 1) := by decide +kernel
theorem dX12_measureOne_37 : decode cX12_measureOne 37 = .ok (.if_icmp .lt 242, 3) := by decide +kernel
theorem dX12_measureOne_40 : decode cX12_measureOne 40 = .ok (.iload 6, 2) := by decide +kernel
theorem dX12_measureOne_42 : decode cX12_measureOne 42 = .ok (.istore 8, 2) := by decide +kernel
theorem dX12_measureOne_44 : decode cX12_measureOne 44 = .ok (.iload 8, 2) := by decide +kernel
theorem dX12_measureOne_46 : decode cX12_measureOne 46 = .ok (.iload 4, 2) := by decide +kernel
theorem dX12_measureOne_48 : decode cX12_measureOne 48 = .ok (.if_icmp .lt 225, 3) := by decide +kernel
theorem dX12_measureOne_51 : decode cX12_measureOne 51 = .ok (.iconst 3, 1) := by decide +kernel
theorem dX12_measureOne_52 : decode cX12_measureOne 52 = .ok (.iload 5, 2) := by decide +kernel
theorem dX12_measureOne_54 : decode cX12_measureOne 54 = .ok (.iload 7, 2) := by decide +kernel
theorem dX12_measureOne_56 : decode cX12_measureOne 56 = .ok (.isub, 1) := by decide +kernel
theorem dX12_measureOne_57 : decode cX12_measureOne 57 = .ok (.iload 6, 2) := by decide +kernel
theorem dX12_measureOne_59 : decode cX12_measureOne 59 = .ok (.iadd, 1) := by decide +kernel
theorem dX12_measureOne_60 : decode cX12_measureOne 60 = .ok (.iload 8, 2) := by decide +kernel
theorem dX12_measureOne_62 : decode cX12_measureOne 62 = .ok (.isub, 1) := by decide +kernel
theorem dX12_measureOne_63 : decode cX12_measureOne 63 = .ok (.imul, 1) := by decide +kernel
theorem dX12_measureOne_64 : decode cX12_measureOne 64 = .ok (.istore 9, 2) := by decide +kernel
theorem dX12_measureOne_66 : decode cX12_measureOne 66 = .ok (.iload 7, 2) := by decide +kernel
theorem dX12_measureOne_68 : decode cX12_measureOne 68 = .ok (.iload 5, 2) := by decide +kernel
theorem dX12_measureOne_70 : decode cX12_measureOne 70 = .ok (.if_icmp .ge 182, 3) := by decide +kernel
theorem dX12_measureOne_73 : decode cX12_measureOne 73 = .ok (.iload 8, 2) := by decide +kernel
theorem dX12_measureOne_75 : decode cX12_measureOne 75 = .ok (.iload 6, 2) := by decide +kernel
theorem dX12_measureOne_77 : decode cX12_measureOne 77 = .ok (.if_icmp .ge 175, 3) := by decide +kernel
theorem dX12_measureOne_80 : decode cX12_measureOne 80 = .ok (.aload_n 0, 1) := by decide +kernel
theorem dX12_measureOne_81 : decode cX12_measureOne 81 = .ok (.getfield 62, 3) := by decide +kernel
theorem dX12_measureOne_84 : decode cX12_measureOne 84 = .ok (.bipush 61, 2) := by decide +kernel
theorem dX12_measureOne_86 : decode cX12_measureOne 86 = .ok (.iload 7, 2) := by decide +kernel
theorem dX12_measureOne_88 : decode cX12_measureOne 88 = .ok (.iconst 1, 1) := by decide +kernel
theorem dX12_measureOne_89 : decode cX12_measureOne 89 = .ok (.iadd, 1) := by decide +kernel
theorem dX12_measureOne_90 : decode cX12_measureOne 90 = .ok (.imul, 1) := by decide +kernel
theorem dX12_measureOne_91 : decode cX12_measureOne 91 = .ok (.iload 8, 2) := by decide +kernel
theorem dX12_measureOne_93 : decode cX12_measureOne 93 = .ok (.iadd, 1) := by decide +kernel
theorem dX12_measureOne_94 : decode cX12_measureOne 94 = .ok (.iaload, 1) := by decide +kernel
theorem dX12_measureOne_95 : decode cX12_measureOne 95 = .ok (.iconst 3, 1) := by decide +kernel
theorem dX12_measureOne_96 : decode cX12_measureOne 96 = .ok (.iadd, 1) := by decide +kernel
theorem dX12_measureOne_97 : decode cX12_measureOne 97 = .ok (.istore 10, 2) := by decide +kernel
theorem dX12_measureOne_99 : decode cX12_measureOne 99 = .ok (.aload_n 0, 1) := by decide +kernel
theorem dX12_measureOne_100 : decode cX12_measureOne 100 = .ok (.getfield 62, 3) := by decide +kernel
theorem dX12_measureOne_103 : decode cX12_measureOne 103 = .ok (.bipush 61, 2) := by decide +kernel
theorem dX12_measureOne_105 : decode cX12_measureOne 105 = .ok (.iload 7, 2) := by decide +kernel
theorem dX12_measureOne_107 : decode cX12_measureOne 107 = .ok (.imul, 1) := by decide +kernel
theorem dX12_measureOne_108 : decode cX12_measureOne 108 = .ok (.iload 8, 2) := by decide +kernel
theorem dX12_measureOne_110 : decode cX12_measureOne 110 = .ok (.iadd, 1) := by decide +kernel
theorem dX12_measureOne_111 : decode cX12_measureOne 111 = .ok (.iconst 1, 1) := by decide +kernel
theorem dX12_measureOne_112 : decode cX12_measureOne 112 = .ok (.iadd, 1) := by decide +kernel
theorem dX12_measureOne_113 : decode cX12_measureOne 113 = .ok (.iaload, 1) := by decide +kernel
theorem dX12_measureOne_114 : decode cX12_measureOne 114 = .ok (.iconst 3, 1) := by decide +kernel
theorem dX12_measureOne_115 : decode cX12_measureOne 115 = .ok (.iadd, 1) := by decide +kernel
theorem dX12_measureOne_116 : decode cX12_measureOne 116 = .ok (.istore 11, 2) := by decide +kernel
theorem dX12_measureOne_118 : decode cX12_measureOne 118 = .ok (.iload 7, 2) := by decide +kernel
theorem dX12_measureOne_120 : decode cX12_measureOne 120 = .ok (.iload_n 3, 1) := by decide +kernel
theorem dX12_measureOne_121 : decode cX12_measureOne 121 = .ok (.if_icmp .ne 46, 3) := by decide +kernel
theorem dX12_measureOne_124 : decode cX12_measureOne 124 = .ok (.iload 8, 2) := by decide +kernel
theorem dX12_measureOne_126 : decode cX12_measureOne 126 = .ok (.iload 4, 2) := by decide +kernel
theorem dX12_measureOne_128 : decode cX12_measureOne 128 = .ok (.if_icmp .ne 39, 3) := by decide +kernel
theorem dX12_measureOne_131 : decode cX12_measureOne 131 = .ok (.aload_n 0, 1) := by decide +kernel
theorem dX12_measureOne_132 : decode cX12_measureOne 132 = .ok (.iload_n 1, 1) := by decide +kernel
theorem dX12_measureOne_133 : decode cX12_measureOne 133 = .ok (.iload_n 3, 1) := by decide +kernel
theorem dX12_measureOne_134 : decode cX12_measureOne 134 = .ok (.invokestatic 151, 3) := by decide +kernel
theorem dX12_measureOne_137 : decode cX12_measureOne 137 = .ok (.iload_n 2, 1) := by decide +kernel
theorem dX12_measureOne_138 : decode cX12_measureOne 138 = .ok (.iload 4, 2) := by decide +kernel
theorem dX12_measureOne_140 : decode cX12_measureOne 140 = .ok (.invokestatic 151, 3) := by decide +kernel
theorem dX12_measureOne_143 : decode cX12_measureOne 143 = .ok (.invokevirtual 211, 3) := by decide +kernel
theorem dX12_measureOne_146 : decode cX12_measureOne 146 = .ok (.aload_n 0, 1) := by decide +kernel
theorem dX12_measureOne_147 : decode cX12_measureOne 147 = .ok (.getfield 62, 3) := by decide +kernel
theorem dX12_measureOne_150 : decode cX12_measureOne 150 = .ok (.bipush 61, 2) := by decide +kernel
theorem dX12_measureOne_152 : decode cX12_measureOne 152 = .ok (.iload 7, 2) := by decide +kernel
theorem dX12_measureOne_154 : decode cX12_measureOne 154 = .ok (.iconst 1, 1) := by decide +kernel
theorem dX12_measureOne_155 : decode cX12_measureOne 155 = .ok (.iadd, 1) := by decide +kernel
theorem dX12_measureOne_156 : decode cX12_measureOne 156 = .ok (.imul, 1) := by decide +kernel
theorem dX12_measureOne_157 : decode cX12_measureOne 157 = .ok (.iload 8, 2) := by decide +kernel
theorem dX12_measureOne_159 : decode cX12_measureOne 159 = .ok (.iadd, 1) := by decide +kernel
theorem dX12_measureOne_160 : decode cX12_measureOne 160 = .ok (.iconst 1, 1) := by decide +kernel
theorem dX12_measureOne_161 : decode cX12_measureOne 161 = .ok (.iadd, 1) := by decide +kernel
theorem dX12_measureOne_162 : decode cX12_measureOne 162 = .ok (.iaload, 1) := by decide +kernel
theorem dX12_measureOne_163 : decode cX12_measureOne 163 = .ok (.iadd, 1) := by decide +kernel
theorem dX12_measureOne_164 : decode cX12_measureOne 164 = .ok (.goto 54, 3) := by decide +kernel
theorem dX12_measureOne_167 : decode cX12_measureOne 167 = .ok (.aload_n 0, 1) := by decide +kernel
theorem dX12_measureOne_168 : decode cX12_measureOne 168 = .ok (.getfield 59, 3) := by decide +kernel
theorem dX12_measureOne_171 : decode cX12_measureOne 171 = .ok (.bipush 60, 2) := by decide +kernel
theorem dX12_measureOne_173 : decode cX12_measureOne 173 = .ok (.iload 7, 2) := by decide +kernel
theorem dX12_measureOne_175 : decode cX12_measureOne 175 = .ok (.imul, 1) := by decide +kernel
theorem dX12_measureOne_176 : decode cX12_measureOne 176 = .ok (.iload 8, 2) := by decide +kernel
theorem dX12_measureOne_178 : decode cX12_measureOne 178 = .ok (.iadd, 1) := by decide +kernel
theorem dX12_measureOne_179 : decode cX12_measureOne 179 = .ok (.iaload, 1) := by decide +kernel
theorem dX12_measureOne_180 : decode cX12_measureOne 180 = .ok (.aload_n 0, 1) := by decide +kernel
theorem dX12_measureOne_181 : decode cX12_measureOne 181 = .ok (.getfield 62, 3) := by decide +kernel
theorem dX12_measureOne_184 : decode cX12_measureOne 184 = .ok (.bipush 61, 2) := by decide +kernel
theorem dX12_measureOne_186 : decode cX12_measureOne 186 = .ok (.iload 7, 2) := by decide +kernel
theorem dX12_measureOne_188 : decode cX12_measureOne 188 = .ok (.aload_n 0, 1) := by decide +kernel
theorem dX12_measureOne_189 : decode cX12_measureOne 189 = .ok (.getfield 27, 3) := by decide +kernel
theorem dX12_measureOne_192 : decode cX12_measureOne 192 = .ok (.iload_n 1, 1) := by decide +kernel
theorem dX12_measureOne_193 : decode cX12_measureOne 193 = .ok (.iload 7, 2) := by decide +kernel
theorem dX12_measureOne_195 : decode cX12_measureOne 195 = .ok (.invokestatic 151, 3) := by decide +kernel
theorem dX12_measureOne_198 : decode cX12_measureOne 198 = .ok (.iaload, 1) := by decide +kernel
theorem dX12_measureOne_199 : decode cX12_measureOne 199 = .ok (.iadd, 1) := by decide +kernel
theorem dX12_measureOne_200 : decode cX12_measureOne 200 = .ok (.imul, 1) := by decide +kernel
theorem dX12_measureOne_201 : decode cX12_measureOne 201 = .ok (.iload 8, 2) := by decide +kernel
theorem dX12_measureOne_203 : decode cX12_measureOne 203 = .ok (.iadd, 1) := by decide +kernel
theorem dX12_measureOne_204 : decode cX12_measureOne 204 = .ok (.aload_n 0, 1) := by decide +kernel
theorem dX12_measureOne_205 : decode cX12_measureOne 205 = .ok (.getfield 27, 3) := by decide +kernel
theorem dX12_measureOne_208 : decode cX12_measureOne 208 = .ok (.iload_n 2, 1) := by decide +kernel
theorem dX12_measureOne_209 : decode cX12_measureOne 209 = .ok (.iload 8, 2) := by decide +kernel
theorem dX12_measureOne_211 : decode cX12_measureOne 211 = .ok (.invokestatic 151, 3) := by decide +kernel
theorem dX12_measureOne_214 : decode cX12_measureOne 214 = .ok (.iaload, 1) := by decide +kernel
theorem dX12_measureOne_215 : decode cX12_measureOne 215 = .ok (.iadd, 1) := by decide +kernel
theorem dX12_measureOne_216 : decode cX12_measureOne 216 = .ok (.iaload, 1) := by decide +kernel
theorem dX12_measureOne_217 : decode cX12_measureOne 217 = .ok (.iadd, 1) := by decide +kernel
theorem dX12_measureOne_218 : decode cX12_measureOne 218 = .ok (.istore 12, 2) := by decide +kernel
theorem dX12_measureOne_220 : decode cX12_measureOne 220 = .ok (.iload 10, 2) := by decide +kernel
theorem dX12_measureOne_222 : decode cX12_measureOne 222 = .ok (.iload 11, 2) := by decide +kernel
theorem dX12_measureOne_224 : decode cX12_measureOne 224 = .ok (.if_icmp .ge 8, 3) := by decide +kernel
theorem dX12_measureOne_227 : decode cX12_measureOne 227 = .ok (.iload 10, 2) := by decide +kernel
theorem dX12_measureOne_229 : decode cX12_measureOne 229 = .ok (.goto 5, 3) := by decide +kernel
theorem dX12_measureOne_232 : decode cX12_measureOne 232 = .ok (.iload 11, 2) := by decide +kernel
theorem dX12_measureOne_234 : decode cX12_measureOne 234 = .ok (.istore 9, 2) := by decide +kernel
theorem dX12_measureOne_236 : decode cX12_measureOne 236 = .ok (.iload 12, 2) := by decide +kernel
theorem dX12_measureOne_238 : decode cX12_measureOne 238 = .ok (.iload 9, 2) := by decide +kernel
theorem dX12_measureOne_240 : decode cX12_measureOne 240 = .ok (.if_icmp .ge 8, 3) := by decide +kernel
theorem dX12_measureOne_243 : decode cX12_measureOne 243 = .ok (.iload 12, 2) := by decide +kernel
theorem dX12_measureOne_245 : decode cX12_measureOne 245 = .ok (.goto 5, 3) := by decide +kernel
theorem dX12_measureOne_248 : decode cX12_measureOne 248 = .ok (.iload 9, 2) := by decide +kernel
theorem dX12_measureOne_250 : decode cX12_measureOne 250 = .ok (.istore 9, 2) := by decide +kernel
theorem dX12_measureOne_252 : decode cX12_measureOne 252 = .ok (.aload_n 0, 1) := by decide +kernel
theorem dX12_measureOne_253 : decode cX12_measureOne 253 = .ok (.getfield 62, 3) := by decide +kernel
theorem dX12_measureOne_256 : decode cX12_measureOne 256 = .ok (.bipush 61, 2) := by decide +kernel
theorem dX12_measureOne_258 : decode cX12_measureOne 258 = .ok (.iload 7, 2) := by decide +kernel
theorem dX12_measureOne_260 : decode cX12_measureOne 260 = .ok (.imul, 1) := by decide +kernel
theorem dX12_measureOne_261 : decode cX12_measureOne 261 = .ok (.iload 8, 2) := by decide +kernel
theorem dX12_measureOne_263 : decode cX12_measureOne 263 = .ok (.iadd, 1) := by decide +kernel
theorem dX12_measureOne_264 : decode cX12_measureOne 264 = .ok (.iload 9, 2) := by decide +kernel
theorem dX12_measureOne_266 : decode cX12_measureOne 266 = .ok (.iastore, 1) := by decide +kernel
theorem dX12_measureOne_267 : decode cX12_measureOne 267 = .ok (.iinc 8 (-1), 3) := by decide +kernel
theorem dX12_measureOne_270 : decode cX12_measureOne 270 = .ok (.goto (-226), 3) := by decide +kernel
theorem dX12_measureOne_273 : decode cX12_measureOne 273 = .ok (.iinc 7 (-1), 3) := by decide +kernel
theorem dX12_measureOne_276 : decode cX12_measureOne 276 = .ok (.goto (-242), 3) := by decide +kernel
theorem dX12_measureOne_279 : decode cX12_measureOne 279 = .ok (.aload_n 0, 1) := by decide +kernel
theorem dX12_measureOne_280 : decode cX12_measureOne 280 = .ok (.getfield 62, 3) := by decide +kernel
theorem dX12_measureOne_283 : decode cX12_measureOne 283 = .ok (.bipush 61, 2) := by decide +kernel
theorem dX12_measureOne_285 : decode cX12_measureOne 285 = .ok (.iload_n 3, 1) := by decide +kernel
theorem dX12_measureOne_286 : decode cX12_measureOne 286 = .ok (.imul, 1) := by decide +kernel
theorem dX12_measureOne_287 : decode cX12_measureOne 287 = .ok (.iload 4, 2) := by decide +kernel
theorem dX12_measureOne_289 : decode cX12_measureOne 289 = .ok (.iadd, 1) := by decide +kernel
theorem dX12_measureOne_290 : decode cX12_measureOne 290 = .ok (.iaload, 1) := by decide +kernel
theorem dX12_measureOne_291 : decode cX12_measureOne 291 = .ok (.ireturn, 1) := by decide +kernel
theorem dX12_far_0 : decode cX12_far 0 = .ok (.aload_n 0, 1) := by decide +kernel
theorem dX12_far_1 : decode cX12_far 1 = .ok (.iload_n 1, 1) := by decide +kernel
theorem dX12_far_2 : decode cX12_far 2 = .ok (.iload_n 2, 1) := by decide +kernel
theorem dX12_far_3 : decode cX12_far 3 = .ok (.invokevirtual 185, 3) := by decide +kernel
theorem dX12_far_6 : decode cX12_far 6 = .ok (.ifCond .eq 13, 3) := by decide +kernel
theorem dX12_far_9 : decode cX12_far 9 = .ok (.aload_n 0, 1) := by decide +kernel
theorem dX12_far_10 : decode cX12_far 10 = .ok (.iload_n 3, 1) := by decide +kernel
theorem dX12_far_11 : decode cX12_far 11 = .ok (.iload 4, 2) := by decide +kernel
theorem dX12_far_13 : decode cX12_far 13 = .ok (.invokevirtual 185, 3) := by decide +kernel
theorem dX12_far_16 : decode cX12_far 16 = .ok (.ifCond .ne 5, 3) := by decide +kernel
theorem dX12_far_19 : decode cX12_far 19 = .ok (.iconst (-1), 1) := by decide +kernel
theorem dX12_far_20 : decode cX12_far 20 = .ok (.ireturn, 1) := by decide +kernel
theorem dX12_far_21 : decode cX12_far 21 = .ok (.aload_n 0, 1) := by decide +kernel
theorem dX12_far_22 : decode cX12_far 22 = .ok (.iload_n 1, 1) := by decide +kernel
theorem dX12_far_23 : decode cX12_far 23 = .ok (.iload_n 3, 1) := by decide +kernel
theorem dX12_far_24 : decode cX12_far 24 = .ok (.invokevirtual 214, 3) := by decide +kernel
theorem dX12_far_27 : decode cX12_far 27 = .ok (.aload_n 0, 1) := by decide +kernel
theorem dX12_far_28 : decode cX12_far 28 = .ok (.getfield 59, 3) := by decide +kernel
theorem dX12_far_31 : decode cX12_far 31 = .ok (.bipush 60, 2) := by decide +kernel
theorem dX12_far_33 : decode cX12_far 33 = .ok (.iload_n 2, 1) := by decide +kernel
theorem dX12_far_34 : decode cX12_far 34 = .ok (.imul, 1) := by decide +kernel
theorem dX12_far_35 : decode cX12_far 35 = .ok (.iload 4, 2) := by decide +kernel
theorem dX12_far_37 : decode cX12_far 37 = .ok (.iadd, 1) := by decide +kernel
theorem dX12_far_38 : decode cX12_far 38 = .ok (.iaload, 1) := by decide +kernel
theorem dX12_far_39 : decode cX12_far 39 = .ok (.ireturn, 1) := by decide +kernel
theorem dX12_beside_0 : decode cX12_beside 0 = .ok (.iload_n 2, 1) := by decide +kernel
theorem dX12_beside_1 : decode cX12_beside 1 = .ok (.ifCond .ge 12, 3) := by decide +kernel
theorem dX12_beside_4 : decode cX12_beside 4 = .ok (.iload 4, 2) := by decide +kernel
theorem dX12_beside_6 : decode cX12_beside 6 = .ok (.ifCond .ge 7, 3) := by decide +kernel
theorem dX12_beside_9 : decode cX12_beside 9 = .ok (.iconst 0, 1) := by decide +kernel
theorem dX12_beside_10 : decode cX12_beside 10 = .ok (.goto 31, 3) := by decide +kernel
theorem dX12_beside_13 : decode cX12_beside 13 = .ok (.iload_n 2, 1) := by decide +kernel
theorem dX12_beside_14 : decode cX12_beside 14 = .ok (.ifCond .lt 8, 3) := by decide +kernel
theorem dX12_beside_17 : decode cX12_beside 17 = .ok (.iload 4, 2) := by decide +kernel
theorem dX12_beside_19 : decode cX12_beside 19 = .ok (.ifCond .ge 7, 3) := by decide +kernel
theorem dX12_beside_22 : decode cX12_beside 22 = .ok (.iconst 3, 1) := by decide +kernel
theorem dX12_beside_23 : decode cX12_beside 23 = .ok (.goto 18, 3) := by decide +kernel
theorem dX12_beside_26 : decode cX12_beside 26 = .ok (.aload_n 0, 1) := by decide +kernel
theorem dX12_beside_27 : decode cX12_beside 27 = .ok (.iload_n 1, 1) := by decide +kernel
theorem dX12_beside_28 : decode cX12_beside 28 = .ok (.iload_n 2, 1) := by decide +kernel
theorem dX12_beside_29 : decode cX12_beside 29 = .ok (.invokestatic 151, 3) := by decide +kernel
theorem dX12_beside_32 : decode cX12_beside 32 = .ok (.iload_n 3, 1) := by decide +kernel
theorem dX12_beside_33 : decode cX12_beside 33 = .ok (.iload 4, 2) := by decide +kernel
theorem dX12_beside_35 : decode cX12_beside 35 = .ok (.invokestatic 151, 3) := by decide +kernel
theorem dX12_beside_38 : decode cX12_beside 38 = .ok (.invokevirtual 211, 3) := by decide +kernel
theorem dX12_beside_41 : decode cX12_beside 41 = .ok (.ireturn, 1) := by decide +kernel
theorem dX12_costOf_0 : decode cX12_costOf 0 = .ok (.iconst 3, 1) := by decide +kernel
theorem dX12_costOf_1 : decode cX12_costOf 1 = .ok (.aload_n 0, 1) := by decide +kernel
theorem dX12_costOf_2 : decode cX12_costOf 2 = .ok (.getfield 59, 3) := by decide +kernel
theorem dX12_costOf_5 : decode cX12_costOf 5 = .ok (.bipush 60, 2) := by decide +kernel
theorem dX12_costOf_7 : decode cX12_costOf 7 = .ok (.iload_n 2, 1) := by decide +kernel
theorem dX12_costOf_8 : decode cX12_costOf 8 = .ok (.imul, 1) := by decide +kernel
theorem dX12_costOf_9 : decode cX12_costOf 9 = .ok (.iload 4, 2) := by decide +kernel
theorem dX12_costOf_11 : decode cX12_costOf 11 = .ok (.iadd, 1) := by decide +kernel
theorem dX12_costOf_12 : decode cX12_costOf 12 = .ok (.iaload, 1) := by decide +kernel
theorem dX12_costOf_13 : decode cX12_costOf 13 = .ok (.imul, 1) := by decide +kernel
theorem dX12_costOf_14 : decode cX12_costOf 14 = .ok (.aload_n 0, 1) := by decide +kernel
theorem dX12_costOf_15 : decode cX12_costOf 15 = .ok (.iload_n 1, 1) := by decide +kernel
theorem dX12_costOf_16 : decode cX12_costOf 16 = .ok (.aload_n 0, 1) := by decide +kernel
theorem dX12_costOf_17 : decode cX12_costOf 17 = .ok (.getfield 24, 3) := by decide +kernel
theorem dX12_costOf_20 : decode cX12_costOf 20 = .ok (.iload_n 1, 1) := by decide +kernel
theorem dX12_costOf_21 : decode cX12_costOf 21 = .ok (.iload_n 2, 1) := by decide +kernel
theorem dX12_costOf_22 : decode cX12_costOf 22 = .ok (.invokestatic 151, 3) := by decide +kernel
theorem dX12_costOf_25 : decode cX12_costOf 25 = .ok (.iaload, 1) := by decide +kernel
theorem dX12_costOf_26 : decode cX12_costOf 26 = .ok (.iload_n 3, 1) := by decide +kernel
theorem dX12_costOf_27 : decode cX12_costOf 27 = .ok (.aload_n 0, 1) := by decide +kernel
theorem dX12_costOf_28 : decode cX12_costOf 28 = .ok (.getfield 24, 3) := by decide +kernel
theorem dX12_costOf_31 : decode cX12_costOf 31 = .ok (.iload_n 3, 1) := by decide +kernel
theorem dX12_costOf_32 : decode cX12_costOf 32 = .ok (.iload 4, 2) := by decide +kernel
theorem dX12_costOf_34 : decode cX12_costOf 34 = .ok (.invokestatic 151, 3) := by decide +kernel
theorem dX12_costOf_37 : decode cX12_costOf 37 = .ok (.iaload, 1) := by decide +kernel
theorem dX12_costOf_38 : decode cX12_costOf 38 = .ok (.invokevirtual 217, 3) := by decide +kernel
theorem dX12_costOf_41 : decode cX12_costOf 41 = .ok (.iadd, 1) := by decide +kernel
theorem dX12_costOf_42 : decode cX12_costOf 42 = .ok (.aload_n 0, 1) := by decide +kernel
theorem dX12_costOf_43 : decode cX12_costOf 43 = .ok (.iload_n 1, 1) := by decide +kernel
theorem dX12_costOf_44 : decode cX12_costOf 44 = .ok (.aload_n 0, 1) := by decide +kernel
theorem dX12_costOf_45 : decode cX12_costOf 45 = .ok (.iload_n 1, 1) := by decide +kernel
theorem dX12_costOf_46 : decode cX12_costOf 46 = .ok (.iload_n 2, 1) := by decide +kernel
theorem dX12_costOf_47 : decode cX12_costOf 47 = .ok (.invokevirtual 189, 3) := by decide +kernel
theorem dX12_costOf_50 : decode cX12_costOf 50 = .ok (.iload_n 3, 1) := by decide +kernel
theorem dX12_costOf_51 : decode cX12_costOf 51 = .ok (.aload_n 0, 1) := by decide +kernel
theorem dX12_costOf_52 : decode cX12_costOf 52 = .ok (.iload_n 3, 1) := by decide +kernel
theorem dX12_costOf_53 : decode cX12_costOf 53 = .ok (.iload 4, 2) := by decide +kernel
theorem dX12_costOf_55 : decode cX12_costOf 55 = .ok (.invokevirtual 189, 3) := by decide +kernel
theorem dX12_costOf_58 : decode cX12_costOf 58 = .ok (.invokevirtual 217, 3) := by decide +kernel
theorem dX12_costOf_61 : decode cX12_costOf 61 = .ok (.iadd, 1) := by decide +kernel
theorem dX12_costOf_62 : decode cX12_costOf 62 = .ok (.aload_n 0, 1) := by decide +kernel
theorem dX12_costOf_63 : decode cX12_costOf 63 = .ok (.iload_n 1, 1) := by decide +kernel
theorem dX12_costOf_64 : decode cX12_costOf 64 = .ok (.aload_n 0, 1) := by decide +kernel
theorem dX12_costOf_65 : decode cX12_costOf 65 = .ok (.iload_n 1, 1) := by decide +kernel
theorem dX12_costOf_66 : decode cX12_costOf 66 = .ok (.iload_n 2, 1) := by decide +kernel
theorem dX12_costOf_67 : decode cX12_costOf 67 = .ok (.invokevirtual 192, 3) := by decide +kernel
theorem dX12_costOf_70 : decode cX12_costOf 70 = .ok (.iload_n 3, 1) := by decide +kernel
theorem dX12_costOf_71 : decode cX12_costOf 71 = .ok (.aload_n 0, 1) := by decide +kernel
theorem dX12_costOf_72 : decode cX12_costOf 72 = .ok (.iload_n 3, 1) := by decide +kernel
theorem dX12_costOf_73 : decode cX12_costOf 73 = .ok (.iload 4, 2) := by decide +kernel
theorem dX12_costOf_75 : decode cX12_costOf 75 = .ok (.invokevirtual 192, 3) := by decide +kernel
theorem dX12_costOf_78 : decode cX12_costOf 78 = .ok (.invokevirtual 217, 3) := by decide +kernel
theorem dX12_costOf_81 : decode cX12_costOf 81 = .ok (.iadd, 1) := by decide +kernel
theorem dX12_costOf_82 : decode cX12_costOf 82 = .ok (.ireturn, 1) := by decide +kernel
theorem dX12_cost_0 : decode cX12_cost 0 = .ok (.aload_n 0, 1) := by decide +kernel
theorem dX12_cost_1 : decode cX12_cost 1 = .ok (.iload_n 1, 1) := by decide +kernel
theorem dX12_cost_2 : decode cX12_cost 2 = .ok (.iload_n 2, 1) := by decide +kernel
theorem dX12_cost_3 : decode cX12_cost 3 = .ok (.invokevirtual 185, 3) := by decide +kernel
theorem dX12_cost_6 : decode cX12_cost 6 = .ok (.ifCond .eq 13, 3) := by decide +kernel
theorem dX12_cost_9 : decode cX12_cost 9 = .ok (.aload_n 0, 1) := by decide +kernel
theorem dX12_cost_10 : decode cX12_cost 10 = .ok (.iload_n 3, 1) := by decide +kernel
theorem dX12_cost_11 : decode cX12_cost 11 = .ok (.iload 4, 2) := by decide +kernel
theorem dX12_cost_13 : decode cX12_cost 13 = .ok (.invokevirtual 185, 3) := by decide +kernel
theorem dX12_cost_16 : decode cX12_cost 16 = .ok (.ifCond .ne 5, 3) := by decide +kernel
theorem dX12_cost_19 : decode cX12_cost 19 = .ok (.iconst (-1), 1) := by decide +kernel
theorem dX12_cost_20 : decode cX12_cost 20 = .ok (.ireturn, 1) := by decide +kernel
theorem dX12_cost_21 : decode cX12_cost 21 = .ok (.aload_n 0, 1) := by decide +kernel
theorem dX12_cost_22 : decode cX12_cost 22 = .ok (.iload_n 1, 1) := by decide +kernel
theorem dX12_cost_23 : decode cX12_cost 23 = .ok (.iload_n 3, 1) := by decide +kernel
theorem dX12_cost_24 : decode cX12_cost 24 = .ok (.invokevirtual 214, 3) := by decide +kernel
theorem dX12_cost_27 : decode cX12_cost 27 = .ok (.aload_n 0, 1) := by decide +kernel
theorem dX12_cost_28 : decode cX12_cost 28 = .ok (.iload_n 1, 1) := by decide +kernel
theorem dX12_cost_29 : decode cX12_cost 29 = .ok (.iload_n 2, 1) := by decide +kernel
theorem dX12_cost_30 : decode cX12_cost 30 = .ok (.iload_n 3, 1) := by decide +kernel
theorem dX12_cost_31 : decode cX12_cost 31 = .ok (.iload 4, 2) := by decide +kernel
theorem dX12_cost_33 : decode cX12_cost 33 = .ok (.invokevirtual 220, 3) := by decide +kernel
theorem dX12_cost_36 : decode cX12_cost 36 = .ok (.ireturn, 1) := by decide +kernel
theorem dX12_gap_0 : decode cX12_gap 0 = .ok (.iload_n 1, 1) := by decide +kernel
theorem dX12_gap_1 : decode cX12_gap 1 = .ok (.ifCond .lt 9, 3) := by decide +kernel
theorem dX12_gap_4 : decode cX12_gap 4 = .ok (.iload_n 1, 1) := by decide +kernel
theorem dX12_gap_5 : decode cX12_gap 5 = .ok (.bipush 100, 2) := by decide +kernel
theorem dX12_gap_7 : decode cX12_gap 7 = .ok (.if_icmp .le 5, 3) := by decide +kernel
theorem dX12_gap_10 : decode cX12_gap 10 = .ok (.iconst 0, 1) := by decide +kernel
theorem dX12_gap_11 : decode cX12_gap 11 = .ok (.ireturn, 1) := by decide +kernel
theorem dX12_gap_12 : decode cX12_gap 12 = .ok (.aload_n 0, 1) := by decide +kernel
theorem dX12_gap_13 : decode cX12_gap 13 = .ok (.iload_n 1, 1) := by decide +kernel
theorem dX12_gap_14 : decode cX12_gap 14 = .ok (.putfield 65, 3) := by decide +kernel
theorem dX12_gap_17 : decode cX12_gap 17 = .ok (.iconst 1, 1) := by decide +kernel
theorem dX12_gap_18 : decode cX12_gap 18 = .ok (.ireturn, 1) := by decide +kernel
theorem dX12_seek_0 : decode cX12_seek 0 = .ok (.aload_n 0, 1) := by decide +kernel
theorem dX12_seek_1 : decode cX12_seek 1 = .ok (.iload_n 1, 1) := by decide +kernel
theorem dX12_seek_2 : decode cX12_seek 2 = .ok (.iload_n 3, 1) := by decide +kernel
theorem dX12_seek_3 : decode cX12_seek 3 = .ok (.invokevirtual 214, 3) := by decide +kernel
theorem dX12_seek_6 : decode cX12_seek 6 = .ok (.aload_n 0, 1) := by decide +kernel
theorem dX12_seek_7 : decode cX12_seek 7 = .ok (.iconst (-1), 1) := by decide +kernel
theorem dX12_seek_8 : decode cX12_seek 8 = .ok (.putfield 223, 3) := by decide +kernel
theorem dX12_seek_11 : decode cX12_seek 11 = .ok (.aload_n 0, 1) := by decide +kernel
theorem dX12_seek_12 : decode cX12_seek 12 = .ok (.iconst (-1), 1) := by decide +kernel
theorem dX12_seek_13 : decode cX12_seek 13 = .ok (.putfield 226, 3) := by decide +kernel
theorem dX12_seek_16 : decode cX12_seek 16 = .ok (.iconst 0, 1) := by decide +kernel
theorem dX12_seek_17 : decode cX12_seek 17 = .ok (.istore 4, 2) := by decide +kernel
theorem dX12_seek_19 : decode cX12_seek 19 = .ok (.iload 4, 2) := by decide +kernel
theorem dX12_seek_21 : decode cX12_seek 21 = .ok (.aload_n 0, 1) := by decide +kernel
theorem dX12_seek_22 : decode cX12_seek 22 = .ok (.getfield 20, 3) := by decide +kernel
theorem dX12_seek_25 : decode cX12_seek 25 = .ok (.iload_n 3, 1) := by decide +kernel
theorem dX12_seek_26 : decode cX12_seek 26 = .ok (.iaload, 1) := by decide +kernel
theorem dX12_seek_27 : decode cX12_seek 27 = .ok (.if_icmp .ge 123, 3) := by decide +kernel
theorem dX12_seek_30 : decode cX12_seek 30 = .ok (.aload_n 0, 1) := by decide +kernel
theorem dX12_seek_31 : decode cX12_seek 31 = .ok (.getfield 42, 3) := by decide +kernel
theorem dX12_seek_34 : decode cX12_seek 34 = .ok (.iload_n 3, 1) := by decide +kernel
theorem dX12_seek_35 : decode cX12_seek 35 = .ok (.iload 4, 2) := by decide +kernel
theorem dX12_seek_37 : decode cX12_seek 37 = .ok (.invokestatic 151, 3) := by decide +kernel
theorem dX12_seek_40 : decode cX12_seek 40 = .ok (.laload, 1) := by decide +kernel
theorem dX12_seek_41 : decode cX12_seek 41 = .ok (.aload_n 0, 1) := by decide +kernel
theorem dX12_seek_42 : decode cX12_seek 42 = .ok (.getfield 42, 3) := by decide +kernel
theorem dX12_seek_45 : decode cX12_seek 45 = .ok (.iload_n 1, 1) := by decide +kernel
theorem dX12_seek_46 : decode cX12_seek 46 = .ok (.iload_n 2, 1) := by decide +kernel
theorem dX12_seek_47 : decode cX12_seek 47 = .ok (.invokestatic 151, 3) := by decide +kernel
theorem dX12_seek_50 : decode cX12_seek 50 = .ok (.laload, 1) := by decide +kernel
theorem dX12_seek_51 : decode cX12_seek 51 = .ok (.lcmp, 1) := by decide +kernel
theorem dX12_seek_52 : decode cX12_seek 52 = .ok (.ifCond .eq 6, 3) := by decide +kernel
theorem dX12_seek_55 : decode cX12_seek 55 = .ok (.goto 89, 3) := by decide +kernel
theorem dX12_seek_58 : decode cX12_seek 58 = .ok (.aload_n 0, 1) := by decide +kernel
theorem dX12_seek_59 : decode cX12_seek 59 = .ok (.iload_n 1, 1) := by decide +kernel
theorem dX12_seek_60 : decode cX12_seek 60 = .ok (.iload_n 2, 1) := by decide +kernel
theorem dX12_seek_61 : decode cX12_seek 61 = .ok (.iload_n 3, 1) := by decide +kernel
theorem dX12_seek_62 : decode cX12_seek 62 = .ok (.iload 4, 2) := by decide +kernel
theorem dX12_seek_64 : decode cX12_seek 64 = .ok (.invokevirtual 220, 3) := by decide +kernel
theorem dX12_seek_67 : decode cX12_seek 67 = .ok (.istore 5, 2) := by decide +kernel
theorem dX12_seek_69 : decode cX12_seek 69 = .ok (.aload_n 0, 1) := by decide +kernel
theorem dX12_seek_70 : decode cX12_seek 70 = .ok (.getfield 223, 3) := by decide +kernel
theorem dX12_seek_73 : decode cX12_seek 73 = .ok (.ifCond .lt 12, 3) := by decide +kernel
theorem dX12_seek_76 : decode cX12_seek 76 = .ok (.iload 5, 2) := by decide +kernel
theorem dX12_seek_78 : decode cX12_seek 78 = .ok (.aload_n 0, 1) := by decide +kernel
theorem dX12_seek_79 : decode cX12_seek 79 = .ok (.getfield 229, 3) := by decide +kernel
theorem dX12_seek_82 : decode cX12_seek 82 = .ok (.if_icmp .ge 34, 3) := by decide +kernel
theorem dX12_seek_85 : decode cX12_seek 85 = .ok (.aload_n 0, 1) := by decide +kernel
theorem dX12_seek_86 : decode cX12_seek 86 = .ok (.aload_n 0, 1) := by decide +kernel
theorem dX12_seek_87 : decode cX12_seek 87 = .ok (.getfield 223, 3) := by decide +kernel
theorem dX12_seek_90 : decode cX12_seek 90 = .ok (.putfield 226, 3) := by decide +kernel
theorem dX12_seek_93 : decode cX12_seek 93 = .ok (.aload_n 0, 1) := by decide +kernel
theorem dX12_seek_94 : decode cX12_seek 94 = .ok (.aload_n 0, 1) := by decide +kernel
theorem dX12_seek_95 : decode cX12_seek 95 = .ok (.getfield 229, 3) := by decide +kernel
theorem dX12_seek_98 : decode cX12_seek 98 = .ok (.putfield 232, 3) := by decide +kernel
theorem dX12_seek_101 : decode cX12_seek 101 = .ok (.aload_n 0, 1) := by decide +kernel
theorem dX12_seek_102 : decode cX12_seek 102 = .ok (.iload 4, 2) := by decide +kernel
theorem dX12_seek_104 : decode cX12_seek 104 = .ok (.putfield 223, 3) := by decide +kernel
theorem dX12_seek_107 : decode cX12_seek 107 = .ok (.aload_n 0, 1) := by decide +kernel
theorem dX12_seek_108 : decode cX12_seek 108 = .ok (.iload 5, 2) := by decide +kernel
theorem dX12_seek_110 : decode cX12_seek 110 = .ok (.putfield 229, 3) := by decide +kernel
theorem dX12_seek_113 : decode cX12_seek 113 = .ok (.goto 31, 3) := by decide +kernel
theorem dX12_seek_116 : decode cX12_seek 116 = .ok (.aload_n 0, 1) := by decide +kernel
theorem dX12_seek_117 : decode cX12_seek 117 = .ok (.getfield 226, 3) := by decide +kernel
theorem dX12_seek_120 : decode cX12_seek 120 = .ok (.ifCond .lt 12, 3) := by decide +kernel
theorem dX12_seek_123 : decode cX12_seek 123 = .ok (.iload 5, 2) := by decide +kernel
theorem dX12_seek_125 : decode cX12_seek 125 = .ok (.aload_n 0, 1) := by decide +kernel
theorem dX12_seek_126 : decode cX12_seek 126 = .ok (.getfield 232, 3) := by decide +kernel
theorem dX12_seek_129 : decode cX12_seek 129 = .ok (.if_icmp .ge 15, 3) := by decide +kernel
theorem dX12_seek_132 : decode cX12_seek 132 = .ok (.aload_n 0, 1) := by decide +kernel
theorem dX12_seek_133 : decode cX12_seek 133 = .ok (.iload 4, 2) := by decide +kernel
theorem dX12_seek_135 : decode cX12_seek 135 = .ok (.putfield 226, 3) := by decide +kernel
theorem dX12_seek_138 : decode cX12_seek 138 = .ok (.aload_n 0, 1) := by decide +kernel
theorem dX12_seek_139 : decode cX12_seek 139 = .ok (.iload 5, 2) := by decide +kernel
theorem dX12_seek_141 : decode cX12_seek 141 = .ok (.putfield 232, 3) := by decide +kernel
theorem dX12_seek_144 : decode cX12_seek 144 = .ok (.iinc 4 1, 3) := by decide +kernel
theorem dX12_seek_147 : decode cX12_seek 147 = .ok (.goto (-128), 3) := by decide +kernel
theorem dX12_seek_150 : decode cX12_seek 150 = .ok (.aload_n 0, 1) := by decide +kernel
theorem dX12_seek_151 : decode cX12_seek 151 = .ok (.getfield 223, 3) := by decide +kernel
theorem dX12_seek_154 : decode cX12_seek 154 = .ok (.ifCond .ge 6, 3) := by decide +kernel
theorem dX12_seek_157 : decode cX12_seek 157 = .ok (.bipush (-2), 2) := by decide +kernel
theorem dX12_seek_159 : decode cX12_seek 159 = .ok (.ireturn, 1) := by decide +kernel
theorem dX12_seek_160 : decode cX12_seek 160 = .ok (.aload_n 0, 1) := by decide +kernel
theorem dX12_seek_161 : decode cX12_seek 161 = .ok (.getfield 226, 3) := by decide +kernel
theorem dX12_seek_164 : decode cX12_seek 164 = .ok (.ifCond .lt 19, 3) := by decide +kernel
theorem dX12_seek_167 : decode cX12_seek 167 = .ok (.aload_n 0, 1) := by decide +kernel
theorem dX12_seek_168 : decode cX12_seek 168 = .ok (.getfield 232, 3) := by decide +kernel
theorem dX12_seek_171 : decode cX12_seek 171 = .ok (.aload_n 0, 1) := by decide +kernel
theorem dX12_seek_172 : decode cX12_seek 172 = .ok (.getfield 229, 3) := by decide +kernel
theorem dX12_seek_175 : decode cX12_seek 175 = .ok (.isub, 1) := by decide +kernel
theorem dX12_seek_176 : decode cX12_seek 176 = .ok (.aload_n 0, 1) := by decide +kernel
theorem dX12_seek_177 : decode cX12_seek 177 = .ok (.getfield 65, 3) := by decide +kernel
theorem dX12_seek_180 : decode cX12_seek 180 = .ok (.if_icmp .lt 7, 3) := by decide +kernel
theorem dX12_seek_183 : decode cX12_seek 183 = .ok (.iconst 1, 1) := by decide +kernel
theorem dX12_seek_184 : decode cX12_seek 184 = .ok (.goto 4, 3) := by decide +kernel
theorem dX12_seek_187 : decode cX12_seek 187 = .ok (.iconst 0, 1) := by decide +kernel
theorem dX12_seek_188 : decode cX12_seek 188 = .ok (.ireturn, 1) := by decide +kernel
theorem dX12_find_0 : decode cX12_find 0 = .ok (.aload_n 0, 1) := by decide +kernel
theorem dX12_find_1 : decode cX12_find 1 = .ok (.iload_n 1, 1) := by decide +kernel
theorem dX12_find_2 : decode cX12_find 2 = .ok (.iload_n 2, 1) := by decide +kernel
theorem dX12_find_3 : decode cX12_find 3 = .ok (.invokevirtual 185, 3) := by decide +kernel
theorem dX12_find_6 : decode cX12_find 6 = .ok (.ifCond .eq 11, 3) := by decide +kernel
theorem dX12_find_9 : decode cX12_find 9 = .ok (.aload_n 0, 1) := by decide +kernel
theorem dX12_find_10 : decode cX12_find 10 = .ok (.iload_n 3, 1) := by decide +kernel
theorem dX12_find_11 : decode cX12_find 11 = .ok (.invokevirtual 235, 3) := by decide +kernel
theorem dX12_find_14 : decode cX12_find 14 = .ok (.ifCond .ne 5, 3) := by decide +kernel
theorem dX12_find_17 : decode cX12_find 17 = .ok (.iconst (-1), 1) := by decide +kernel
theorem dX12_find_18 : decode cX12_find 18 = .ok (.ireturn, 1) := by decide +kernel
theorem dX12_find_19 : decode cX12_find 19 = .ok (.aload_n 0, 1) := by decide +kernel
theorem dX12_find_20 : decode cX12_find 20 = .ok (.iload_n 1, 1) := by decide +kernel
theorem dX12_find_21 : decode cX12_find 21 = .ok (.iload_n 2, 1) := by decide +kernel
theorem dX12_find_22 : decode cX12_find 22 = .ok (.iload_n 3, 1) := by decide +kernel
theorem dX12_find_23 : decode cX12_find 23 = .ok (.invokevirtual 238, 3) := by decide +kernel
theorem dX12_find_26 : decode cX12_find 26 = .ok (.istore 4, 2) := by decide +kernel
theorem dX12_find_28 : decode cX12_find 28 = .ok (.iload 4, 2) := by decide +kernel
theorem dX12_find_30 : decode cX12_find 30 = .ok (.ifCond .ge 6, 3) := by decide +kernel
theorem dX12_find_33 : decode cX12_find 33 = .ok (.iload 4, 2) := by decide +kernel
theorem dX12_find_35 : decode cX12_find 35 = .ok (.ireturn, 1) := by decide +kernel
theorem dX12_find_36 : decode cX12_find 36 = .ok (.aload_n 0, 1) := by decide +kernel
theorem dX12_find_37 : decode cX12_find 37 = .ok (.iconst 1, 1) := by decide +kernel
theorem dX12_find_38 : decode cX12_find 38 = .ok (.putfield 242, 3) := by decide +kernel
theorem dX12_find_41 : decode cX12_find 41 = .ok (.aload_n 0, 1) := by decide +kernel
theorem dX12_find_42 : decode cX12_find 42 = .ok (.aload_n 0, 1) := by decide +kernel
theorem dX12_find_43 : decode cX12_find 43 = .ok (.getfield 223, 3) := by decide +kernel
theorem dX12_find_46 : decode cX12_find 46 = .ok (.putfield 246, 3) := by decide +kernel
theorem dX12_find_49 : decode cX12_find 49 = .ok (.aload_n 0, 1) := by decide +kernel
theorem dX12_find_50 : decode cX12_find 50 = .ok (.aload_n 0, 1) := by decide +kernel
theorem dX12_find_51 : decode cX12_find 51 = .ok (.getfield 226, 3) := by decide +kernel
theorem dX12_find_54 : decode cX12_find 54 = .ok (.putfield 249, 3) := by decide +kernel
theorem dX12_find_57 : decode cX12_find 57 = .ok (.aload_n 0, 1) := by decide +kernel
theorem dX12_find_58 : decode cX12_find 58 = .ok (.aload_n 0, 1) := by decide +kernel
theorem dX12_find_59 : decode cX12_find 59 = .ok (.getfield 229, 3) := by decide +kernel
theorem dX12_find_62 : decode cX12_find 62 = .ok (.putfield 252, 3) := by decide +kernel
theorem dX12_find_65 : decode cX12_find 65 = .ok (.aload_n 0, 1) := by decide +kernel
theorem dX12_find_66 : decode cX12_find 66 = .ok (.aload_n 0, 1) := by decide +kernel
theorem dX12_find_67 : decode cX12_find 67 = .ok (.getfield 226, 3) := by decide +kernel
theorem dX12_find_70 : decode cX12_find 70 = .ok (.ifCond .ge 7, 3) := by decide +kernel
theorem dX12_find_73 : decode cX12_find 73 = .ok (.iconst (-1), 1) := by decide +kernel
theorem dX12_find_74 : decode cX12_find 74 = .ok (.goto 7, 3) := by decide +kernel
theorem dX12_find_77 : decode cX12_find 77 = .ok (.aload_n 0, 1) := by decide +kernel
theorem dX12_find_78 : decode cX12_find 78 = .ok (.getfield 232, 3) := by decide +kernel
theorem dX12_find_81 : decode cX12_find 81 = .ok (.putfield 255, 3) := by decide +kernel
theorem dX12_find_84 : decode cX12_find 84 = .ok (.iload 4, 2) := by decide +kernel
theorem dX12_find_86 : decode cX12_find 86 = .ok (.ireturn, 1) := by decide +kernel
theorem dX12_found_0 : decode cX12_found 0 = .ok (.aload_n 0, 1) := by decide +kernel
theorem dX12_found_1 : decode cX12_found 1 = .ok (.getfield 242, 3) := by decide +kernel
theorem dX12_found_4 : decode cX12_found 4 = .ok (.ifCond .ne 7, 3) := by decide +kernel
theorem dX12_found_7 : decode cX12_found 7 = .ok (.iconst (-1), 1) := by decide +kernel
theorem dX12_found_8 : decode cX12_found 8 = .ok (.goto 51, 3) := by decide +kernel
theorem dX12_found_11 : decode cX12_found 11 = .ok (.iload_n 1, 1) := by decide +kernel
theorem dX12_found_12 : decode cX12_found 12 = .ok (.ifCond .ne 10, 3) := by decide +kernel
theorem dX12_found_15 : decode cX12_found 15 = .ok (.aload_n 0, 1) := by decide +kernel
theorem dX12_found_16 : decode cX12_found 16 = .ok (.getfield 246, 3) := by decide +kernel
theorem dX12_found_19 : decode cX12_found 19 = .ok (.goto 40, 3) := by decide +kernel
theorem dX12_found_22 : decode cX12_found 22 = .ok (.iload_n 1, 1) := by decide +kernel
theorem dX12_found_23 : decode cX12_found 23 = .ok (.iconst 1, 1) := by decide +kernel
theorem dX12_found_24 : decode cX12_found 24 = .ok (.if_icmp .ne 10, 3) := by decide +kernel
theorem dX12_found_27 : decode cX12_found 27 = .ok (.aload_n 0, 1) := by decide +kernel
theorem dX12_found_28 : decode cX12_found 28 = .ok (.getfield 249, 3) := by decide +kernel
theorem dX12_found_31 : decode cX12_found 31 = .ok (.goto 28, 3) := by decide +kernel
theorem dX12_found_34 : decode cX12_found 34 = .ok (.iload_n 1, 1) := by decide +kernel
theorem dX12_found_35 : decode cX12_found 35 = .ok (.iconst 2, 1) := by decide +kernel
theorem dX12_found_36 : decode cX12_found 36 = .ok (.if_icmp .ne 10, 3) := by decide +kernel
theorem dX12_found_39 : decode cX12_found 39 = .ok (.aload_n 0, 1) := by decide +kernel
theorem dX12_found_40 : decode cX12_found 40 = .ok (.getfield 252, 3) := by decide +kernel
theorem dX12_found_43 : decode cX12_found 43 = .ok (.goto 16, 3) := by decide +kernel
theorem dX12_found_46 : decode cX12_found 46 = .ok (.iload_n 1, 1) := by decide +kernel
theorem dX12_found_47 : decode cX12_found 47 = .ok (.iconst 3, 1) := by decide +kernel
theorem dX12_found_48 : decode cX12_found 48 = .ok (.if_icmp .ne 10, 3) := by decide +kernel
theorem dX12_found_51 : decode cX12_found 51 = .ok (.aload_n 0, 1) := by decide +kernel
theorem dX12_found_52 : decode cX12_found 52 = .ok (.getfield 255, 3) := by decide +kernel
theorem dX12_found_55 : decode cX12_found 55 = .ok (.goto 4, 3) := by decide +kernel
theorem dX12_found_58 : decode cX12_found 58 = .ok (.iconst (-1), 1) := by decide +kernel
theorem dX12_found_59 : decode cX12_found 59 = .ok (.ireturn, 1) := by decide +kernel
theorem dX12_arePaths_0 : decode cX12_arePaths 0 = .ok (.iload_n 2, 1) := by decide +kernel
theorem dX12_arePaths_1 : decode cX12_arePaths 1 = .ok (.istore 5, 2) := by decide +kernel
theorem dX12_arePaths_3 : decode cX12_arePaths 3 = .ok (.iload 4, 2) := by decide +kernel
theorem dX12_arePaths_5 : decode cX12_arePaths 5 = .ok (.istore 6, 2) := by decide +kernel
theorem dX12_arePaths_7 : decode cX12_arePaths 7 = .ok (.iload 5, 2) := by decide +kernel
theorem dX12_arePaths_9 : decode cX12_arePaths 9 = .ok (.ifCond .lt 90, 3) := by decide +kernel
theorem dX12_arePaths_12 : decode cX12_arePaths 12 = .ok (.iload 6, 2) := by decide +kernel
theorem dX12_arePaths_14 : decode cX12_arePaths 14 = .ok (.ifCond .lt 85, 3) := by decide +kernel
theorem dX12_arePaths_17 : decode cX12_arePaths 17 = .ok (.aload_n 0, 1) := by decide +kernel
theorem dX12_arePaths_18 : decode cX12_arePaths 18 = .ok (.getfield 42, 3) := by decide +kernel
theorem dX12_arePaths_21 : decode cX12_arePaths 21 = .ok (.iload_n 1, 1) := by decide +kernel
theorem dX12_arePaths_22 : decode cX12_arePaths 22 = .ok (.iload 5, 2) := by decide +kernel
theorem dX12_arePaths_24 : decode cX12_arePaths 24 = .ok (.invokestatic 151, 3) := by decide +kernel
theorem dX12_arePaths_27 : decode cX12_arePaths 27 = .ok (.laload, 1) := by decide +kernel
theorem dX12_arePaths_28 : decode cX12_arePaths 28 = .ok (.aload_n 0, 1) := by decide +kernel
theorem dX12_arePaths_29 : decode cX12_arePaths 29 = .ok (.getfield 42, 3) := by decide +kernel
theorem dX12_arePaths_32 : decode cX12_arePaths 32 = .ok (.iload_n 3, 1) := by decide +kernel
theorem dX12_arePaths_33 : decode cX12_arePaths 33 = .ok (.iload 6, 2) := by decide +kernel
theorem dX12_arePaths_35 : decode cX12_arePaths 35 = .ok (.invokestatic 151, 3) := by decide +kernel
theorem dX12_arePaths_38 : decode cX12_arePaths 38 = .ok (.laload, 1) := by decide +kernel
theorem dX12_arePaths_39 : decode cX12_arePaths 39 = .ok (.lcmp, 1) := by decide +kernel
theorem dX12_arePaths_40 : decode cX12_arePaths 40 = .ok (.ifCond .ne 28, 3) := by decide +kernel
theorem dX12_arePaths_43 : decode cX12_arePaths 43 = .ok (.aload_n 0, 1) := by decide +kernel
theorem dX12_arePaths_44 : decode cX12_arePaths 44 = .ok (.getfield 30, 3) := by decide +kernel
theorem dX12_arePaths_47 : decode cX12_arePaths 47 = .ok (.iload_n 1, 1) := by decide +kernel
theorem dX12_arePaths_48 : decode cX12_arePaths 48 = .ok (.iload 5, 2) := by decide +kernel
theorem dX12_arePaths_50 : decode cX12_arePaths 50 = .ok (.invokestatic 151, 3) := by decide +kernel
theorem dX12_arePaths_53 : decode cX12_arePaths 53 = .ok (.iaload, 1) := by decide +kernel
theorem dX12_arePaths_54 : decode cX12_arePaths 54 = .ok (.aload_n 0, 1) := by decide +kernel
theorem dX12_arePaths_55 : decode cX12_arePaths 55 = .ok (.getfield 30, 3) := by decide +kernel
theorem dX12_arePaths_58 : decode cX12_arePaths 58 = .ok (.iload_n 3, 1) := by decide +kernel
theorem dX12_arePaths_59 : decode cX12_arePaths 59 = .ok (.iload 6, 2) := by decide +kernel
theorem dX12_arePaths_61 : decode cX12_arePaths 61 = .ok (.invokestatic 151, 3) := by decide +kernel
theorem dX12_arePaths_64 : decode cX12_arePaths 64 = .ok (.iaload, 1) := by decide +kernel
theorem dX12_arePaths_65 : decode cX12_arePaths 65 = .ok (.if_icmp .eq 5, 3) := by decide +kernel
theorem dX12_arePaths_68 : decode cX12_arePaths 68 = .ok (.iconst 0, 1) := by decide +kernel
theorem dX12_arePaths_69 : decode cX12_arePaths 69 = .ok (.ireturn, 1) := by decide +kernel
theorem dX12_arePaths_70 : decode cX12_arePaths 70 = .ok (.aload_n 0, 1) := by decide +kernel
theorem dX12_arePaths_71 : decode cX12_arePaths 71 = .ok (.getfield 24, 3) := by decide +kernel
theorem dX12_arePaths_74 : decode cX12_arePaths 74 = .ok (.iload_n 1, 1) := by decide +kernel
theorem dX12_arePaths_75 : decode cX12_arePaths 75 = .ok (.iload 5, 2) := by decide +kernel
theorem dX12_arePaths_77 : decode cX12_arePaths 77 = .ok (.invokestatic 151, 3) := by decide +kernel
theorem dX12_arePaths_80 : decode cX12_arePaths 80 = .ok (.iaload, 1) := by decide +kernel
theorem dX12_arePaths_81 : decode cX12_arePaths 81 = .ok (.istore 5, 2) := by decide +kernel
theorem dX12_arePaths_83 : decode cX12_arePaths 83 = .ok (.aload_n 0, 1) := by decide +kernel
theorem dX12_arePaths_84 : decode cX12_arePaths 84 = .ok (.getfield 24, 3) := by decide +kernel
theorem dX12_arePaths_87 : decode cX12_arePaths 87 = .ok (.iload_n 3, 1) := by decide +kernel
theorem dX12_arePaths_88 : decode cX12_arePaths 88 = .ok (.iload 6, 2) := by decide +kernel
theorem dX12_arePaths_90 : decode cX12_arePaths 90 = .ok (.invokestatic 151, 3) := by decide +kernel
theorem dX12_arePaths_93 : decode cX12_arePaths 93 = .ok (.iaload, 1) := by decide +kernel
theorem dX12_arePaths_94 : decode cX12_arePaths 94 = .ok (.istore 6, 2) := by decide +kernel
theorem dX12_arePaths_96 : decode cX12_arePaths 96 = .ok (.goto (-89), 3) := by decide +kernel
theorem dX12_arePaths_99 : decode cX12_arePaths 99 = .ok (.iload 5, 2) := by decide +kernel
theorem dX12_arePaths_101 : decode cX12_arePaths 101 = .ok (.ifCond .ge 12, 3) := by decide +kernel
theorem dX12_arePaths_104 : decode cX12_arePaths 104 = .ok (.iload 6, 2) := by decide +kernel
theorem dX12_arePaths_106 : decode cX12_arePaths 106 = .ok (.ifCond .ge 7, 3) := by decide +kernel
theorem dX12_arePaths_109 : decode cX12_arePaths 109 = .ok (.iconst 1, 1) := by decide +kernel
theorem dX12_arePaths_110 : decode cX12_arePaths 110 = .ok (.goto 4, 3) := by decide +kernel
theorem dX12_arePaths_113 : decode cX12_arePaths 113 = .ok (.iconst 0, 1) := by decide +kernel
theorem dX12_arePaths_114 : decode cX12_arePaths 114 = .ok (.ireturn, 1) := by decide +kernel
theorem dX12_areLabels_0 : decode cX12_areLabels 0 = .ok (.aload_n 0, 1) := by decide +kernel
theorem dX12_areLabels_1 : decode cX12_areLabels 1 = .ok (.iload_n 1, 1) := by decide +kernel
theorem dX12_areLabels_2 : decode cX12_areLabels 2 = .ok (.iload_n 2, 1) := by decide +kernel
theorem dX12_areLabels_3 : decode cX12_areLabels 3 = .ok (.invokevirtual 195, 3) := by decide +kernel
theorem dX12_areLabels_6 : decode cX12_areLabels 6 = .ok (.istore 5, 2) := by decide +kernel
theorem dX12_areLabels_8 : decode cX12_areLabels 8 = .ok (.aload_n 0, 1) := by decide +kernel
theorem dX12_areLabels_9 : decode cX12_areLabels 9 = .ok (.iload_n 3, 1) := by decide +kernel
theorem dX12_areLabels_10 : decode cX12_areLabels 10 = .ok (.iload 4, 2) := by decide +kernel
theorem dX12_areLabels_12 : decode cX12_areLabels 12 = .ok (.invokevirtual 195, 3) := by decide +kernel
theorem dX12_areLabels_15 : decode cX12_areLabels 15 = .ok (.istore 6, 2) := by decide +kernel
theorem dX12_areLabels_17 : decode cX12_areLabels 17 = .ok (.iload 5, 2) := by decide +kernel
theorem dX12_areLabels_19 : decode cX12_areLabels 19 = .ok (.ifCond .lt 8, 3) := by decide +kernel
theorem dX12_areLabels_22 : decode cX12_areLabels 22 = .ok (.iload 6, 2) := by decide +kernel
theorem dX12_areLabels_24 : decode cX12_areLabels 24 = .ok (.ifCond .ge 21, 3) := by decide +kernel
theorem dX12_areLabels_27 : decode cX12_areLabels 27 = .ok (.iload 5, 2) := by decide +kernel
theorem dX12_areLabels_29 : decode cX12_areLabels 29 = .ok (.ifCond .ge 12, 3) := by decide +kernel
theorem dX12_areLabels_32 : decode cX12_areLabels 32 = .ok (.iload 6, 2) := by decide +kernel
theorem dX12_areLabels_34 : decode cX12_areLabels 34 = .ok (.ifCond .ge 7, 3) := by decide +kernel
theorem dX12_areLabels_37 : decode cX12_areLabels 37 = .ok (.iconst 1, 1) := by decide +kernel
theorem dX12_areLabels_38 : decode cX12_areLabels 38 = .ok (.goto 23, 3) := by decide +kernel
theorem dX12_areLabels_41 : decode cX12_areLabels 41 = .ok (.iconst 0, 1) := by decide +kernel
theorem dX12_areLabels_42 : decode cX12_areLabels 42 = .ok (.goto 19, 3) := by decide +kernel
theorem dX12_areLabels_45 : decode cX12_areLabels 45 = .ok (.aload_n 0, 1) := by decide +kernel
theorem dX12_areLabels_46 : decode cX12_areLabels 46 = .ok (.iload_n 1, 1) := by decide +kernel
theorem dX12_areLabels_47 : decode cX12_areLabels 47 = .ok (.iload 5, 2) := by decide +kernel
theorem dX12_areLabels_49 : decode cX12_areLabels 49 = .ok (.invokestatic 151, 3) := by decide +kernel
theorem dX12_areLabels_52 : decode cX12_areLabels 52 = .ok (.iload_n 3, 1) := by decide +kernel
theorem dX12_areLabels_53 : decode cX12_areLabels 53 = .ok (.iload 6, 2) := by decide +kernel
theorem dX12_areLabels_55 : decode cX12_areLabels 55 = .ok (.invokestatic 151, 3) := by decide +kernel
theorem dX12_areLabels_58 : decode cX12_areLabels 58 = .ok (.invokevirtual 204, 3) := by decide +kernel
theorem dX12_areLabels_61 : decode cX12_areLabels 61 = .ok (.ireturn, 1) := by decide +kernel
theorem dX12_kindAbove_0 : decode cX12_kindAbove 0 = .ok (.aload_n 0, 1) := by decide +kernel
theorem dX12_kindAbove_1 : decode cX12_kindAbove 1 = .ok (.getfield 24, 3) := by decide +kernel
theorem dX12_kindAbove_4 : decode cX12_kindAbove 4 = .ok (.iload_n 1, 1) := by decide +kernel
theorem dX12_kindAbove_5 : decode cX12_kindAbove 5 = .ok (.iload_n 2, 1) := by decide +kernel
theorem dX12_kindAbove_6 : decode cX12_kindAbove 6 = .ok (.invokestatic 151, 3) := by decide +kernel
theorem dX12_kindAbove_9 : decode cX12_kindAbove 9 = .ok (.iaload, 1) := by decide +kernel
theorem dX12_kindAbove_10 : decode cX12_kindAbove 10 = .ok (.ifCond .ge 7, 3) := by decide +kernel
theorem dX12_kindAbove_13 : decode cX12_kindAbove 13 = .ok (.lconst 0, 1) := by decide +kernel
theorem dX12_kindAbove_14 : decode cX12_kindAbove 14 = .ok (.goto 22, 3) := by decide +kernel
theorem dX12_kindAbove_17 : decode cX12_kindAbove 17 = .ok (.aload_n 0, 1) := by decide +kernel
theorem dX12_kindAbove_18 : decode cX12_kindAbove 18 = .ok (.getfield 42, 3) := by decide +kernel
theorem dX12_kindAbove_21 : decode cX12_kindAbove 21 = .ok (.iload_n 1, 1) := by decide +kernel
theorem dX12_kindAbove_22 : decode cX12_kindAbove 22 = .ok (.aload_n 0, 1) := by decide +kernel
theorem dX12_kindAbove_23 : decode cX12_kindAbove 23 = .ok (.getfield 24, 3) := by decide +kernel
theorem dX12_kindAbove_26 : decode cX12_kindAbove 26 = .ok (.iload_n 1, 1) := by decide +kernel
theorem dX12_kindAbove_27 : decode cX12_kindAbove 27 = .ok (.iload_n 2, 1) := by decide +kernel
theorem dX12_kindAbove_28 : decode cX12_kindAbove 28 = .ok (.invokestatic 151, 3) := by decide +kernel
theorem dX12_kindAbove_31 : decode cX12_kindAbove 31 = .ok (.iaload, 1) := by decide +kernel
theorem dX12_kindAbove_32 : decode cX12_kindAbove 32 = .ok (.invokestatic 151, 3) := by decide +kernel
theorem dX12_kindAbove_35 : decode cX12_kindAbove 35 = .ok (.laload, 1) := by decide +kernel
theorem dX12_kindAbove_36 : decode cX12_kindAbove 36 = .ok (.lreturn, 1) := by decide +kernel
theorem dX12_titleAbove_0 : decode cX12_titleAbove 0 = .ok (.aload_n 0, 1) := by decide +kernel
theorem dX12_titleAbove_1 : decode cX12_titleAbove 1 = .ok (.getfield 24, 3) := by decide +kernel
theorem dX12_titleAbove_4 : decode cX12_titleAbove 4 = .ok (.iload_n 1, 1) := by decide +kernel
theorem dX12_titleAbove_5 : decode cX12_titleAbove 5 = .ok (.iload_n 2, 1) := by decide +kernel
theorem dX12_titleAbove_6 : decode cX12_titleAbove 6 = .ok (.invokestatic 151, 3) := by decide +kernel
theorem dX12_titleAbove_9 : decode cX12_titleAbove 9 = .ok (.iaload, 1) := by decide +kernel
theorem dX12_titleAbove_10 : decode cX12_titleAbove 10 = .ok (.ifCond .ge 7, 3) := by decide +kernel
theorem dX12_titleAbove_13 : decode cX12_titleAbove 13 = .ok (.lconst 0, 1) := by decide +kernel
theorem dX12_titleAbove_14 : decode cX12_titleAbove 14 = .ok (.goto 22, 3) := by decide +kernel
theorem dX12_titleAbove_17 : decode cX12_titleAbove 17 = .ok (.aload_n 0, 1) := by decide +kernel
theorem dX12_titleAbove_18 : decode cX12_titleAbove 18 = .ok (.getfield 46, 3) := by decide +kernel
theorem dX12_titleAbove_21 : decode cX12_titleAbove 21 = .ok (.iload_n 1, 1) := by decide +kernel
theorem dX12_titleAbove_22 : decode cX12_titleAbove 22 = .ok (.aload_n 0, 1) := by decide +kernel
theorem dX12_titleAbove_23 : decode cX12_titleAbove 23 = .ok (.getfield 24, 3) := by decide +kernel
theorem dX12_titleAbove_26 : decode cX12_titleAbove 26 = .ok (.iload_n 1, 1) := by decide +kernel
theorem dX12_titleAbove_27 : decode cX12_titleAbove 27 = .ok (.iload_n 2, 1) := by decide +kernel
theorem dX12_titleAbove_28 : decode cX12_titleAbove 28 = .ok (.invokestatic 151, 3) := by decide +kernel
theorem dX12_titleAbove_31 : decode cX12_titleAbove 31 = .ok (.iaload, 1) := by decide +kernel
theorem dX12_titleAbove_32 : decode cX12_titleAbove 32 = .ok (.invokestatic 151, 3) := by decide +kernel
theorem dX12_titleAbove_35 : decode cX12_titleAbove 35 = .ok (.laload, 1) := by decide +kernel
theorem dX12_titleAbove_36 : decode cX12_titleAbove 36 = .ok (.lreturn, 1) := by decide +kernel
theorem dX12_alike_0 : decode cX12_alike 0 = .ok (.iload_n 1, 1) := by decide +kernel
theorem dX12_alike_1 : decode cX12_alike 1 = .ok (.iload_n 2, 1) := by decide +kernel
theorem dX12_alike_2 : decode cX12_alike 2 = .ok (.invokestatic 151, 3) := by decide +kernel
theorem dX12_alike_5 : decode cX12_alike 5 = .ok (.istore 5, 2) := by decide +kernel
theorem dX12_alike_7 : decode cX12_alike 7 = .ok (.iload_n 3, 1) := by decide +kernel
theorem dX12_alike_8 : decode cX12_alike 8 = .ok (.iload 4, 2) := by decide +kernel
theorem dX12_alike_10 : decode cX12_alike 10 = .ok (.invokestatic 151, 3) := by decide +kernel
theorem dX12_alike_13 : decode cX12_alike 13 = .ok (.istore 6, 2) := by decide +kernel
theorem dX12_alike_15 : decode cX12_alike 15 = .ok (.aload_n 0, 1) := by decide +kernel
theorem dX12_alike_16 : decode cX12_alike 16 = .ok (.getfield 46, 3) := by decide +kernel
theorem dX12_alike_19 : decode cX12_alike 19 = .ok (.iload 5, 2) := by decide +kernel
theorem dX12_alike_21 : decode cX12_alike 21 = .ok (.laload, 1) := by decide +kernel
theorem dX12_alike_22 : decode cX12_alike 22 = .ok (.aload_n 0, 1) := by decide +kernel
theorem dX12_alike_23 : decode cX12_alike 23 = .ok (.getfield 46, 3) := by decide +kernel
theorem dX12_alike_26 : decode cX12_alike 26 = .ok (.iload 6, 2) := by decide +kernel
theorem dX12_alike_28 : decode cX12_alike 28 = .ok (.laload, 1) := by decide +kernel
theorem dX12_alike_29 : decode cX12_alike 29 = .ok (.lcmp, 1) := by decide +kernel
theorem dX12_alike_30 : decode cX12_alike 30 = .ok (.ifCond .ne 7, 3) := by decide +kernel
theorem dX12_alike_33 : decode cX12_alike 33 = .ok (.iconst 1, 1) := by decide +kernel
theorem dX12_alike_34 : decode cX12_alike 34 = .ok (.goto 4, 3) := by decide +kernel
theorem dX12_alike_37 : decode cX12_alike 37 = .ok (.iconst 0, 1) := by decide +kernel
theorem dX12_alike_38 : decode cX12_alike 38 = .ok (.istore 7, 2) := by decide +kernel
theorem dX12_alike_40 : decode cX12_alike 40 = .ok (.iload 7, 2) := by decide +kernel
theorem dX12_alike_42 : decode cX12_alike 42 = .ok (.aload_n 0, 1) := by decide +kernel
theorem dX12_alike_43 : decode cX12_alike 43 = .ok (.iload 5, 2) := by decide +kernel
theorem dX12_alike_45 : decode cX12_alike 45 = .ok (.iload 6, 2) := by decide +kernel
theorem dX12_alike_47 : decode cX12_alike 47 = .ok (.invokevirtual 204, 3) := by decide +kernel
theorem dX12_alike_50 : decode cX12_alike 50 = .ok (.ifCond .eq 7, 3) := by decide +kernel
theorem dX12_alike_53 : decode cX12_alike 53 = .ok (.iconst 2, 1) := by decide +kernel
theorem dX12_alike_54 : decode cX12_alike 54 = .ok (.goto 4, 3) := by decide +kernel
theorem dX12_alike_57 : decode cX12_alike 57 = .ok (.iconst 0, 1) := by decide +kernel
theorem dX12_alike_58 : decode cX12_alike 58 = .ok (.ior, 1) := by decide +kernel
theorem dX12_alike_59 : decode cX12_alike 59 = .ok (.istore 7, 2) := by decide +kernel
theorem dX12_alike_61 : decode cX12_alike 61 = .ok (.iload 7, 2) := by decide +kernel
theorem dX12_alike_63 : decode cX12_alike 63 = .ok (.aload_n 0, 1) := by decide +kernel
theorem dX12_alike_64 : decode cX12_alike 64 = .ok (.getfield 42, 3) := by decide +kernel
theorem dX12_alike_67 : decode cX12_alike 67 = .ok (.iload 5, 2) := by decide +kernel
theorem dX12_alike_69 : decode cX12_alike 69 = .ok (.laload, 1) := by decide +kernel
theorem dX12_alike_70 : decode cX12_alike 70 = .ok (.aload_n 0, 1) := by decide +kernel
theorem dX12_alike_71 : decode cX12_alike 71 = .ok (.getfield 42, 3) := by decide +kernel
theorem dX12_alike_74 : decode cX12_alike 74 = .ok (.iload 6, 2) := by decide +kernel
theorem dX12_alike_76 : decode cX12_alike 76 = .ok (.laload, 1) := by decide +kernel
theorem dX12_alike_77 : decode cX12_alike 77 = .ok (.lcmp, 1) := by decide +kernel
theorem dX12_alike_78 : decode cX12_alike 78 = .ok (.ifCond .ne 7, 3) := by decide +kernel
theorem dX12_alike_81 : decode cX12_alike 81 = .ok (.iconst 4, 1) := by decide +kernel
theorem dX12_alike_82 : decode cX12_alike 82 = .ok (.goto 4, 3) := by decide +kernel
theorem dX12_alike_85 : decode cX12_alike 85 = .ok (.iconst 0, 1) := by decide +kernel
theorem dX12_alike_86 : decode cX12_alike 86 = .ok (.ior, 1) := by decide +kernel
theorem dX12_alike_87 : decode cX12_alike 87 = .ok (.istore 7, 2) := by decide +kernel
theorem dX12_alike_89 : decode cX12_alike 89 = .ok (.iload 7, 2) := by decide +kernel
theorem dX12_alike_91 : decode cX12_alike 91 = .ok (.aload_n 0, 1) := by decide +kernel
theorem dX12_alike_92 : decode cX12_alike 92 = .ok (.getfield 30, 3) := by decide +kernel
theorem dX12_alike_95 : decode cX12_alike 95 = .ok (.iload 5, 2) := by decide +kernel
theorem dX12_alike_97 : decode cX12_alike 97 = .ok (.iaload, 1) := by decide +kernel
theorem dX12_alike_98 : decode cX12_alike 98 = .ok (.aload_n 0, 1) := by decide +kernel
theorem dX12_alike_99 : decode cX12_alike 99 = .ok (.getfield 30, 3) := by decide +kernel
theorem dX12_alike_102 : decode cX12_alike 102 = .ok (.iload 6, 2) := by decide +kernel
theorem dX12_alike_104 : decode cX12_alike 104 = .ok (.iaload, 1) := by decide +kernel
theorem dX12_alike_105 : decode cX12_alike 105 = .ok (.if_icmp .ne 8, 3) := by decide +kernel
theorem dX12_alike_108 : decode cX12_alike 108 = .ok (.bipush 8, 2) := by decide +kernel
theorem dX12_alike_110 : decode cX12_alike 110 = .ok (.goto 4, 3) := by decide +kernel
theorem dX12_alike_113 : decode cX12_alike 113 = .ok (.iconst 0, 1) := by decide +kernel
theorem dX12_alike_114 : decode cX12_alike 114 = .ok (.ior, 1) := by decide +kernel
theorem dX12_alike_115 : decode cX12_alike 115 = .ok (.istore 7, 2) := by decide +kernel
theorem dX12_alike_117 : decode cX12_alike 117 = .ok (.iload 7, 2) := by decide +kernel
theorem dX12_alike_119 : decode cX12_alike 119 = .ok (.aload_n 0, 1) := by decide +kernel
theorem dX12_alike_120 : decode cX12_alike 120 = .ok (.iload_n 1, 1) := by decide +kernel
theorem dX12_alike_121 : decode cX12_alike 121 = .ok (.iload_n 2, 1) := by decide +kernel
theorem dX12_alike_122 : decode cX12_alike 122 = .ok (.invokevirtual 258, 3) := by decide +kernel
theorem dX12_alike_125 : decode cX12_alike 125 = .ok (.aload_n 0, 1) := by decide +kernel
theorem dX12_alike_126 : decode cX12_alike 126 = .ok (.iload_n 3, 1) := by decide +kernel
theorem dX12_alike_127 : decode cX12_alike 127 = .ok (.iload 4, 2) := by decide +kernel
theorem dX12_alike_129 : decode cX12_alike 129 = .ok (.invokevirtual 258, 3) := by decide +kernel
theorem dX12_alike_132 : decode cX12_alike 132 = .ok (.lcmp, 1) := by decide +kernel
theorem dX12_alike_133 : decode cX12_alike 133 = .ok (.ifCond .ne 8, 3) := by decide +kernel
theorem dX12_alike_136 : decode cX12_alike 136 = .ok (.bipush 16, 2) := by decide +kernel
theorem dX12_alike_138 : decode cX12_alike 138 = .ok (.goto 4, 3) := by decide +kernel
theorem dX12_alike_141 : decode cX12_alike 141 = .ok (.iconst 0, 1) := by decide +kernel
theorem dX12_alike_142 : decode cX12_alike 142 = .ok (.ior, 1) := by decide +kernel
theorem dX12_alike_143 : decode cX12_alike 143 = .ok (.istore 7, 2) := by decide +kernel
theorem dX12_alike_145 : decode cX12_alike 145 = .ok (.iload 7, 2) := by decide +kernel
theorem dX12_alike_147 : decode cX12_alike 147 = .ok (.aload_n 0, 1) := by decide +kernel
theorem dX12_alike_148 : decode cX12_alike 148 = .ok (.iload_n 1, 1) := by decide +kernel
theorem dX12_alike_149 : decode cX12_alike 149 = .ok (.iload_n 2, 1) := by decide +kernel
theorem dX12_alike_150 : decode cX12_alike 150 = .ok (.invokevirtual 262, 3) := by decide +kernel
theorem dX12_alike_153 : decode cX12_alike 153 = .ok (.aload_n 0, 1) := by decide +kernel
theorem dX12_alike_154 : decode cX12_alike 154 = .ok (.iload_n 3, 1) := by decide +kernel
theorem dX12_alike_155 : decode cX12_alike 155 = .ok (.iload 4, 2) := by decide +kernel
theorem dX12_alike_157 : decode cX12_alike 157 = .ok (.invokevirtual 262, 3) := by decide +kernel
theorem dX12_alike_160 : decode cX12_alike 160 = .ok (.lcmp, 1) := by decide +kernel
theorem dX12_alike_161 : decode cX12_alike 161 = .ok (.ifCond .ne 8, 3) := by decide +kernel
theorem dX12_alike_164 : decode cX12_alike 164 = .ok (.bipush 32, 2) := by decide +kernel
theorem dX12_alike_166 : decode cX12_alike 166 = .ok (.goto 4, 3) := by decide +kernel
theorem dX12_alike_169 : decode cX12_alike 169 = .ok (.iconst 0, 1) := by decide +kernel
theorem dX12_alike_170 : decode cX12_alike 170 = .ok (.ior, 1) := by decide +kernel
theorem dX12_alike_171 : decode cX12_alike 171 = .ok (.istore 7, 2) := by decide +kernel
theorem dX12_alike_173 : decode cX12_alike 173 = .ok (.iload 7, 2) := by decide +kernel
theorem dX12_alike_175 : decode cX12_alike 175 = .ok (.aload_n 0, 1) := by decide +kernel
theorem dX12_alike_176 : decode cX12_alike 176 = .ok (.iload_n 1, 1) := by decide +kernel
theorem dX12_alike_177 : decode cX12_alike 177 = .ok (.iload_n 2, 1) := by decide +kernel
theorem dX12_alike_178 : decode cX12_alike 178 = .ok (.iload_n 3, 1) := by decide +kernel
theorem dX12_alike_179 : decode cX12_alike 179 = .ok (.iload 4, 2) := by decide +kernel
theorem dX12_alike_181 : decode cX12_alike 181 = .ok (.invokevirtual 265, 3) := by decide +kernel
theorem dX12_alike_184 : decode cX12_alike 184 = .ok (.ifCond .eq 8, 3) := by decide +kernel
theorem dX12_alike_187 : decode cX12_alike 187 = .ok (.bipush 64, 2) := by decide +kernel
theorem dX12_alike_189 : decode cX12_alike 189 = .ok (.goto 4, 3) := by decide +kernel
theorem dX12_alike_192 : decode cX12_alike 192 = .ok (.iconst 0, 1) := by decide +kernel
theorem dX12_alike_193 : decode cX12_alike 193 = .ok (.ior, 1) := by decide +kernel
theorem dX12_alike_194 : decode cX12_alike 194 = .ok (.istore 7, 2) := by decide +kernel
theorem dX12_alike_196 : decode cX12_alike 196 = .ok (.iload 7, 2) := by decide +kernel
theorem dX12_alike_198 : decode cX12_alike 198 = .ok (.aload_n 0, 1) := by decide +kernel
theorem dX12_alike_199 : decode cX12_alike 199 = .ok (.iload_n 1, 1) := by decide +kernel
theorem dX12_alike_200 : decode cX12_alike 200 = .ok (.iload_n 2, 1) := by decide +kernel
theorem dX12_alike_201 : decode cX12_alike 201 = .ok (.iload_n 3, 1) := by decide +kernel
theorem dX12_alike_202 : decode cX12_alike 202 = .ok (.iload 4, 2) := by decide +kernel
theorem dX12_alike_204 : decode cX12_alike 204 = .ok (.invokevirtual 269, 3) := by decide +kernel
theorem dX12_alike_207 : decode cX12_alike 207 = .ok (.ifCond .eq 9, 3) := by decide +kernel
theorem dX12_alike_210 : decode cX12_alike 210 = .ok (.sipush 128, 3) := by decide +kernel
theorem dX12_alike_213 : decode cX12_alike 213 = .ok (.goto 4, 3) := by decide +kernel
theorem dX12_alike_216 : decode cX12_alike 216 = .ok (.iconst 0, 1) := by decide +kernel
theorem dX12_alike_217 : decode cX12_alike 217 = .ok (.ior, 1) := by decide +kernel
theorem dX12_alike_218 : decode cX12_alike 218 = .ok (.ireturn, 1) := by decide +kernel
theorem dX12_fits_0 : decode cX12_fits 0 = .ok (.aload_n 0, 1) := by decide +kernel
theorem dX12_fits_1 : decode cX12_fits 1 = .ok (.iload_n 1, 1) := by decide +kernel
theorem dX12_fits_2 : decode cX12_fits 2 = .ok (.iload_n 2, 1) := by decide +kernel
theorem dX12_fits_3 : decode cX12_fits 3 = .ok (.invokevirtual 185, 3) := by decide +kernel
theorem dX12_fits_6 : decode cX12_fits 6 = .ok (.ifCond .eq 24, 3) := by decide +kernel
theorem dX12_fits_9 : decode cX12_fits 9 = .ok (.iload_n 3, 1) := by decide +kernel
theorem dX12_fits_10 : decode cX12_fits 10 = .ok (.iconst 1, 1) := by decide +kernel
theorem dX12_fits_11 : decode cX12_fits 11 = .ok (.if_icmp .lt 19, 3) := by decide +kernel
theorem dX12_fits_14 : decode cX12_fits 14 = .ok (.iload_n 3, 1) := by decide +kernel
theorem dX12_fits_15 : decode cX12_fits 15 = .ok (.sipush 255, 3) := by decide +kernel
theorem dX12_fits_18 : decode cX12_fits 18 = .ok (.if_icmp .gt 12, 3) := by decide +kernel
theorem dX12_fits_21 : decode cX12_fits 21 = .ok (.aload_n 0, 1) := by decide +kernel
theorem dX12_fits_22 : decode cX12_fits 22 = .ok (.iload 4, 2) := by decide +kernel
theorem dX12_fits_24 : decode cX12_fits 24 = .ok (.invokevirtual 235, 3) := by decide +kernel
theorem dX12_fits_27 : decode cX12_fits 27 = .ok (.ifCond .ne 5, 3) := by decide +kernel
theorem dX12_fits_30 : decode cX12_fits 30 = .ok (.iconst (-1), 1) := by decide +kernel
theorem dX12_fits_31 : decode cX12_fits 31 = .ok (.ireturn, 1) := by decide +kernel
theorem dX12_fits_32 : decode cX12_fits 32 = .ok (.iconst 0, 1) := by decide +kernel
theorem dX12_fits_33 : decode cX12_fits 33 = .ok (.istore 5, 2) := by decide +kernel
theorem dX12_fits_35 : decode cX12_fits 35 = .ok (.iconst 0, 1) := by decide +kernel
theorem dX12_fits_36 : decode cX12_fits 36 = .ok (.istore 6, 2) := by decide +kernel
theorem dX12_fits_38 : decode cX12_fits 38 = .ok (.iload 6, 2) := by decide +kernel
theorem dX12_fits_40 : decode cX12_fits 40 = .ok (.aload_n 0, 1) := by decide +kernel
theorem dX12_fits_41 : decode cX12_fits 41 = .ok (.getfield 20, 3) := by decide +kernel
theorem dX12_fits_44 : decode cX12_fits 44 = .ok (.iload 4, 2) := by decide +kernel
theorem dX12_fits_46 : decode cX12_fits 46 = .ok (.iaload, 1) := by decide +kernel
theorem dX12_fits_47 : decode cX12_fits 47 = .ok (.if_icmp .ge 35, 3) := by decide +kernel
theorem dX12_fits_50 : decode cX12_fits 50 = .ok (.iload 5, 2) := by decide +kernel
theorem dX12_fits_52 : decode cX12_fits 52 = .ok (.aload_n 0, 1) := by decide +kernel
theorem dX12_fits_53 : decode cX12_fits 53 = .ok (.iload_n 1, 1) := by decide +kernel
theorem dX12_fits_54 : decode cX12_fits 54 = .ok (.iload_n 2, 1) := by decide +kernel
theorem dX12_fits_55 : decode cX12_fits 55 = .ok (.iload 4, 2) := by decide +kernel
theorem dX12_fits_57 : decode cX12_fits 57 = .ok (.iload 6, 2) := by decide +kernel
theorem dX12_fits_59 : decode cX12_fits 59 = .ok (.invokevirtual 272, 3) := by decide +kernel
theorem dX12_fits_62 : decode cX12_fits 62 = .ok (.iload_n 3, 1) := by decide +kernel
theorem dX12_fits_63 : decode cX12_fits 63 = .ok (.iand, 1) := by decide +kernel
theorem dX12_fits_64 : decode cX12_fits 64 = .ok (.iload_n 3, 1) := by decide +kernel
theorem dX12_fits_65 : decode cX12_fits 65 = .ok (.if_icmp .ne 7, 3) := by decide +kernel
theorem dX12_fits_68 : decode cX12_fits 68 = .ok (.iconst 1, 1) := by decide +kernel
theorem dX12_fits_69 : decode cX12_fits 69 = .ok (.goto 4, 3) := by decide +kernel
theorem dX12_fits_72 : decode cX12_fits 72 = .ok (.iconst 0, 1) := by decide +kernel
theorem dX12_fits_73 : decode cX12_fits 73 = .ok (.iadd, 1) := by decide +kernel
theorem dX12_fits_74 : decode cX12_fits 74 = .ok (.istore 5, 2) := by decide +kernel
theorem dX12_fits_76 : decode cX12_fits 76 = .ok (.iinc 6 1, 3) := by decide +kernel
theorem dX12_fits_79 : decode cX12_fits 79 = .ok (.goto (-41), 3) := by decide +kernel
theorem dX12_fits_82 : decode cX12_fits 82 = .ok (.iload 5, 2) := by decide +kernel
theorem dX12_fits_84 : decode cX12_fits 84 = .ok (.ireturn, 1) := by decide +kernel
theorem dX12_fit_0 : decode cX12_fit 0 = .ok (.aload_n 0, 1) := by decide +kernel
theorem dX12_fit_1 : decode cX12_fit 1 = .ok (.iload_n 1, 1) := by decide +kernel
theorem dX12_fit_2 : decode cX12_fit 2 = .ok (.iload_n 2, 1) := by decide +kernel
theorem dX12_fit_3 : decode cX12_fit 3 = .ok (.invokevirtual 185, 3) := by decide +kernel
theorem dX12_fit_6 : decode cX12_fit 6 = .ok (.ifCond .eq 24, 3) := by decide +kernel
theorem dX12_fit_9 : decode cX12_fit 9 = .ok (.iload_n 3, 1) := by decide +kernel
theorem dX12_fit_10 : decode cX12_fit 10 = .ok (.iconst 1, 1) := by decide +kernel
theorem dX12_fit_11 : decode cX12_fit 11 = .ok (.if_icmp .lt 19, 3) := by decide +kernel
theorem dX12_fit_14 : decode cX12_fit 14 = .ok (.iload_n 3, 1) := by decide +kernel
theorem dX12_fit_15 : decode cX12_fit 15 = .ok (.sipush 255, 3) := by decide +kernel
theorem dX12_fit_18 : decode cX12_fit 18 = .ok (.if_icmp .gt 12, 3) := by decide +kernel
theorem dX12_fit_21 : decode cX12_fit 21 = .ok (.aload_n 0, 1) := by decide +kernel
theorem dX12_fit_22 : decode cX12_fit 22 = .ok (.iload 4, 2) := by decide +kernel
theorem dX12_fit_24 : decode cX12_fit 24 = .ok (.invokevirtual 235, 3) := by decide +kernel
theorem dX12_fit_27 : decode cX12_fit 27 = .ok (.ifCond .ne 5, 3) := by decide +kernel
theorem dX12_fit_30 : decode cX12_fit 30 = .ok (.iconst (-1), 1) := by decide +kernel
theorem dX12_fit_31 : decode cX12_fit 31 = .ok (.ireturn, 1) := by decide +kernel
theorem dX12_fit_32 : decode cX12_fit 32 = .ok (.iload 5, 2) := by decide +kernel
theorem dX12_fit_34 : decode cX12_fit 34 = .ok (.istore 6, 2) := by decide +kernel
theorem dX12_fit_36 : decode cX12_fit 36 = .ok (.iconst 0, 1) := by decide +kernel
theorem dX12_fit_37 : decode cX12_fit 37 = .ok (.istore 7, 2) := by decide +kernel
theorem dX12_fit_39 : decode cX12_fit 39 = .ok (.iload 7, 2) := by decide +kernel
theorem dX12_fit_41 : decode cX12_fit 41 = .ok (.aload_n 0, 1) := by decide +kernel
theorem dX12_fit_42 : decode cX12_fit 42 = .ok (.getfield 20, 3) := by decide +kernel
theorem dX12_fit_45 : decode cX12_fit 45 = .ok (.iload 4, 2) := by decide +kernel
theorem dX12_fit_47 : decode cX12_fit 47 = .ok (.iaload, 1) := by decide +kernel
theorem dX12_fit_48 : decode cX12_fit 48 = .ok (.if_icmp .ge 39, 3) := by decide +kernel
theorem dX12_fit_51 : decode cX12_fit 51 = .ok (.aload_n 0, 1) := by decide +kernel
theorem dX12_fit_52 : decode cX12_fit 52 = .ok (.iload_n 1, 1) := by decide +kernel
theorem dX12_fit_53 : decode cX12_fit 53 = .ok (.iload_n 2, 1) := by decide +kernel
theorem dX12_fit_54 : decode cX12_fit 54 = .ok (.iload 4, 2) := by decide +kernel
theorem dX12_fit_56 : decode cX12_fit 56 = .ok (.iload 7, 2) := by decide +kernel
theorem dX12_fit_58 : decode cX12_fit 58 = .ok (.invokevirtual 272, 3) := by decide +kernel
theorem dX12_fit_61 : decode cX12_fit 61 = .ok (.iload_n 3, 1) := by decide +kernel
theorem dX12_fit_62 : decode cX12_fit 62 = .ok (.iand, 1) := by decide +kernel
theorem dX12_fit_63 : decode cX12_fit 63 = .ok (.iload_n 3, 1) := by decide +kernel
theorem dX12_fit_64 : decode cX12_fit 64 = .ok (.if_icmp .eq 6, 3) := by decide +kernel
theorem dX12_fit_67 : decode cX12_fit 67 = .ok (.goto 14, 3) := by decide +kernel
theorem dX12_fit_70 : decode cX12_fit 70 = .ok (.iload 6, 2) := by decide +kernel
theorem dX12_fit_72 : decode cX12_fit 72 = .ok (.ifCond .ne 6, 3) := by decide +kernel
theorem dX12_fit_75 : decode cX12_fit 75 = .ok (.iload 7, 2) := by decide +kernel
theorem dX12_fit_77 : decode cX12_fit 77 = .ok (.ireturn, 1) := by decide +kernel
theorem dX12_fit_78 : decode cX12_fit 78 = .ok (.iinc 6 (-1), 3) := by decide +kernel
theorem dX12_fit_81 : decode cX12_fit 81 = .ok (.iinc 7 1, 3) := by decide +kernel
theorem dX12_fit_84 : decode cX12_fit 84 = .ok (.goto (-45), 3) := by decide +kernel
theorem dX12_fit_87 : decode cX12_fit 87 = .ok (.iconst (-1), 1) := by decide +kernel
theorem dX12_fit_88 : decode cX12_fit 88 = .ok (.ireturn, 1) := by decide +kernel
theorem dX12_sample_0 : decode cX12_sample 0 = .ok (.aload_n 0, 1) := by decide +kernel
theorem dX12_sample_1 : decode cX12_sample 1 = .ok (.iload_n 1, 1) := by decide +kernel
theorem dX12_sample_2 : decode cX12_sample 2 = .ok (.iload_n 2, 1) := by decide +kernel
theorem dX12_sample_3 : decode cX12_sample 3 = .ok (.invokevirtual 185, 3) := by decide +kernel
theorem dX12_sample_6 : decode cX12_sample 6 = .ok (.ifCond .eq 12, 3) := by decide +kernel
theorem dX12_sample_9 : decode cX12_sample 9 = .ok (.aload_n 0, 1) := by decide +kernel
theorem dX12_sample_10 : decode cX12_sample 10 = .ok (.getfield 275, 3) := by decide +kernel
theorem dX12_sample_13 : decode cX12_sample 13 = .ok (.bipush 6, 2) := by decide +kernel
theorem dX12_sample_15 : decode cX12_sample 15 = .ok (.if_icmp .ne 5, 3) := by decide +kernel
theorem dX12_sample_18 : decode cX12_sample 18 = .ok (.iconst (-1), 1) := by decide +kernel
theorem dX12_sample_19 : decode cX12_sample 19 = .ok (.ireturn, 1) := by decide +kernel
theorem dX12_sample_20 : decode cX12_sample 20 = .ok (.aload_n 0, 1) := by decide +kernel
theorem dX12_sample_21 : decode cX12_sample 21 = .ok (.iload_n 1, 1) := by decide +kernel
theorem dX12_sample_22 : decode cX12_sample 22 = .ok (.iconst 4, 1) := by decide +kernel
theorem dX12_sample_23 : decode cX12_sample 23 = .ok (.aload_n 0, 1) := by decide +kernel
theorem dX12_sample_24 : decode cX12_sample 24 = .ok (.getfield 275, 3) := by decide +kernel
theorem dX12_sample_27 : decode cX12_sample 27 = .ok (.iadd, 1) := by decide +kernel
theorem dX12_sample_28 : decode cX12_sample 28 = .ok (.invokevirtual 180, 3) := by decide +kernel
theorem dX12_sample_31 : decode cX12_sample 31 = .ok (.aload_n 0, 1) := by decide +kernel
theorem dX12_sample_32 : decode cX12_sample 32 = .ok (.getfield 68, 3) := by decide +kernel
theorem dX12_sample_35 : decode cX12_sample 35 = .ok (.aload_n 0, 1) := by decide +kernel
theorem dX12_sample_36 : decode cX12_sample 36 = .ok (.getfield 275, 3) := by decide +kernel
theorem dX12_sample_39 : decode cX12_sample 39 = .ok (.iload_n 2, 1) := by decide +kernel
theorem dX12_sample_40 : decode cX12_sample 40 = .ok (.iastore, 1) := by decide +kernel
theorem dX12_sample_41 : decode cX12_sample 41 = .ok (.aload_n 0, 1) := by decide +kernel
theorem dX12_sample_42 : decode cX12_sample 42 = .ok (.dup, 1) := by decide +kernel
theorem dX12_sample_43 : decode cX12_sample 43 = .ok (.getfield 275, 3) := by decide +kernel
theorem dX12_sample_46 : decode cX12_sample 46 = .ok (.iconst 1, 1) := by decide +kernel
theorem dX12_sample_47 : decode cX12_sample 47 = .ok (.iadd, 1) := by decide +kernel
theorem dX12_sample_48 : decode cX12_sample 48 = .ok (.putfield 275, 3) := by decide +kernel
theorem dX12_sample_51 : decode cX12_sample 51 = .ok (.aload_n 0, 1) := by decide +kernel
theorem dX12_sample_52 : decode cX12_sample 52 = .ok (.getfield 275, 3) := by decide +kernel
theorem dX12_sample_55 : decode cX12_sample 55 = .ok (.ireturn, 1) := by decide +kernel
theorem dX12_forget_0 : decode cX12_forget 0 = .ok (.aload_n 0, 1) := by decide +kernel
theorem dX12_forget_1 : decode cX12_forget 1 = .ok (.getfield 275, 3) := by decide +kernel
theorem dX12_forget_4 : decode cX12_forget 4 = .ok (.istore_n 1, 1) := by decide +kernel
theorem dX12_forget_5 : decode cX12_forget 5 = .ok (.aload_n 0, 1) := by decide +kernel
theorem dX12_forget_6 : decode cX12_forget 6 = .ok (.iconst 0, 1) := by decide +kernel
theorem dX12_forget_7 : decode cX12_forget 7 = .ok (.putfield 275, 3) := by decide +kernel
theorem dX12_forget_10 : decode cX12_forget 10 = .ok (.iload_n 1, 1) := by decide +kernel
theorem dX12_forget_11 : decode cX12_forget 11 = .ok (.ireturn, 1) := by decide +kernel
theorem dX12_stays_0 : decode cX12_stays 0 = .ok (.aload_n 0, 1) := by decide +kernel
theorem dX12_stays_1 : decode cX12_stays 1 = .ok (.getfield 275, 3) := by decide +kernel
theorem dX12_stays_4 : decode cX12_stays 4 = .ok (.ifCond .ne 7, 3) := by decide +kernel
theorem dX12_stays_7 : decode cX12_stays 7 = .ok (.iconst 0, 1) := by decide +kernel
theorem dX12_stays_8 : decode cX12_stays 8 = .ok (.goto 6, 3) := by decide +kernel
theorem dX12_stays_11 : decode cX12_stays 11 = .ok (.sipush 255, 3) := by decide +kernel
theorem dX12_stays_14 : decode cX12_stays 14 = .ok (.istore_n 1, 1) := by decide +kernel
theorem dX12_stays_15 : decode cX12_stays 15 = .ok (.iconst 1, 1) := by decide +kernel
theorem dX12_stays_16 : decode cX12_stays 16 = .ok (.istore_n 2, 1) := by decide +kernel
theorem dX12_stays_17 : decode cX12_stays 17 = .ok (.iload_n 2, 1) := by decide +kernel
theorem dX12_stays_18 : decode cX12_stays 18 = .ok (.aload_n 0, 1) := by decide +kernel
theorem dX12_stays_19 : decode cX12_stays 19 = .ok (.getfield 275, 3) := by decide +kernel
theorem dX12_stays_22 : decode cX12_stays 22 = .ok (.if_icmp .ge 32, 3) := by decide +kernel
theorem dX12_stays_25 : decode cX12_stays 25 = .ok (.iload_n 1, 1) := by decide +kernel
theorem dX12_stays_26 : decode cX12_stays 26 = .ok (.aload_n 0, 1) := by decide +kernel
theorem dX12_stays_27 : decode cX12_stays 27 = .ok (.iconst 4, 1) := by decide +kernel
theorem dX12_stays_28 : decode cX12_stays 28 = .ok (.aload_n 0, 1) := by decide +kernel
theorem dX12_stays_29 : decode cX12_stays 29 = .ok (.getfield 68, 3) := by decide +kernel
theorem dX12_stays_32 : decode cX12_stays 32 = .ok (.iconst 0, 1) := by decide +kernel
theorem dX12_stays_33 : decode cX12_stays 33 = .ok (.iaload, 1) := by decide +kernel
theorem dX12_stays_34 : decode cX12_stays 34 = .ok (.iconst 4, 1) := by decide +kernel
theorem dX12_stays_35 : decode cX12_stays 35 = .ok (.iload_n 2, 1) := by decide +kernel
theorem dX12_stays_36 : decode cX12_stays 36 = .ok (.iadd, 1) := by decide +kernel
theorem dX12_stays_37 : decode cX12_stays 37 = .ok (.aload_n 0, 1) := by decide +kernel
theorem dX12_stays_38 : decode cX12_stays 38 = .ok (.getfield 68, 3) := by decide +kernel
theorem dX12_stays_41 : decode cX12_stays 41 = .ok (.iload_n 2, 1) := by decide +kernel
theorem dX12_stays_42 : decode cX12_stays 42 = .ok (.iaload, 1) := by decide +kernel
theorem dX12_stays_43 : decode cX12_stays 43 = .ok (.invokevirtual 272, 3) := by decide +kernel
theorem dX12_stays_46 : decode cX12_stays 46 = .ok (.iand, 1) := by decide +kernel
theorem dX12_stays_47 : decode cX12_stays 47 = .ok (.istore_n 1, 1) := by decide +kernel
theorem dX12_stays_48 : decode cX12_stays 48 = .ok (.iinc 2 1, 3) := by decide +kernel
theorem dX12_stays_51 : decode cX12_stays 51 = .ok (.goto (-34), 3) := by decide +kernel
theorem dX12_stays_54 : decode cX12_stays 54 = .ok (.iload_n 1, 1) := by decide +kernel
theorem dX12_stays_55 : decode cX12_stays 55 = .ok (.ireturn, 1) := by decide +kernel
theorem dX12_bitsOf_0 : decode cX12_bitsOf 0 = .ok (.iconst 0, 1) := by decide +kernel
theorem dX12_bitsOf_1 : decode cX12_bitsOf 1 = .ok (.istore_n 1, 1) := by decide +kernel
theorem dX12_bitsOf_2 : decode cX12_bitsOf 2 = .ok (.iconst 0, 1) := by decide +kernel
theorem dX12_bitsOf_3 : decode cX12_bitsOf 3 = .ok (.istore_n 2, 1) := by decide +kernel
theorem dX12_bitsOf_4 : decode cX12_bitsOf 4 = .ok (.iload_n 2, 1) := by decide +kernel
theorem dX12_bitsOf_5 : decode cX12_bitsOf 5 = .ok (.bipush 8, 2) := by decide +kernel
theorem dX12_bitsOf_7 : decode cX12_bitsOf 7 = .ok (.if_icmp .ge 17, 3) := by decide +kernel
theorem dX12_bitsOf_10 : decode cX12_bitsOf 10 = .ok (.iload_n 1, 1) := by decide +kernel
theorem dX12_bitsOf_11 : decode cX12_bitsOf 11 = .ok (.iload_n 0, 1) := by decide +kernel
theorem dX12_bitsOf_12 : decode cX12_bitsOf 12 = .ok (.iload_n 2, 1) := by decide +kernel
theorem dX12_bitsOf_13 : decode cX12_bitsOf 13 = .ok (.ishr, 1) := by decide +kernel
theorem dX12_bitsOf_14 : decode cX12_bitsOf 14 = .ok (.iconst 1, 1) := by decide +kernel
theorem dX12_bitsOf_15 : decode cX12_bitsOf 15 = .ok (.iand, 1) := by decide +kernel
theorem dX12_bitsOf_16 : decode cX12_bitsOf 16 = .ok (.iadd, 1) := by decide +kernel
theorem dX12_bitsOf_17 : decode cX12_bitsOf 17 = .ok (.istore_n 1, 1) := by decide +kernel
theorem dX12_bitsOf_18 : decode cX12_bitsOf 18 = .ok (.iinc 2 1, 3) := by decide +kernel
theorem dX12_bitsOf_21 : decode cX12_bitsOf 21 = .ok (.goto (-17), 3) := by decide +kernel
theorem dX12_bitsOf_24 : decode cX12_bitsOf 24 = .ok (.iload_n 1, 1) := by decide +kernel
theorem dX12_bitsOf_25 : decode cX12_bitsOf 25 = .ok (.ireturn, 1) := by decide +kernel
theorem dX12_lookAtSamples_0 : decode cX12_lookAtSamples 0 = .ok (.aload_n 0, 1) := by decide +kernel
theorem dX12_lookAtSamples_1 : decode cX12_lookAtSamples 1 = .ok (.iconst 0, 1) := by decide +kernel
theorem dX12_lookAtSamples_2 : decode cX12_lookAtSamples 2 = .ok (.putfield 278, 3) := by decide +kernel
theorem dX12_lookAtSamples_5 : decode cX12_lookAtSamples 5 = .ok (.iconst 0, 1) := by decide +kernel
theorem dX12_lookAtSamples_6 : decode cX12_lookAtSamples 6 = .ok (.istore_n 1, 1) := by decide +kernel
theorem dX12_lookAtSamples_7 : decode cX12_lookAtSamples 7 = .ok (.iload_n 1, 1) := by decide +kernel
theorem dX12_lookAtSamples_8 : decode cX12_lookAtSamples 8 = .ok (.aload_n 0, 1) := by decide +kernel
theorem dX12_lookAtSamples_9 : decode cX12_lookAtSamples 9 = .ok (.getfield 275, 3) := by decide +kernel
theorem dX12_lookAtSamples_12 : decode cX12_lookAtSamples 12 = .ok (.if_icmp .ge 78, 3) := by decide +kernel
theorem dX12_lookAtSamples_15 : decode cX12_lookAtSamples 15 = .ok (.iconst 0, 1) := by decide +kernel
theorem dX12_lookAtSamples_16 : decode cX12_lookAtSamples 16 = .ok (.istore_n 2, 1) := by decide +kernel
theorem dX12_lookAtSamples_17 : decode cX12_lookAtSamples 17 = .ok (.iload_n 2, 1) := by decide +kernel
theorem dX12_lookAtSamples_18 : decode cX12_lookAtSamples 18 = .ok (.aload_n 0, 1) := by decide +kernel
theorem dX12_lookAtSamples_19 : decode cX12_lookAtSamples 19 = .ok (.getfield 20, 3) := by decide +kernel
theorem dX12_lookAtSamples_22 : decode cX12_lookAtSamples 22 = .ok (.iconst 4, 1) := by decide +kernel
theorem dX12_lookAtSamples_23 : decode cX12_lookAtSamples 23 = .ok (.iload_n 1, 1) := by decide +kernel
theorem dX12_lookAtSamples_24 : decode cX12_lookAtSamples 24 = .ok (.iadd, 1) := by decide +kernel
theorem dX12_lookAtSamples_25 : decode cX12_lookAtSamples 25 = .ok (.iaload, 1) := by decide +kernel
theorem dX12_lookAtSamples_26 : decode cX12_lookAtSamples 26 = .ok (.if_icmp .ge 58, 3) := by decide +kernel
theorem dX12_lookAtSamples_29 : decode cX12_lookAtSamples 29 = .ok (.iload_n 2, 1) := by decide +kernel
theorem dX12_lookAtSamples_30 : decode cX12_lookAtSamples 30 = .ok (.aload_n 0, 1) := by decide +kernel
theorem dX12_lookAtSamples_31 : decode cX12_lookAtSamples 31 = .ok (.getfield 68, 3) := by decide +kernel
theorem dX12_lookAtSamples_34 : decode cX12_lookAtSamples 34 = .ok (.iload_n 1, 1) := by decide +kernel
theorem dX12_lookAtSamples_35 : decode cX12_lookAtSamples 35 = .ok (.iaload, 1) := by decide +kernel
theorem dX12_lookAtSamples_36 : decode cX12_lookAtSamples 36 = .ok (.if_icmp .ne 6, 3) := by decide +kernel
theorem dX12_lookAtSamples_39 : decode cX12_lookAtSamples 39 = .ok (.goto 39, 3) := by decide +kernel
theorem dX12_lookAtSamples_42 : decode cX12_lookAtSamples 42 = .ok (.aload_n 0, 1) := by decide +kernel
theorem dX12_lookAtSamples_43 : decode cX12_lookAtSamples 43 = .ok (.getfield 71, 3) := by decide +kernel
theorem dX12_lookAtSamples_46 : decode cX12_lookAtSamples 46 = .ok (.aload_n 0, 1) := by decide +kernel
theorem dX12_lookAtSamples_47 : decode cX12_lookAtSamples 47 = .ok (.getfield 278, 3) := by decide +kernel
theorem dX12_lookAtSamples_50 : decode cX12_lookAtSamples 50 = .ok (.aload_n 0, 1) := by decide +kernel
theorem dX12_lookAtSamples_51 : decode cX12_lookAtSamples 51 = .ok (.iconst 4, 1) := by decide +kernel
theorem dX12_lookAtSamples_52 : decode cX12_lookAtSamples 52 = .ok (.iload_n 1, 1) := by decide +kernel
theorem dX12_lookAtSamples_53 : decode cX12_lookAtSamples 53 = .ok (.iadd, 1) := by decide +kernel
theorem dX12_lookAtSamples_54 : decode cX12_lookAtSamples 54 = .ok (.aload_n 0, 1) := by decide +kernel
theorem dX12_lookAtSamples_55 : decode cX12_lookAtSamples 55 = .ok (.getfield 68, 3) := by decide +kernel
theorem dX12_lookAtSamples_58 : decode cX12_lookAtSamples 58 = .ok (.iload_n 1, 1) := by decide +kernel
theorem dX12_lookAtSamples_59 : decode cX12_lookAtSamples 59 = .ok (.iaload, 1) := by decide +kernel
theorem dX12_lookAtSamples_60 : decode cX12_lookAtSamples 60 = .ok (.iconst 4, 1) := by decide +kernel
theorem dX12_lookAtSamples_61 : decode cX12_lookAtSamples 61 = .ok (.iload_n 1, 1) := by decide +kernel
theorem dX12_lookAtSamples_62 : decode cX12_lookAtSamples 62 = .ok (.iadd, 1) := by decide +kernel
theorem dX12_lookAtSamples_63 : decode cX12_lookAtSamples 63 = .ok (.iload_n 2, 1) := by decide +kernel
theorem dX12_lookAtSamples_64 : decode cX12_lookAtSamples 64 = .ok (.invokevirtual 272, 3) := by decide +kernel
theorem dX12_lookAtSamples_67 : decode cX12_lookAtSamples 67 = .ok (.iastore, 1) := by decide +kernel
theorem dX12_lookAtSamples_68 : decode cX12_lookAtSamples 68 = .ok (.aload_n 0, 1) := by decide +kernel
theorem dX12_lookAtSamples_69 : decode cX12_lookAtSamples 69 = .ok (.dup, 1) := by decide +kernel
theorem dX12_lookAtSamples_70 : decode cX12_lookAtSamples 70 = .ok (.getfield 278, 3) := by decide +kernel
theorem dX12_lookAtSamples_73 : decode cX12_lookAtSamples 73 = .ok (.iconst 1, 1) := by decide +kernel
theorem dX12_lookAtSamples_74 : decode cX12_lookAtSamples 74 = .ok (.iadd, 1) := by decide +kernel
theorem dX12_lookAtSamples_75 : decode cX12_lookAtSamples 75 = .ok (.putfield 278, 3) := by decide +kernel
theorem dX12_lookAtSamples_78 : decode cX12_lookAtSamples 78 = .ok (.iinc 2 1, 3) := by decide +kernel
theorem dX12_lookAtSamples_81 : decode cX12_lookAtSamples 81 = .ok (.goto (-64), 3) := by decide +kernel
theorem dX12_lookAtSamples_84 : decode cX12_lookAtSamples 84 = .ok (.iinc 1 1, 3) := by decide +kernel
theorem dX12_lookAtSamples_87 : decode cX12_lookAtSamples 87 = .ok (.goto (-80), 3) := by decide +kernel
theorem dX12_lookAtSamples_90 : decode cX12_lookAtSamples 90 = .ok (.return_, 1) := by decide +kernel
theorem dX12_tells_0 : decode cX12_tells 0 = .ok (.iconst 0, 1) := by decide +kernel
theorem dX12_tells_1 : decode cX12_tells 1 = .ok (.istore_n 2, 1) := by decide +kernel
theorem dX12_tells_2 : decode cX12_tells 2 = .ok (.iload_n 2, 1) := by decide +kernel
theorem dX12_tells_3 : decode cX12_tells 3 = .ok (.aload_n 0, 1) := by decide +kernel
theorem dX12_tells_4 : decode cX12_tells 4 = .ok (.getfield 278, 3) := by decide +kernel
theorem dX12_tells_7 : decode cX12_tells 7 = .ok (.if_icmp .ge 23, 3) := by decide +kernel
theorem dX12_tells_10 : decode cX12_tells 10 = .ok (.aload_n 0, 1) := by decide +kernel
theorem dX12_tells_11 : decode cX12_tells 11 = .ok (.getfield 71, 3) := by decide +kernel
theorem dX12_tells_14 : decode cX12_tells 14 = .ok (.iload_n 2, 1) := by decide +kernel
theorem dX12_tells_15 : decode cX12_tells 15 = .ok (.iaload, 1) := by decide +kernel
theorem dX12_tells_16 : decode cX12_tells 16 = .ok (.iload_n 1, 1) := by decide +kernel
theorem dX12_tells_17 : decode cX12_tells 17 = .ok (.iand, 1) := by decide +kernel
theorem dX12_tells_18 : decode cX12_tells 18 = .ok (.iload_n 1, 1) := by decide +kernel
theorem dX12_tells_19 : decode cX12_tells 19 = .ok (.if_icmp .ne 5, 3) := by decide +kernel
theorem dX12_tells_22 : decode cX12_tells 22 = .ok (.iconst 0, 1) := by decide +kernel
theorem dX12_tells_23 : decode cX12_tells 23 = .ok (.ireturn, 1) := by decide +kernel
theorem dX12_tells_24 : decode cX12_tells 24 = .ok (.iinc 2 1, 3) := by decide +kernel
theorem dX12_tells_27 : decode cX12_tells 27 = .ok (.goto (-25), 3) := by decide +kernel
theorem dX12_tells_30 : decode cX12_tells 30 = .ok (.iconst 1, 1) := by decide +kernel
theorem dX12_tells_31 : decode cX12_tells 31 = .ok (.ireturn, 1) := by decide +kernel
theorem dX12_learnt_0 : decode cX12_learnt 0 = .ok (.aload_n 0, 1) := by decide +kernel
theorem dX12_learnt_1 : decode cX12_learnt 1 = .ok (.invokevirtual 281, 3) := by decide +kernel
theorem dX12_learnt_4 : decode cX12_learnt 4 = .ok (.istore_n 1, 1) := by decide +kernel
theorem dX12_learnt_5 : decode cX12_learnt 5 = .ok (.aload_n 0, 1) := by decide +kernel
theorem dX12_learnt_6 : decode cX12_learnt 6 = .ok (.invokevirtual 285, 3) := by decide +kernel
theorem dX12_learnt_9 : decode cX12_learnt 9 = .ok (.iconst 1, 1) := by decide +kernel
theorem dX12_learnt_10 : decode cX12_learnt 10 = .ok (.istore_n 2, 1) := by decide +kernel
theorem dX12_learnt_11 : decode cX12_learnt 11 = .ok (.iload_n 2, 1) := by decide +kernel
theorem dX12_learnt_12 : decode cX12_learnt 12 = .ok (.bipush 8, 2) := by decide +kernel
theorem dX12_learnt_14 : decode cX12_learnt 14 = .ok (.if_icmp .gt 49, 3) := by decide +kernel
theorem dX12_learnt_17 : decode cX12_learnt 17 = .ok (.iconst 1, 1) := by decide +kernel
theorem dX12_learnt_18 : decode cX12_learnt 18 = .ok (.istore_n 3, 1) := by decide +kernel
theorem dX12_learnt_19 : decode cX12_learnt 19 = .ok (.iload_n 3, 1) := by decide +kernel
theorem dX12_learnt_20 : decode cX12_learnt 20 = .ok (.sipush 256, 3) := by decide +kernel
theorem dX12_learnt_23 : decode cX12_learnt 23 = .ok (.if_icmp .ge 34, 3) := by decide +kernel
theorem dX12_learnt_26 : decode cX12_learnt 26 = .ok (.iload_n 3, 1) := by decide +kernel
theorem dX12_learnt_27 : decode cX12_learnt 27 = .ok (.invokestatic 288, 3) := by decide +kernel
theorem dX12_learnt_30 : decode cX12_learnt 30 = .ok (.iload_n 2, 1) := by decide +kernel
theorem dX12_learnt_31 : decode cX12_learnt 31 = .ok (.if_icmp .ne 20, 3) := by decide +kernel
theorem dX12_learnt_34 : decode cX12_learnt 34 = .ok (.iload_n 3, 1) := by decide +kernel
theorem dX12_learnt_35 : decode cX12_learnt 35 = .ok (.iload_n 1, 1) := by decide +kernel
theorem dX12_learnt_36 : decode cX12_learnt 36 = .ok (.iand, 1) := by decide +kernel
theorem dX12_learnt_37 : decode cX12_learnt 37 = .ok (.iload_n 3, 1) := by decide +kernel
theorem dX12_learnt_38 : decode cX12_learnt 38 = .ok (.if_icmp .ne 13, 3) := by decide +kernel
theorem dX12_learnt_41 : decode cX12_learnt 41 = .ok (.aload_n 0, 1) := by decide +kernel
theorem dX12_learnt_42 : decode cX12_learnt 42 = .ok (.iload_n 3, 1) := by decide +kernel
theorem dX12_learnt_43 : decode cX12_learnt 43 = .ok (.invokevirtual 291, 3) := by decide +kernel
theorem dX12_learnt_46 : decode cX12_learnt 46 = .ok (.ifCond .eq 5, 3) := by decide +kernel
theorem dX12_learnt_49 : decode cX12_learnt 49 = .ok (.iload_n 3, 1) := by decide +kernel
theorem dX12_learnt_50 : decode cX12_learnt 50 = .ok (.ireturn, 1) := by decide +kernel
theorem dX12_learnt_51 : decode cX12_learnt 51 = .ok (.iinc 3 1, 3) := by decide +kernel
theorem dX12_learnt_54 : decode cX12_learnt 54 = .ok (.goto (-35), 3) := by decide +kernel
theorem dX12_learnt_57 : decode cX12_learnt 57 = .ok (.iinc 2 1, 3) := by decide +kernel
theorem dX12_learnt_60 : decode cX12_learnt 60 = .ok (.goto (-49), 3) := by decide +kernel
theorem dX12_learnt_63 : decode cX12_learnt 63 = .ok (.iconst (-1), 1) := by decide +kernel
theorem dX12_learnt_64 : decode cX12_learnt 64 = .ok (.ireturn, 1) := by decide +kernel
theorem dX12_seen_0 : decode cX12_seen 0 = .ok (.aload_n 0, 1) := by decide +kernel
theorem dX12_seen_1 : decode cX12_seen 1 = .ok (.invokevirtual 294, 3) := by decide +kernel
theorem dX12_seen_4 : decode cX12_seen 4 = .ok (.istore_n 2, 1) := by decide +kernel
theorem dX12_seen_5 : decode cX12_seen 5 = .ok (.iload_n 2, 1) := by decide +kernel
theorem dX12_seen_6 : decode cX12_seen 6 = .ok (.ifCond .lt 11, 3) := by decide +kernel
theorem dX12_seen_9 : decode cX12_seen 9 = .ok (.aload_n 0, 1) := by decide +kernel
theorem dX12_seen_10 : decode cX12_seen 10 = .ok (.iload_n 1, 1) := by decide +kernel
theorem dX12_seen_11 : decode cX12_seen 11 = .ok (.invokevirtual 235, 3) := by decide +kernel
theorem dX12_seen_14 : decode cX12_seen 14 = .ok (.ifCond .ne 5, 3) := by decide +kernel
theorem dX12_seen_17 : decode cX12_seen 17 = .ok (.iconst (-1), 1) := by decide +kernel
theorem dX12_seen_18 : decode cX12_seen 18 = .ok (.ireturn, 1) := by decide +kernel
theorem dX12_seen_19 : decode cX12_seen 19 = .ok (.bipush (-3), 2) := by decide +kernel
theorem dX12_seen_21 : decode cX12_seen 21 = .ok (.istore_n 3, 1) := by decide +kernel
theorem dX12_seen_22 : decode cX12_seen 22 = .ok (.iconst 0, 1) := by decide +kernel
theorem dX12_seen_23 : decode cX12_seen 23 = .ok (.istore 4, 2) := by decide +kernel
theorem dX12_seen_25 : decode cX12_seen 25 = .ok (.iload 4, 2) := by decide +kernel
theorem dX12_seen_27 : decode cX12_seen 27 = .ok (.aload_n 0, 1) := by decide +kernel
theorem dX12_seen_28 : decode cX12_seen 28 = .ok (.getfield 20, 3) := by decide +kernel
theorem dX12_seen_31 : decode cX12_seen 31 = .ok (.iload_n 1, 1) := by decide +kernel
theorem dX12_seen_32 : decode cX12_seen 32 = .ok (.iaload, 1) := by decide +kernel
theorem dX12_seen_33 : decode cX12_seen 33 = .ok (.if_icmp .ge 43, 3) := by decide +kernel
theorem dX12_seen_36 : decode cX12_seen 36 = .ok (.aload_n 0, 1) := by decide +kernel
theorem dX12_seen_37 : decode cX12_seen 37 = .ok (.iconst 4, 1) := by decide +kernel
theorem dX12_seen_38 : decode cX12_seen 38 = .ok (.aload_n 0, 1) := by decide +kernel
theorem dX12_seen_39 : decode cX12_seen 39 = .ok (.getfield 68, 3) := by decide +kernel
theorem dX12_seen_42 : decode cX12_seen 42 = .ok (.iconst 0, 1) := by decide +kernel
theorem dX12_seen_43 : decode cX12_seen 43 = .ok (.iaload, 1) := by decide +kernel
theorem dX12_seen_44 : decode cX12_seen 44 = .ok (.iload_n 1, 1) := by decide +kernel
theorem dX12_seen_45 : decode cX12_seen 45 = .ok (.iload 4, 2) := by decide +kernel
theorem dX12_seen_47 : decode cX12_seen 47 = .ok (.invokevirtual 272, 3) := by decide +kernel
theorem dX12_seen_50 : decode cX12_seen 50 = .ok (.iload_n 2, 1) := by decide +kernel
theorem dX12_seen_51 : decode cX12_seen 51 = .ok (.iand, 1) := by decide +kernel
theorem dX12_seen_52 : decode cX12_seen 52 = .ok (.iload_n 2, 1) := by decide +kernel
theorem dX12_seen_53 : decode cX12_seen 53 = .ok (.if_icmp .ne 17, 3) := by decide +kernel
theorem dX12_seen_56 : decode cX12_seen 56 = .ok (.iload_n 3, 1) := by decide +kernel
theorem dX12_seen_57 : decode cX12_seen 57 = .ok (.bipush (-3), 2) := by decide +kernel
theorem dX12_seen_59 : decode cX12_seen 59 = .ok (.if_icmp .ne 8, 3) := by decide +kernel
theorem dX12_seen_62 : decode cX12_seen 62 = .ok (.iload 4, 2) := by decide +kernel
theorem dX12_seen_64 : decode cX12_seen 64 = .ok (.goto 5, 3) := by decide +kernel
theorem dX12_seen_67 : decode cX12_seen 67 = .ok (.bipush (-2), 2) := by decide +kernel
theorem dX12_seen_69 : decode cX12_seen 69 = .ok (.istore_n 3, 1) := by decide +kernel
theorem dX12_seen_70 : decode cX12_seen 70 = .ok (.iinc 4 1, 3) := by decide +kernel
theorem dX12_seen_73 : decode cX12_seen 73 = .ok (.goto (-48), 3) := by decide +kernel
theorem dX12_seen_76 : decode cX12_seen 76 = .ok (.iload_n 3, 1) := by decide +kernel
theorem dX12_seen_77 : decode cX12_seen 77 = .ok (.ireturn, 1) := by decide +kernel
theorem dX12_lay_0 : decode cX12_lay 0 = .ok (.aload_n 0, 1) := by decide +kernel
theorem dX12_lay_1 : decode cX12_lay 1 = .ok (.getfield 33, 3) := by decide +kernel
theorem dX12_lay_4 : decode cX12_lay 4 = .ok (.iload_n 2, 1) := by decide +kernel
theorem dX12_lay_5 : decode cX12_lay 5 = .ok (.iload_n 3, 1) := by decide +kernel
theorem dX12_lay_6 : decode cX12_lay 6 = .ok (.invokestatic 151, 3) := by decide +kernel
theorem dX12_lay_9 : decode cX12_lay 9 = .ok (.iaload, 1) := by decide +kernel
theorem dX12_lay_10 : decode cX12_lay 10 = .ok (.iconst 1, 1) := by decide +kernel
theorem dX12_lay_11 : decode cX12_lay 11 = .ok (.iadd, 1) := by decide +kernel
theorem dX12_lay_12 : decode cX12_lay 12 = .ok (.istore 5, 2) := by decide +kernel
theorem dX12_lay_14 : decode cX12_lay 14 = .ok (.aload_n 0, 1) := by decide +kernel
theorem dX12_lay_15 : decode cX12_lay 15 = .ok (.getfield 33, 3) := by decide +kernel
theorem dX12_lay_18 : decode cX12_lay 18 = .ok (.iload_n 2, 1) := by decide +kernel
theorem dX12_lay_19 : decode cX12_lay 19 = .ok (.iload 4, 2) := by decide +kernel
theorem dX12_lay_21 : decode cX12_lay 21 = .ok (.invokestatic 151, 3) := by decide +kernel
theorem dX12_lay_24 : decode cX12_lay 24 = .ok (.iaload, 1) := by decide +kernel
theorem dX12_lay_25 : decode cX12_lay 25 = .ok (.iconst 1, 1) := by decide +kernel
theorem dX12_lay_26 : decode cX12_lay 26 = .ok (.iadd, 1) := by decide +kernel
theorem dX12_lay_27 : decode cX12_lay 27 = .ok (.iload 5, 2) := by decide +kernel
theorem dX12_lay_29 : decode cX12_lay 29 = .ok (.if_icmp .ne 9, 3) := by decide +kernel
theorem dX12_lay_32 : decode cX12_lay 32 = .ok (.iload_n 3, 1) := by decide +kernel
theorem dX12_lay_33 : decode cX12_lay 33 = .ok (.iload 4, 2) := by decide +kernel
theorem dX12_lay_35 : decode cX12_lay 35 = .ok (.if_icmp .ne 5, 3) := by decide +kernel
theorem dX12_lay_38 : decode cX12_lay 38 = .ok (.iconst 0, 1) := by decide +kernel
theorem dX12_lay_39 : decode cX12_lay 39 = .ok (.ireturn, 1) := by decide +kernel
theorem dX12_lay_40 : decode cX12_lay 40 = .ok (.iload_n 3, 1) := by decide +kernel
theorem dX12_lay_41 : decode cX12_lay 41 = .ok (.istore 6, 2) := by decide +kernel
theorem dX12_lay_43 : decode cX12_lay 43 = .ok (.iload 4, 2) := by decide +kernel
theorem dX12_lay_45 : decode cX12_lay 45 = .ok (.istore 7, 2) := by decide +kernel
theorem dX12_lay_47 : decode cX12_lay 47 = .ok (.iconst 0, 1) := by decide +kernel
theorem dX12_lay_48 : decode cX12_lay 48 = .ok (.istore 8, 2) := by decide +kernel
theorem dX12_lay_50 : decode cX12_lay 50 = .ok (.iload 5, 2) := by decide +kernel
theorem dX12_lay_52 : decode cX12_lay 52 = .ok (.iconst 1, 1) := by decide +kernel
theorem dX12_lay_53 : decode cX12_lay 53 = .ok (.isub, 1) := by decide +kernel
theorem dX12_lay_54 : decode cX12_lay 54 = .ok (.istore 9, 2) := by decide +kernel
theorem dX12_lay_56 : decode cX12_lay 56 = .ok (.iload 9, 2) := by decide +kernel
theorem dX12_lay_58 : decode cX12_lay 58 = .ok (.ifCond .lt 225, 3) := by decide +kernel
theorem dX12_lay_61 : decode cX12_lay 61 = .ok (.iload_n 2, 1) := by decide +kernel
theorem dX12_lay_62 : decode cX12_lay 62 = .ok (.iload 6, 2) := by decide +kernel
theorem dX12_lay_64 : decode cX12_lay 64 = .ok (.invokestatic 151, 3) := by decide +kernel
theorem dX12_lay_67 : decode cX12_lay 67 = .ok (.istore 10, 2) := by decide +kernel
theorem dX12_lay_69 : decode cX12_lay 69 = .ok (.iload_n 2, 1) := by decide +kernel
theorem dX12_lay_70 : decode cX12_lay 70 = .ok (.iload 7, 2) := by decide +kernel
theorem dX12_lay_72 : decode cX12_lay 72 = .ok (.invokestatic 151, 3) := by decide +kernel
theorem dX12_lay_75 : decode cX12_lay 75 = .ok (.istore 11, 2) := by decide +kernel
theorem dX12_lay_77 : decode cX12_lay 77 = .ok (.aload_n 0, 1) := by decide +kernel
theorem dX12_lay_78 : decode cX12_lay 78 = .ok (.getfield 42, 3) := by decide +kernel
theorem dX12_lay_81 : decode cX12_lay 81 = .ok (.iload 10, 2) := by decide +kernel
theorem dX12_lay_83 : decode cX12_lay 83 = .ok (.laload, 1) := by decide +kernel
theorem dX12_lay_84 : decode cX12_lay 84 = .ok (.aload_n 0, 1) := by decide +kernel
theorem dX12_lay_85 : decode cX12_lay 85 = .ok (.getfield 42, 3) := by decide +kernel
theorem dX12_lay_88 : decode cX12_lay 88 = .ok (.iload 11, 2) := by decide +kernel
theorem dX12_lay_90 : decode cX12_lay 90 = .ok (.laload, 1) := by decide +kernel
theorem dX12_lay_91 : decode cX12_lay 91 = .ok (.lcmp, 1) := by decide +kernel
theorem dX12_lay_92 : decode cX12_lay 92 = .ok (.ifCond .eq 5, 3) := by decide +kernel
theorem dX12_lay_95 : decode cX12_lay 95 = .ok (.iconst 0, 1) := by decide +kernel
theorem dX12_lay_96 : decode cX12_lay 96 = .ok (.ireturn, 1) := by decide +kernel
theorem dX12_lay_97 : decode cX12_lay 97 = .ok (.aload_n 0, 1) := by decide +kernel
theorem dX12_lay_98 : decode cX12_lay 98 = .ok (.getfield 74, 3) := by decide +kernel
theorem dX12_lay_101 : decode cX12_lay 101 = .ok (.bipush 12, 2) := by decide +kernel
theorem dX12_lay_103 : decode cX12_lay 103 = .ok (.iload_n 1, 1) := by decide +kernel
theorem dX12_lay_104 : decode cX12_lay 104 = .ok (.imul, 1) := by decide +kernel
theorem dX12_lay_105 : decode cX12_lay 105 = .ok (.iload 9, 2) := by decide +kernel
theorem dX12_lay_107 : decode cX12_lay 107 = .ok (.iadd, 1) := by decide +kernel
theorem dX12_lay_108 : decode cX12_lay 108 = .ok (.aload_n 0, 1) := by decide +kernel
theorem dX12_lay_109 : decode cX12_lay 109 = .ok (.getfield 42, 3) := by decide +kernel
theorem dX12_lay_112 : decode cX12_lay 112 = .ok (.iload 10, 2) := by decide +kernel
theorem dX12_lay_114 : decode cX12_lay 114 = .ok (.laload, 1) := by decide +kernel
theorem dX12_lay_115 : decode cX12_lay 115 = .ok (.lastore, 1) := by decide +kernel
theorem dX12_lay_116 : decode cX12_lay 116 = .ok (.aload_n 0, 1) := by decide +kernel
theorem dX12_lay_117 : decode cX12_lay 117 = .ok (.getfield 77, 3) := by decide +kernel
theorem dX12_lay_120 : decode cX12_lay 120 = .ok (.bipush 12, 2) := by decide +kernel
theorem dX12_lay_122 : decode cX12_lay 122 = .ok (.iload_n 1, 1) := by decide +kernel
theorem dX12_lay_123 : decode cX12_lay 123 = .ok (.imul, 1) := by decide +kernel
theorem dX12_lay_124 : decode cX12_lay 124 = .ok (.iload 9, 2) := by decide +kernel
theorem dX12_lay_126 : decode cX12_lay 126 = .ok (.iadd, 1) := by decide +kernel
theorem dX12_lay_127 : decode cX12_lay 127 = .ok (.aload_n 0, 1) := by decide +kernel
theorem dX12_lay_128 : decode cX12_lay 128 = .ok (.getfield 30, 3) := by decide +kernel
theorem dX12_lay_131 : decode cX12_lay 131 = .ok (.iload 10, 2) := by decide +kernel
theorem dX12_lay_133 : decode cX12_lay 133 = .ok (.iaload, 1) := by decide +kernel
theorem dX12_lay_134 : decode cX12_lay 134 = .ok (.iastore, 1) := by decide +kernel
theorem dX12_lay_135 : decode cX12_lay 135 = .ok (.aload_n 0, 1) := by decide +kernel
theorem dX12_lay_136 : decode cX12_lay 136 = .ok (.getfield 30, 3) := by decide +kernel
theorem dX12_lay_139 : decode cX12_lay 139 = .ok (.iload 10, 2) := by decide +kernel
theorem dX12_lay_141 : decode cX12_lay 141 = .ok (.iaload, 1) := by decide +kernel
theorem dX12_lay_142 : decode cX12_lay 142 = .ok (.aload_n 0, 1) := by decide +kernel
theorem dX12_lay_143 : decode cX12_lay 143 = .ok (.getfield 30, 3) := by decide +kernel
theorem dX12_lay_146 : decode cX12_lay 146 = .ok (.iload 11, 2) := by decide +kernel
theorem dX12_lay_148 : decode cX12_lay 148 = .ok (.iaload, 1) := by decide +kernel
theorem dX12_lay_149 : decode cX12_lay 149 = .ok (.if_icmp .eq 110, 3) := by decide +kernel
theorem dX12_lay_152 : decode cX12_lay 152 = .ok (.iinc 8 1, 3) := by decide +kernel
theorem dX12_lay_155 : decode cX12_lay 155 = .ok (.aload_n 0, 1) := by decide +kernel
theorem dX12_lay_156 : decode cX12_lay 156 = .ok (.getfield 83, 3) := by decide +kernel
theorem dX12_lay_159 : decode cX12_lay 159 = .ok (.iload_n 1, 1) := by decide +kernel
theorem dX12_lay_160 : decode cX12_lay 160 = .ok (.iload 9, 2) := by decide +kernel
theorem dX12_lay_162 : decode cX12_lay 162 = .ok (.iastore, 1) := by decide +kernel
theorem dX12_lay_163 : decode cX12_lay 163 = .ok (.aload_n 0, 1) := by decide +kernel
theorem dX12_lay_164 : decode cX12_lay 164 = .ok (.getfield 86, 3) := by decide +kernel
theorem dX12_lay_167 : decode cX12_lay 167 = .ok (.iload_n 1, 1) := by decide +kernel
theorem dX12_lay_168 : decode cX12_lay 168 = .ok (.aload_n 0, 1) := by decide +kernel
theorem dX12_lay_169 : decode cX12_lay 169 = .ok (.getfield 30, 3) := by decide +kernel
theorem dX12_lay_172 : decode cX12_lay 172 = .ok (.iload 10, 2) := by decide +kernel
theorem dX12_lay_174 : decode cX12_lay 174 = .ok (.iaload, 1) := by decide +kernel
theorem dX12_lay_175 : decode cX12_lay 175 = .ok (.aload_n 0, 1) := by decide +kernel
theorem dX12_lay_176 : decode cX12_lay 176 = .ok (.getfield 30, 3) := by decide +kernel
theorem dX12_lay_179 : decode cX12_lay 179 = .ok (.iload 11, 2) := by decide +kernel
theorem dX12_lay_181 : decode cX12_lay 181 = .ok (.iaload, 1) := by decide +kernel
theorem dX12_lay_182 : decode cX12_lay 182 = .ok (.if_icmp .ge 13, 3) := by decide +kernel
theorem dX12_lay_185 : decode cX12_lay 185 = .ok (.aload_n 0, 1) := by decide +kernel
theorem dX12_lay_186 : decode cX12_lay 186 = .ok (.getfield 30, 3) := by decide +kernel
theorem dX12_lay_189 : decode cX12_lay 189 = .ok (.iload 10, 2) := by decide +kernel
theorem dX12_lay_191 : decode cX12_lay 191 = .ok (.iaload, 1) := by decide +kernel
theorem dX12_lay_192 : decode cX12_lay 192 = .ok (.goto 10, 3) := by decide +kernel
theorem dX12_lay_195 : decode cX12_lay 195 = .ok (.aload_n 0, 1) := by decide +kernel
theorem dX12_lay_196 : decode cX12_lay 196 = .ok (.getfield 30, 3) := by decide +kernel
theorem dX12_lay_199 : decode cX12_lay 199 = .ok (.iload 11, 2) := by decide +kernel
theorem dX12_lay_201 : decode cX12_lay 201 = .ok (.iaload, 1) := by decide +kernel
theorem dX12_lay_202 : decode cX12_lay 202 = .ok (.iastore, 1) := by decide +kernel
theorem dX12_lay_203 : decode cX12_lay 203 = .ok (.aload_n 0, 1) := by decide +kernel
theorem dX12_lay_204 : decode cX12_lay 204 = .ok (.getfield 89, 3) := by decide +kernel
theorem dX12_lay_207 : decode cX12_lay 207 = .ok (.iload_n 1, 1) := by decide +kernel
theorem dX12_lay_208 : decode cX12_lay 208 = .ok (.aload_n 0, 1) := by decide +kernel
theorem dX12_lay_209 : decode cX12_lay 209 = .ok (.getfield 30, 3) := by decide +kernel
theorem dX12_lay_212 : decode cX12_lay 212 = .ok (.iload 10, 2) := by decide +kernel
theorem dX12_lay_214 : decode cX12_lay 214 = .ok (.iaload, 1) := by decide +kernel
theorem dX12_lay_215 : decode cX12_lay 215 = .ok (.aload_n 0, 1) := by decide +kernel
theorem dX12_lay_216 : decode cX12_lay 216 = .ok (.getfield 30, 3) := by decide +kernel
theorem dX12_lay_219 : decode cX12_lay 219 = .ok (.iload 11, 2) := by decide +kernel
theorem dX12_lay_221 : decode cX12_lay 221 = .ok (.iaload, 1) := by decide +kernel
theorem dX12_lay_222 : decode cX12_lay 222 = .ok (.if_icmp .ge 21, 3) := by decide +kernel
theorem dX12_lay_225 : decode cX12_lay 225 = .ok (.aload_n 0, 1) := by decide +kernel
theorem dX12_lay_226 : decode cX12_lay 226 = .ok (.getfield 30, 3) := by decide +kernel
theorem dX12_lay_229 : decode cX12_lay 229 = .ok (.iload 11, 2) := by decide +kernel
theorem dX12_lay_231 : decode cX12_lay 231 = .ok (.iaload, 1) := by decide +kernel
theorem dX12_lay_232 : decode cX12_lay 232 = .ok (.aload_n 0, 1) := by decide +kernel
theorem dX12_lay_233 : decode cX12_lay 233 = .ok (.getfield 30, 3) := by decide +kernel
theorem dX12_lay_236 : decode cX12_lay 236 = .ok (.iload 10, 2) := by decide +kernel
theorem dX12_lay_238 : decode cX12_lay 238 = .ok (.iaload, 1) := by decide +kernel
theorem dX12_lay_239 : decode cX12_lay 239 = .ok (.isub, 1) := by decide +kernel
theorem dX12_lay_240 : decode cX12_lay 240 = .ok (.goto 18, 3) := by decide +kernel
theorem dX12_lay_243 : decode cX12_lay 243 = .ok (.aload_n 0, 1) := by decide +kernel
theorem dX12_lay_244 : decode cX12_lay 244 = .ok (.getfield 30, 3) := by decide +kernel
theorem dX12_lay_247 : decode cX12_lay 247 = .ok (.iload 10, 2) := by decide +kernel
theorem dX12_lay_249 : decode cX12_lay 249 = .ok (.iaload, 1) := by decide +kernel
theorem dX12_lay_250 : decode cX12_lay 250 = .ok (.aload_n 0, 1) := by decide +kernel
theorem dX12_lay_251 : decode cX12_lay 251 = .ok (.getfield 30, 3) := by decide +kernel
theorem dX12_lay_254 : decode cX12_lay 254 = .ok (.iload 11, 2) := by decide +kernel
theorem dX12_lay_256 : decode cX12_lay 256 = .ok (.iaload, 1) := by decide +kernel
theorem dX12_lay_257 : decode cX12_lay 257 = .ok (.isub, 1) := by decide +kernel
theorem dX12_lay_258 : decode cX12_lay 258 = .ok (.iastore, 1) := by decide +kernel
theorem dX12_lay_259 : decode cX12_lay 259 = .ok (.aload_n 0, 1) := by decide +kernel
theorem dX12_lay_260 : decode cX12_lay 260 = .ok (.getfield 24, 3) := by decide +kernel
theorem dX12_lay_263 : decode cX12_lay 263 = .ok (.iload 10, 2) := by decide +kernel
theorem dX12_lay_265 : decode cX12_lay 265 = .ok (.iaload, 1) := by decide +kernel
theorem dX12_lay_266 : decode cX12_lay 266 = .ok (.istore 6, 2) := by decide +kernel
theorem dX12_lay_268 : decode cX12_lay 268 = .ok (.aload_n 0, 1) := by decide +kernel
theorem dX12_lay_269 : decode cX12_lay 269 = .ok (.getfield 24, 3) := by decide +kernel
theorem dX12_lay_272 : decode cX12_lay 272 = .ok (.iload 11, 2) := by decide +kernel
theorem dX12_lay_274 : decode cX12_lay 274 = .ok (.iaload, 1) := by decide +kernel
theorem dX12_lay_275 : decode cX12_lay 275 = .ok (.istore 7, 2) := by decide +kernel
theorem dX12_lay_277 : decode cX12_lay 277 = .ok (.iinc 9 (-1), 3) := by decide +kernel
theorem dX12_lay_280 : decode cX12_lay 280 = .ok (.goto (-224), 3) := by decide +kernel
theorem dX12_lay_283 : decode cX12_lay 283 = .ok (.aload_n 0, 1) := by decide +kernel
theorem dX12_lay_284 : decode cX12_lay 284 = .ok (.getfield 80, 3) := by decide +kernel
theorem dX12_lay_287 : decode cX12_lay 287 = .ok (.iload_n 1, 1) := by decide +kernel
theorem dX12_lay_288 : decode cX12_lay 288 = .ok (.iload 5, 2) := by decide +kernel
theorem dX12_lay_290 : decode cX12_lay 290 = .ok (.iastore, 1) := by decide +kernel
theorem dX12_lay_291 : decode cX12_lay 291 = .ok (.iload 8, 2) := by decide +kernel
theorem dX12_lay_293 : decode cX12_lay 293 = .ok (.iconst 1, 1) := by decide +kernel
theorem dX12_lay_294 : decode cX12_lay 294 = .ok (.if_icmp .ne 7, 3) := by decide +kernel
theorem dX12_lay_297 : decode cX12_lay 297 = .ok (.iconst 1, 1) := by decide +kernel
theorem dX12_lay_298 : decode cX12_lay 298 = .ok (.goto 4, 3) := by decide +kernel
theorem dX12_lay_301 : decode cX12_lay 301 = .ok (.iconst 0, 1) := by decide +kernel
theorem dX12_lay_302 : decode cX12_lay 302 = .ok (.ireturn, 1) := by decide +kernel
theorem dX12_rowOf_0 : decode cX12_rowOf 0 = .ok (.iconst 0, 1) := by decide +kernel
theorem dX12_rowOf_1 : decode cX12_rowOf 1 = .ok (.istore 4, 2) := by decide +kernel
theorem dX12_rowOf_3 : decode cX12_rowOf 3 = .ok (.aload_n 0, 1) := by decide +kernel
theorem dX12_rowOf_4 : decode cX12_rowOf 4 = .ok (.getfield 80, 3) := by decide +kernel
theorem dX12_rowOf_7 : decode cX12_rowOf 7 = .ok (.iload_n 1, 1) := by decide +kernel
theorem dX12_rowOf_8 : decode cX12_rowOf 8 = .ok (.iaload, 1) := by decide +kernel
theorem dX12_rowOf_9 : decode cX12_rowOf 9 = .ok (.istore 5, 2) := by decide +kernel
theorem dX12_rowOf_11 : decode cX12_rowOf 11 = .ok (.aload_n 0, 1) := by decide +kernel
theorem dX12_rowOf_12 : decode cX12_rowOf 12 = .ok (.getfield 20, 3) := by decide +kernel
theorem dX12_rowOf_15 : decode cX12_rowOf 15 = .ok (.iload_n 2, 1) := by decide +kernel
theorem dX12_rowOf_16 : decode cX12_rowOf 16 = .ok (.iaload, 1) := by decide +kernel
theorem dX12_rowOf_17 : decode cX12_rowOf 17 = .ok (.ifCond .eq 38, 3) := by decide +kernel
theorem dX12_rowOf_20 : decode cX12_rowOf 20 = .ok (.aload_n 0, 1) := by decide +kernel
theorem dX12_rowOf_21 : decode cX12_rowOf 21 = .ok (.getfield 42, 3) := by decide +kernel
theorem dX12_rowOf_24 : decode cX12_rowOf 24 = .ok (.iload_n 2, 1) := by decide +kernel
theorem dX12_rowOf_25 : decode cX12_rowOf 25 = .ok (.iconst 0, 1) := by decide +kernel
theorem dX12_rowOf_26 : decode cX12_rowOf 26 = .ok (.invokestatic 151, 3) := by decide +kernel
theorem dX12_rowOf_29 : decode cX12_rowOf 29 = .ok (.laload, 1) := by decide +kernel
theorem dX12_rowOf_30 : decode cX12_rowOf 30 = .ok (.aload_n 0, 1) := by decide +kernel
theorem dX12_rowOf_31 : decode cX12_rowOf 31 = .ok (.getfield 74, 3) := by decide +kernel
theorem dX12_rowOf_34 : decode cX12_rowOf 34 = .ok (.bipush 12, 2) := by decide +kernel
theorem dX12_rowOf_36 : decode cX12_rowOf 36 = .ok (.iload_n 1, 1) := by decide +kernel
theorem dX12_rowOf_37 : decode cX12_rowOf 37 = .ok (.imul, 1) := by decide +kernel
theorem dX12_rowOf_38 : decode cX12_rowOf 38 = .ok (.laload, 1) := by decide +kernel
theorem dX12_rowOf_39 : decode cX12_rowOf 39 = .ok (.lcmp, 1) := by decide +kernel
theorem dX12_rowOf_40 : decode cX12_rowOf 40 = .ok (.ifCond .ne 15, 3) := by decide +kernel
theorem dX12_rowOf_43 : decode cX12_rowOf 43 = .ok (.aload_n 0, 1) := by decide +kernel
theorem dX12_rowOf_44 : decode cX12_rowOf 44 = .ok (.getfield 77, 3) := by decide +kernel
theorem dX12_rowOf_47 : decode cX12_rowOf 47 = .ok (.bipush 12, 2) := by decide +kernel
theorem dX12_rowOf_49 : decode cX12_rowOf 49 = .ok (.iload_n 1, 1) := by decide +kernel
theorem dX12_rowOf_50 : decode cX12_rowOf 50 = .ok (.imul, 1) := by decide +kernel
theorem dX12_rowOf_51 : decode cX12_rowOf 51 = .ok (.iaload, 1) := by decide +kernel
theorem dX12_rowOf_52 : decode cX12_rowOf 52 = .ok (.ifCond .eq 5, 3) := by decide +kernel
theorem dX12_rowOf_55 : decode cX12_rowOf 55 = .ok (.iconst (-1), 1) := by decide +kernel
theorem dX12_rowOf_56 : decode cX12_rowOf 56 = .ok (.ireturn, 1) := by decide +kernel
theorem dX12_rowOf_57 : decode cX12_rowOf 57 = .ok (.aload_n 0, 1) := by decide +kernel
theorem dX12_rowOf_58 : decode cX12_rowOf 58 = .ok (.getfield 83, 3) := by decide +kernel
theorem dX12_rowOf_61 : decode cX12_rowOf 61 = .ok (.iload_n 1, 1) := by decide +kernel
theorem dX12_rowOf_62 : decode cX12_rowOf 62 = .ok (.iaload, 1) := by decide +kernel
theorem dX12_rowOf_63 : decode cX12_rowOf 63 = .ok (.ifCond .ne 5, 3) := by decide +kernel
theorem dX12_rowOf_66 : decode cX12_rowOf 66 = .ok (.iconst (-1), 1) := by decide +kernel
theorem dX12_rowOf_67 : decode cX12_rowOf 67 = .ok (.ireturn, 1) := by decide +kernel
theorem dX12_rowOf_68 : decode cX12_rowOf 68 = .ok (.iconst 1, 1) := by decide +kernel
theorem dX12_rowOf_69 : decode cX12_rowOf 69 = .ok (.istore 6, 2) := by decide +kernel
theorem dX12_rowOf_71 : decode cX12_rowOf 71 = .ok (.iload 6, 2) := by decide +kernel
theorem dX12_rowOf_73 : decode cX12_rowOf 73 = .ok (.iload 5, 2) := by decide +kernel
theorem dX12_rowOf_75 : decode cX12_rowOf 75 = .ok (.if_icmp .ge 80, 3) := by decide +kernel
theorem dX12_rowOf_78 : decode cX12_rowOf 78 = .ok (.iload 4, 2) := by decide +kernel
theorem dX12_rowOf_80 : decode cX12_rowOf 80 = .ok (.ifCond .lt 75, 3) := by decide +kernel
theorem dX12_rowOf_83 : decode cX12_rowOf 83 = .ok (.iload 6, 2) := by decide +kernel
theorem dX12_rowOf_85 : decode cX12_rowOf 85 = .ok (.aload_n 0, 1) := by decide +kernel
theorem dX12_rowOf_86 : decode cX12_rowOf 86 = .ok (.getfield 83, 3) := by decide +kernel
theorem dX12_rowOf_89 : decode cX12_rowOf 89 = .ok (.iload_n 1, 1) := by decide +kernel
theorem dX12_rowOf_90 : decode cX12_rowOf 90 = .ok (.iaload, 1) := by decide +kernel
theorem dX12_rowOf_91 : decode cX12_rowOf 91 = .ok (.if_icmp .ne 21, 3) := by decide +kernel
theorem dX12_rowOf_94 : decode cX12_rowOf 94 = .ok (.aload_n 0, 1) := by decide +kernel
theorem dX12_rowOf_95 : decode cX12_rowOf 95 = .ok (.getfield 86, 3) := by decide +kernel
theorem dX12_rowOf_98 : decode cX12_rowOf 98 = .ok (.iload_n 1, 1) := by decide +kernel
theorem dX12_rowOf_99 : decode cX12_rowOf 99 = .ok (.iaload, 1) := by decide +kernel
theorem dX12_rowOf_100 : decode cX12_rowOf 100 = .ok (.iload_n 3, 1) := by decide +kernel
theorem dX12_rowOf_101 : decode cX12_rowOf 101 = .ok (.aload_n 0, 1) := by decide +kernel
theorem dX12_rowOf_102 : decode cX12_rowOf 102 = .ok (.getfield 89, 3) := by decide +kernel
theorem dX12_rowOf_105 : decode cX12_rowOf 105 = .ok (.iload_n 1, 1) := by decide +kernel
theorem dX12_rowOf_106 : decode cX12_rowOf 106 = .ok (.iaload, 1) := by decide +kernel
theorem dX12_rowOf_107 : decode cX12_rowOf 107 = .ok (.imul, 1) := by decide +kernel
theorem dX12_rowOf_108 : decode cX12_rowOf 108 = .ok (.iadd, 1) := by decide +kernel
theorem dX12_rowOf_109 : decode cX12_rowOf 109 = .ok (.goto 15, 3) := by decide +kernel
theorem dX12_rowOf_112 : decode cX12_rowOf 112 = .ok (.aload_n 0, 1) := by decide +kernel
theorem dX12_rowOf_113 : decode cX12_rowOf 113 = .ok (.getfield 77, 3) := by decide +kernel
theorem dX12_rowOf_116 : decode cX12_rowOf 116 = .ok (.bipush 12, 2) := by decide +kernel
theorem dX12_rowOf_118 : decode cX12_rowOf 118 = .ok (.iload_n 1, 1) := by decide +kernel
theorem dX12_rowOf_119 : decode cX12_rowOf 119 = .ok (.imul, 1) := by decide +kernel
theorem dX12_rowOf_120 : decode cX12_rowOf 120 = .ok (.iload 6, 2) := by decide +kernel
theorem dX12_rowOf_122 : decode cX12_rowOf 122 = .ok (.iadd, 1) := by decide +kernel
theorem dX12_rowOf_123 : decode cX12_rowOf 123 = .ok (.iaload, 1) := by decide +kernel
theorem dX12_rowOf_124 : decode cX12_rowOf 124 = .ok (.istore 7, 2) := by decide +kernel
theorem dX12_rowOf_126 : decode cX12_rowOf 126 = .ok (.aload_n 0, 1) := by decide +kernel
theorem dX12_rowOf_127 : decode cX12_rowOf 127 = .ok (.iload_n 2, 1) := by decide +kernel
theorem dX12_rowOf_128 : decode cX12_rowOf 128 = .ok (.iload 4, 2) := by decide +kernel
theorem dX12_rowOf_130 : decode cX12_rowOf 130 = .ok (.aload_n 0, 1) := by decide +kernel
theorem dX12_rowOf_131 : decode cX12_rowOf 131 = .ok (.getfield 74, 3) := by decide +kernel
theorem dX12_rowOf_134 : decode cX12_rowOf 134 = .ok (.bipush 12, 2) := by decide +kernel
theorem dX12_rowOf_136 : decode cX12_rowOf 136 = .ok (.iload_n 1, 1) := by decide +kernel
theorem dX12_rowOf_137 : decode cX12_rowOf 137 = .ok (.imul, 1) := by decide +kernel
theorem dX12_rowOf_138 : decode cX12_rowOf 138 = .ok (.iload 6, 2) := by decide +kernel
theorem dX12_rowOf_140 : decode cX12_rowOf 140 = .ok (.iadd, 1) := by decide +kernel
theorem dX12_rowOf_141 : decode cX12_rowOf 141 = .ok (.laload, 1) := by decide +kernel
theorem dX12_rowOf_142 : decode cX12_rowOf 142 = .ok (.iload 7, 2) := by decide +kernel
theorem dX12_rowOf_144 : decode cX12_rowOf 144 = .ok (.invokevirtual 297, 3) := by decide +kernel
theorem dX12_rowOf_147 : decode cX12_rowOf 147 = .ok (.istore 4, 2) := by decide +kernel
theorem dX12_rowOf_149 : decode cX12_rowOf 149 = .ok (.iinc 6 1, 3) := by decide +kernel
theorem dX12_rowOf_152 : decode cX12_rowOf 152 = .ok (.goto (-81), 3) := by decide +kernel
theorem dX12_rowOf_155 : decode cX12_rowOf 155 = .ok (.iload 4, 2) := by decide +kernel
theorem dX12_rowOf_157 : decode cX12_rowOf 157 = .ok (.ireturn, 1) := by decide +kernel
theorem dX12_child_0 : decode cX12_child 0 = .ok (.iload_n 2, 1) := by decide +kernel
theorem dX12_child_1 : decode cX12_child 1 = .ok (.iconst 1, 1) := by decide +kernel
theorem dX12_child_2 : decode cX12_child 2 = .ok (.iadd, 1) := by decide +kernel
theorem dX12_child_3 : decode cX12_child 3 = .ok (.istore 6, 2) := by decide +kernel
theorem dX12_child_5 : decode cX12_child 5 = .ok (.iload 6, 2) := by decide +kernel
theorem dX12_child_7 : decode cX12_child 7 = .ok (.iload_n 2, 1) := by decide +kernel
theorem dX12_child_8 : decode cX12_child 8 = .ok (.aload_n 0, 1) := by decide +kernel
theorem dX12_child_9 : decode cX12_child 9 = .ok (.getfield 27, 3) := by decide +kernel
theorem dX12_child_12 : decode cX12_child 12 = .ok (.iload_n 1, 1) := by decide +kernel
theorem dX12_child_13 : decode cX12_child 13 = .ok (.iload_n 2, 1) := by decide +kernel
theorem dX12_child_14 : decode cX12_child 14 = .ok (.invokestatic 151, 3) := by decide +kernel
theorem dX12_child_17 : decode cX12_child 17 = .ok (.iaload, 1) := by decide +kernel
theorem dX12_child_18 : decode cX12_child 18 = .ok (.iadd, 1) := by decide +kernel
theorem dX12_child_19 : decode cX12_child 19 = .ok (.if_icmp .ge 59, 3) := by decide +kernel
theorem dX12_child_22 : decode cX12_child 22 = .ok (.aload_n 0, 1) := by decide +kernel
theorem dX12_child_23 : decode cX12_child 23 = .ok (.getfield 24, 3) := by decide +kernel
theorem dX12_child_26 : decode cX12_child 26 = .ok (.iload_n 1, 1) := by decide +kernel
theorem dX12_child_27 : decode cX12_child 27 = .ok (.iload 6, 2) := by decide +kernel
theorem dX12_child_29 : decode cX12_child 29 = .ok (.invokestatic 151, 3) := by decide +kernel
theorem dX12_child_32 : decode cX12_child 32 = .ok (.iaload, 1) := by decide +kernel
theorem dX12_child_33 : decode cX12_child 33 = .ok (.iload_n 2, 1) := by decide +kernel
theorem dX12_child_34 : decode cX12_child 34 = .ok (.if_icmp .ne 38, 3) := by decide +kernel
theorem dX12_child_37 : decode cX12_child 37 = .ok (.aload_n 0, 1) := by decide +kernel
theorem dX12_child_38 : decode cX12_child 38 = .ok (.getfield 42, 3) := by decide +kernel
theorem dX12_child_41 : decode cX12_child 41 = .ok (.iload_n 1, 1) := by decide +kernel
theorem dX12_child_42 : decode cX12_child 42 = .ok (.iload 6, 2) := by decide +kernel
theorem dX12_child_44 : decode cX12_child 44 = .ok (.invokestatic 151, 3) := by decide +kernel
theorem dX12_child_47 : decode cX12_child 47 = .ok (.laload, 1) := by decide +kernel
theorem dX12_child_48 : decode cX12_child 48 = .ok (.lload_n 3, 1) := by decide +kernel
theorem dX12_child_49 : decode cX12_child 49 = .ok (.lcmp, 1) := by decide +kernel
theorem dX12_child_50 : decode cX12_child 50 = .ok (.ifCond .ne 22, 3) := by decide +kernel
theorem dX12_child_53 : decode cX12_child 53 = .ok (.aload_n 0, 1) := by decide +kernel
theorem dX12_child_54 : decode cX12_child 54 = .ok (.getfield 30, 3) := by decide +kernel
theorem dX12_child_57 : decode cX12_child 57 = .ok (.iload_n 1, 1) := by decide +kernel
theorem dX12_child_58 : decode cX12_child 58 = .ok (.iload 6, 2) := by decide +kernel
theorem dX12_child_60 : decode cX12_child 60 = .ok (.invokestatic 151, 3) := by decide +kernel
theorem dX12_child_63 : decode cX12_child 63 = .ok (.iaload, 1) := by decide +kernel
theorem dX12_child_64 : decode cX12_child 64 = .ok (.iload 5, 2) := by decide +kernel
theorem dX12_child_66 : decode cX12_child 66 = .ok (.if_icmp .ne 6, 3) := by decide +kernel
theorem dX12_child_69 : decode cX12_child 69 = .ok (.iload 6, 2) := by decide +kernel
theorem dX12_child_71 : decode cX12_child 71 = .ok (.ireturn, 1) := by decide +kernel
theorem dX12_child_72 : decode cX12_child 72 = .ok (.iinc 6 1, 3) := by decide +kernel
theorem dX12_child_75 : decode cX12_child 75 = .ok (.goto (-70), 3) := by decide +kernel
theorem dX12_child_78 : decode cX12_child 78 = .ok (.iconst (-1), 1) := by decide +kernel
theorem dX12_child_79 : decode cX12_child 79 = .ok (.ireturn, 1) := by decide +kernel
theorem dX12_rowsOf_0 : decode cX12_rowsOf 0 = .ok (.iconst 0, 1) := by decide +kernel
theorem dX12_rowsOf_1 : decode cX12_rowsOf 1 = .ok (.istore_n 3, 1) := by decide +kernel
theorem dX12_rowsOf_2 : decode cX12_rowsOf 2 = .ok (.iload_n 3, 1) := by decide +kernel
theorem dX12_rowsOf_3 : decode cX12_rowsOf 3 = .ok (.bipush 60, 2) := by decide +kernel
theorem dX12_rowsOf_5 : decode cX12_rowsOf 5 = .ok (.if_icmp .ge 19, 3) := by decide +kernel
theorem dX12_rowsOf_8 : decode cX12_rowsOf 8 = .ok (.aload_n 0, 1) := by decide +kernel
theorem dX12_rowsOf_9 : decode cX12_rowsOf 9 = .ok (.iload_n 1, 1) := by decide +kernel
theorem dX12_rowsOf_10 : decode cX12_rowsOf 10 = .ok (.iload_n 2, 1) := by decide +kernel
theorem dX12_rowsOf_11 : decode cX12_rowsOf 11 = .ok (.iload_n 3, 1) := by decide +kernel
theorem dX12_rowsOf_12 : decode cX12_rowsOf 12 = .ok (.invokevirtual 301, 3) := by decide +kernel
theorem dX12_rowsOf_15 : decode cX12_rowsOf 15 = .ok (.ifCond .lt 9, 3) := by decide +kernel
theorem dX12_rowsOf_18 : decode cX12_rowsOf 18 = .ok (.iinc 3 1, 3) := by decide +kernel
theorem dX12_rowsOf_21 : decode cX12_rowsOf 21 = .ok (.goto (-19), 3) := by decide +kernel
theorem dX12_rowsOf_24 : decode cX12_rowsOf 24 = .ok (.iload_n 3, 1) := by decide +kernel
theorem dX12_rowsOf_25 : decode cX12_rowsOf 25 = .ok (.ireturn, 1) := by decide +kernel
theorem dX12_rows_0 : decode cX12_rows 0 = .ok (.aload_n 0, 1) := by decide +kernel
theorem dX12_rows_1 : decode cX12_rows 1 = .ok (.iload_n 1, 1) := by decide +kernel
theorem dX12_rows_2 : decode cX12_rows 2 = .ok (.iload_n 2, 1) := by decide +kernel
theorem dX12_rows_3 : decode cX12_rows 3 = .ok (.invokevirtual 185, 3) := by decide +kernel
theorem dX12_rows_6 : decode cX12_rows 6 = .ok (.ifCond .eq 33, 3) := by decide +kernel
theorem dX12_rows_9 : decode cX12_rows 9 = .ok (.aload_n 0, 1) := by decide +kernel
theorem dX12_rows_10 : decode cX12_rows 10 = .ok (.iload_n 1, 1) := by decide +kernel
theorem dX12_rows_11 : decode cX12_rows 11 = .ok (.iload_n 3, 1) := by decide +kernel
theorem dX12_rows_12 : decode cX12_rows 12 = .ok (.invokevirtual 185, 3) := by decide +kernel
theorem dX12_rows_15 : decode cX12_rows 15 = .ok (.ifCond .eq 24, 3) := by decide +kernel
theorem dX12_rows_18 : decode cX12_rows 18 = .ok (.aload_n 0, 1) := by decide +kernel
theorem dX12_rows_19 : decode cX12_rows 19 = .ok (.iload 4, 2) := by decide +kernel
theorem dX12_rows_21 : decode cX12_rows 21 = .ok (.invokevirtual 235, 3) := by decide +kernel
theorem dX12_rows_24 : decode cX12_rows 24 = .ok (.ifCond .eq 15, 3) := by decide +kernel
theorem dX12_rows_27 : decode cX12_rows 27 = .ok (.aload_n 0, 1) := by decide +kernel
theorem dX12_rows_28 : decode cX12_rows 28 = .ok (.bipush 20, 2) := by decide +kernel
theorem dX12_rows_30 : decode cX12_rows 30 = .ok (.iload_n 1, 1) := by decide +kernel
theorem dX12_rows_31 : decode cX12_rows 31 = .ok (.iload_n 2, 1) := by decide +kernel
theorem dX12_rows_32 : decode cX12_rows 32 = .ok (.iload_n 3, 1) := by decide +kernel
theorem dX12_rows_33 : decode cX12_rows 33 = .ok (.invokevirtual 304, 3) := by decide +kernel
theorem dX12_rows_36 : decode cX12_rows 36 = .ok (.ifCond .ne 5, 3) := by decide +kernel
theorem dX12_rows_39 : decode cX12_rows 39 = .ok (.iconst (-1), 1) := by decide +kernel
theorem dX12_rows_40 : decode cX12_rows 40 = .ok (.ireturn, 1) := by decide +kernel
theorem dX12_rows_41 : decode cX12_rows 41 = .ok (.aload_n 0, 1) := by decide +kernel
theorem dX12_rows_42 : decode cX12_rows 42 = .ok (.bipush 20, 2) := by decide +kernel
theorem dX12_rows_44 : decode cX12_rows 44 = .ok (.iload 4, 2) := by decide +kernel
theorem dX12_rows_46 : decode cX12_rows 46 = .ok (.invokevirtual 307, 3) := by decide +kernel
theorem dX12_rows_49 : decode cX12_rows 49 = .ok (.ireturn, 1) := by decide +kernel
theorem dX12_row_0 : decode cX12_row 0 = .ok (.aload_n 0, 1) := by decide +kernel
theorem dX12_row_1 : decode cX12_row 1 = .ok (.iload_n 1, 1) := by decide +kernel
theorem dX12_row_2 : decode cX12_row 2 = .ok (.iload_n 2, 1) := by decide +kernel
theorem dX12_row_3 : decode cX12_row 3 = .ok (.iload_n 3, 1) := by decide +kernel
theorem dX12_row_4 : decode cX12_row 4 = .ok (.iload 4, 2) := by decide +kernel
theorem dX12_row_6 : decode cX12_row 6 = .ok (.invokevirtual 310, 3) := by decide +kernel
theorem dX12_row_9 : decode cX12_row 9 = .ok (.istore 6, 2) := by decide +kernel
theorem dX12_row_11 : decode cX12_row 11 = .ok (.iload 5, 2) := by decide +kernel
theorem dX12_row_13 : decode cX12_row 13 = .ok (.ifCond .lt 10, 3) := by decide +kernel
theorem dX12_row_16 : decode cX12_row 16 = .ok (.iload 5, 2) := by decide +kernel
theorem dX12_row_18 : decode cX12_row 18 = .ok (.iload 6, 2) := by decide +kernel
theorem dX12_row_20 : decode cX12_row 20 = .ok (.if_icmp .lt 7, 3) := by decide +kernel
theorem dX12_row_23 : decode cX12_row 23 = .ok (.iconst (-1), 1) := by decide +kernel
theorem dX12_row_24 : decode cX12_row 24 = .ok (.goto 13, 3) := by decide +kernel
theorem dX12_row_27 : decode cX12_row 27 = .ok (.aload_n 0, 1) := by decide +kernel
theorem dX12_row_28 : decode cX12_row 28 = .ok (.bipush 20, 2) := by decide +kernel
theorem dX12_row_30 : decode cX12_row 30 = .ok (.iload 4, 2) := by decide +kernel
theorem dX12_row_32 : decode cX12_row 32 = .ok (.iload 5, 2) := by decide +kernel
theorem dX12_row_34 : decode cX12_row 34 = .ok (.invokevirtual 301, 3) := by decide +kernel
theorem dX12_row_37 : decode cX12_row 37 = .ok (.ireturn, 1) := by decide +kernel
theorem dX12_act_0 : decode cX12_act 0 = .ok (.aload_n 0, 1) := by decide +kernel
theorem dX12_act_1 : decode cX12_act 1 = .ok (.iload_n 2, 1) := by decide +kernel
theorem dX12_act_2 : decode cX12_act 2 = .ok (.iload_n 3, 1) := by decide +kernel
theorem dX12_act_3 : decode cX12_act 3 = .ok (.invokevirtual 185, 3) := by decide +kernel
theorem dX12_act_6 : decode cX12_act 6 = .ok (.ifCond .eq 12, 3) := by decide +kernel
theorem dX12_act_9 : decode cX12_act 9 = .ok (.aload_n 0, 1) := by decide +kernel
theorem dX12_act_10 : decode cX12_act 10 = .ok (.getfield 313, 3) := by decide +kernel
theorem dX12_act_13 : decode cX12_act 13 = .ok (.bipush 20, 2) := by decide +kernel
theorem dX12_act_15 : decode cX12_act 15 = .ok (.if_icmp .ne 5, 3) := by decide +kernel
theorem dX12_act_18 : decode cX12_act 18 = .ok (.iconst (-1), 1) := by decide +kernel
theorem dX12_act_19 : decode cX12_act 19 = .ok (.ireturn, 1) := by decide +kernel
theorem dX12_act_20 : decode cX12_act 20 = .ok (.aload_n 0, 1) := by decide +kernel
theorem dX12_act_21 : decode cX12_act 21 = .ok (.iload_n 2, 1) := by decide +kernel
theorem dX12_act_22 : decode cX12_act 22 = .ok (.bipush 10, 2) := by decide +kernel
theorem dX12_act_24 : decode cX12_act 24 = .ok (.aload_n 0, 1) := by decide +kernel
theorem dX12_act_25 : decode cX12_act 25 = .ok (.getfield 313, 3) := by decide +kernel
theorem dX12_act_28 : decode cX12_act 28 = .ok (.iadd, 1) := by decide +kernel
theorem dX12_act_29 : decode cX12_act 29 = .ok (.invokevirtual 180, 3) := by decide +kernel
theorem dX12_act_32 : decode cX12_act 32 = .ok (.aload_n 0, 1) := by decide +kernel
theorem dX12_act_33 : decode cX12_act 33 = .ok (.getfield 92, 3) := by decide +kernel
theorem dX12_act_36 : decode cX12_act 36 = .ok (.aload_n 0, 1) := by decide +kernel
theorem dX12_act_37 : decode cX12_act 37 = .ok (.getfield 313, 3) := by decide +kernel
theorem dX12_act_40 : decode cX12_act 40 = .ok (.iload_n 1, 1) := by decide +kernel
theorem dX12_act_41 : decode cX12_act 41 = .ok (.bastore, 1) := by decide +kernel
theorem dX12_act_42 : decode cX12_act 42 = .ok (.aload_n 0, 1) := by decide +kernel
theorem dX12_act_43 : decode cX12_act 43 = .ok (.getfield 95, 3) := by decide +kernel
theorem dX12_act_46 : decode cX12_act 46 = .ok (.aload_n 0, 1) := by decide +kernel
theorem dX12_act_47 : decode cX12_act 47 = .ok (.getfield 313, 3) := by decide +kernel
theorem dX12_act_50 : decode cX12_act 50 = .ok (.iconst 0, 1) := by decide +kernel
theorem dX12_act_51 : decode cX12_act 51 = .ok (.bastore, 1) := by decide +kernel
theorem dX12_act_52 : decode cX12_act 52 = .ok (.aload_n 0, 1) := by decide +kernel
theorem dX12_act_53 : decode cX12_act 53 = .ok (.getfield 101, 3) := by decide +kernel
theorem dX12_act_56 : decode cX12_act 56 = .ok (.aload_n 0, 1) := by decide +kernel
theorem dX12_act_57 : decode cX12_act 57 = .ok (.getfield 313, 3) := by decide +kernel
theorem dX12_act_60 : decode cX12_act 60 = .ok (.iload_n 3, 1) := by decide +kernel
theorem dX12_act_61 : decode cX12_act 61 = .ok (.iastore, 1) := by decide +kernel
theorem dX12_act_62 : decode cX12_act 62 = .ok (.aload_n 0, 1) := by decide +kernel
theorem dX12_act_63 : decode cX12_act 63 = .ok (.dup, 1) := by decide +kernel
theorem dX12_act_64 : decode cX12_act 64 = .ok (.getfield 313, 3) := by decide +kernel
theorem dX12_act_67 : decode cX12_act 67 = .ok (.iconst 1, 1) := by decide +kernel
theorem dX12_act_68 : decode cX12_act 68 = .ok (.iadd, 1) := by decide +kernel
theorem dX12_act_69 : decode cX12_act 69 = .ok (.putfield 313, 3) := by decide +kernel
theorem dX12_act_72 : decode cX12_act 72 = .ok (.aload_n 0, 1) := by decide +kernel
theorem dX12_act_73 : decode cX12_act 73 = .ok (.getfield 313, 3) := by decide +kernel
theorem dX12_act_76 : decode cX12_act 76 = .ok (.ireturn, 1) := by decide +kernel
theorem dX12_loop_0 : decode cX12_loop 0 = .ok (.aload_n 0, 1) := by decide +kernel
theorem dX12_loop_1 : decode cX12_loop 1 = .ok (.iload_n 2, 1) := by decide +kernel
theorem dX12_loop_2 : decode cX12_loop 2 = .ok (.iload_n 3, 1) := by decide +kernel
theorem dX12_loop_3 : decode cX12_loop 3 = .ok (.invokevirtual 185, 3) := by decide +kernel
theorem dX12_loop_6 : decode cX12_loop 6 = .ok (.ifCond .eq 37, 3) := by decide +kernel
theorem dX12_loop_9 : decode cX12_loop 9 = .ok (.aload_n 0, 1) := by decide +kernel
theorem dX12_loop_10 : decode cX12_loop 10 = .ok (.iload_n 2, 1) := by decide +kernel
theorem dX12_loop_11 : decode cX12_loop 11 = .ok (.iload 4, 2) := by decide +kernel
theorem dX12_loop_13 : decode cX12_loop 13 = .ok (.invokevirtual 185, 3) := by decide +kernel
theorem dX12_loop_16 : decode cX12_loop 16 = .ok (.ifCond .eq 27, 3) := by decide +kernel
theorem dX12_loop_19 : decode cX12_loop 19 = .ok (.aload_n 0, 1) := by decide +kernel
theorem dX12_loop_20 : decode cX12_loop 20 = .ok (.getfield 313, 3) := by decide +kernel
theorem dX12_loop_23 : decode cX12_loop 23 = .ok (.bipush 20, 2) := by decide +kernel
theorem dX12_loop_25 : decode cX12_loop 25 = .ok (.if_icmp .eq 18, 3) := by decide +kernel
theorem dX12_loop_28 : decode cX12_loop 28 = .ok (.aload_n 0, 1) := by decide +kernel
theorem dX12_loop_29 : decode cX12_loop 29 = .ok (.aload_n 0, 1) := by decide +kernel
theorem dX12_loop_30 : decode cX12_loop 30 = .ok (.getfield 313, 3) := by decide +kernel
theorem dX12_loop_33 : decode cX12_loop 33 = .ok (.iload_n 2, 1) := by decide +kernel
theorem dX12_loop_34 : decode cX12_loop 34 = .ok (.iload_n 3, 1) := by decide +kernel
theorem dX12_loop_35 : decode cX12_loop 35 = .ok (.iload 4, 2) := by decide +kernel
theorem dX12_loop_37 : decode cX12_loop 37 = .ok (.invokevirtual 304, 3) := by decide +kernel
theorem dX12_loop_40 : decode cX12_loop 40 = .ok (.ifCond .ne 5, 3) := by decide +kernel
theorem dX12_loop_43 : decode cX12_loop 43 = .ok (.iconst (-1), 1) := by decide +kernel
theorem dX12_loop_44 : decode cX12_loop 44 = .ok (.ireturn, 1) := by decide +kernel
theorem dX12_loop_45 : decode cX12_loop 45 = .ok (.aload_n 0, 1) := by decide +kernel
theorem dX12_loop_46 : decode cX12_loop 46 = .ok (.getfield 92, 3) := by decide +kernel
theorem dX12_loop_49 : decode cX12_loop 49 = .ok (.aload_n 0, 1) := by decide +kernel
theorem dX12_loop_50 : decode cX12_loop 50 = .ok (.getfield 313, 3) := by decide +kernel
theorem dX12_loop_53 : decode cX12_loop 53 = .ok (.iload_n 1, 1) := by decide +kernel
theorem dX12_loop_54 : decode cX12_loop 54 = .ok (.bastore, 1) := by decide +kernel
theorem dX12_loop_55 : decode cX12_loop 55 = .ok (.aload_n 0, 1) := by decide +kernel
theorem dX12_loop_56 : decode cX12_loop 56 = .ok (.getfield 95, 3) := by decide +kernel
theorem dX12_loop_59 : decode cX12_loop 59 = .ok (.aload_n 0, 1) := by decide +kernel
theorem dX12_loop_60 : decode cX12_loop 60 = .ok (.getfield 313, 3) := by decide +kernel
theorem dX12_loop_63 : decode cX12_loop 63 = .ok (.iconst 1, 1) := by decide +kernel
theorem dX12_loop_64 : decode cX12_loop 64 = .ok (.bastore, 1) := by decide +kernel
theorem dX12_loop_65 : decode cX12_loop 65 = .ok (.aload_n 0, 1) := by decide +kernel
theorem dX12_loop_66 : decode cX12_loop 66 = .ok (.dup, 1) := by decide +kernel
theorem dX12_loop_67 : decode cX12_loop 67 = .ok (.getfield 313, 3) := by decide +kernel
theorem dX12_loop_70 : decode cX12_loop 70 = .ok (.iconst 1, 1) := by decide +kernel
theorem dX12_loop_71 : decode cX12_loop 71 = .ok (.iadd, 1) := by decide +kernel
theorem dX12_loop_72 : decode cX12_loop 72 = .ok (.putfield 313, 3) := by decide +kernel
theorem dX12_loop_75 : decode cX12_loop 75 = .ok (.aload_n 0, 1) := by decide +kernel
theorem dX12_loop_76 : decode cX12_loop 76 = .ok (.getfield 313, 3) := by decide +kernel
theorem dX12_loop_79 : decode cX12_loop 79 = .ok (.ireturn, 1) := by decide +kernel
theorem dX12_clear_0 : decode cX12_clear 0 = .ok (.aload_n 0, 1) := by decide +kernel
theorem dX12_clear_1 : decode cX12_clear 1 = .ok (.getfield 313, 3) := by decide +kernel
theorem dX12_clear_4 : decode cX12_clear 4 = .ok (.istore_n 1, 1) := by decide +kernel
theorem dX12_clear_5 : decode cX12_clear 5 = .ok (.aload_n 0, 1) := by decide +kernel
theorem dX12_clear_6 : decode cX12_clear 6 = .ok (.iconst 0, 1) := by decide +kernel
theorem dX12_clear_7 : decode cX12_clear 7 = .ok (.putfield 313, 3) := by decide +kernel
theorem dX12_clear_10 : decode cX12_clear 10 = .ok (.iload_n 1, 1) := by decide +kernel
theorem dX12_clear_11 : decode cX12_clear 11 = .ok (.ireturn, 1) := by decide +kernel
theorem dX12_isInHarm_0 : decode cX12_isInHarm 0 = .ok (.iload_n 2, 1) := by decide +kernel
theorem dX12_isInHarm_1 : decode cX12_isInHarm 1 = .ok (.istore_n 3, 1) := by decide +kernel
theorem dX12_isInHarm_2 : decode cX12_isInHarm 2 = .ok (.iload_n 3, 1) := by decide +kernel
theorem dX12_isInHarm_3 : decode cX12_isInHarm 3 = .ok (.ifCond .lt 30, 3) := by decide +kernel
theorem dX12_isInHarm_6 : decode cX12_isInHarm 6 = .ok (.aload_n 0, 1) := by decide +kernel
theorem dX12_isInHarm_7 : decode cX12_isInHarm 7 = .ok (.getfield 49, 3) := by decide +kernel
theorem dX12_isInHarm_10 : decode cX12_isInHarm 10 = .ok (.iload_n 1, 1) := by decide +kernel
theorem dX12_isInHarm_11 : decode cX12_isInHarm 11 = .ok (.iload_n 3, 1) := by decide +kernel
theorem dX12_isInHarm_12 : decode cX12_isInHarm 12 = .ok (.invokestatic 151, 3) := by decide +kernel
theorem dX12_isInHarm_15 : decode cX12_isInHarm 15 = .ok (.baload, 1) := by decide +kernel
theorem dX12_isInHarm_16 : decode cX12_isInHarm 16 = .ok (.ifCond .ne 17, 3) := by decide +kernel
theorem dX12_isInHarm_19 : decode cX12_isInHarm 19 = .ok (.aload_n 0, 1) := by decide +kernel
theorem dX12_isInHarm_20 : decode cX12_isInHarm 20 = .ok (.getfield 24, 3) := by decide +kernel
theorem dX12_isInHarm_23 : decode cX12_isInHarm 23 = .ok (.iload_n 1, 1) := by decide +kernel
theorem dX12_isInHarm_24 : decode cX12_isInHarm 24 = .ok (.iload_n 3, 1) := by decide +kernel
theorem dX12_isInHarm_25 : decode cX12_isInHarm 25 = .ok (.invokestatic 151, 3) := by decide +kernel
theorem dX12_isInHarm_28 : decode cX12_isInHarm 28 = .ok (.iaload, 1) := by decide +kernel
theorem dX12_isInHarm_29 : decode cX12_isInHarm 29 = .ok (.istore_n 3, 1) := by decide +kernel
theorem dX12_isInHarm_30 : decode cX12_isInHarm 30 = .ok (.goto (-28), 3) := by decide +kernel
theorem dX12_isInHarm_33 : decode cX12_isInHarm 33 = .ok (.iload_n 3, 1) := by decide +kernel
theorem dX12_isInHarm_34 : decode cX12_isInHarm 34 = .ok (.ifCond .lt 7, 3) := by decide +kernel
theorem dX12_isInHarm_37 : decode cX12_isInHarm 37 = .ok (.iconst 1, 1) := by decide +kernel
theorem dX12_isInHarm_38 : decode cX12_isInHarm 38 = .ok (.goto 4, 3) := by decide +kernel
theorem dX12_isInHarm_41 : decode cX12_isInHarm 41 = .ok (.iconst 0, 1) := by decide +kernel
theorem dX12_isInHarm_42 : decode cX12_isInHarm 42 = .ok (.ireturn, 1) := by decide +kernel
theorem dX12_does_0 : decode cX12_does 0 = .ok (.iload_n 2, 1) := by decide +kernel
theorem dX12_does_1 : decode cX12_does 1 = .ok (.iload_n 3, 1) := by decide +kernel
theorem dX12_does_2 : decode cX12_does 2 = .ok (.invokestatic 151, 3) := by decide +kernel
theorem dX12_does_5 : decode cX12_does 5 = .ok (.istore 4, 2) := by decide +kernel
theorem dX12_does_7 : decode cX12_does 7 = .ok (.aload_n 0, 1) := by decide +kernel
theorem dX12_does_8 : decode cX12_does 8 = .ok (.getfield 92, 3) := by decide +kernel
theorem dX12_does_11 : decode cX12_does 11 = .ok (.iload_n 1, 1) := by decide +kernel
theorem dX12_does_12 : decode cX12_does 12 = .ok (.baload, 1) := by decide +kernel
theorem dX12_does_13 : decode cX12_does 13 = .ok (.ifCond .ne 103, 3) := by decide +kernel
theorem dX12_does_16 : decode cX12_does 16 = .ok (.aload_n 0, 1) := by decide +kernel
theorem dX12_does_17 : decode cX12_does 17 = .ok (.getfield 316, 3) := by decide +kernel
theorem dX12_does_20 : decode cX12_does 20 = .ok (.bipush 40, 2) := by decide +kernel
theorem dX12_does_22 : decode cX12_does 22 = .ok (.if_icmp .ge 82, 3) := by decide +kernel
theorem dX12_does_25 : decode cX12_does 25 = .ok (.aload_n 0, 1) := by decide +kernel
theorem dX12_does_26 : decode cX12_does 26 = .ok (.getfield 104, 3) := by decide +kernel
theorem dX12_does_29 : decode cX12_does 29 = .ok (.aload_n 0, 1) := by decide +kernel
theorem dX12_does_30 : decode cX12_does 30 = .ok (.getfield 316, 3) := by decide +kernel
theorem dX12_does_33 : decode cX12_does 33 = .ok (.aload_n 0, 1) := by decide +kernel
theorem dX12_does_34 : decode cX12_does 34 = .ok (.getfield 36, 3) := by decide +kernel
theorem dX12_does_37 : decode cX12_does 37 = .ok (.iload 4, 2) := by decide +kernel
theorem dX12_does_39 : decode cX12_does 39 = .ok (.iaload, 1) := by decide +kernel
theorem dX12_does_40 : decode cX12_does 40 = .ok (.ifCond .ge 7, 3) := by decide +kernel
theorem dX12_does_43 : decode cX12_does 43 = .ok (.iconst 0, 1) := by decide +kernel
theorem dX12_does_44 : decode cX12_does 44 = .ok (.goto 10, 3) := by decide +kernel
theorem dX12_does_47 : decode cX12_does 47 = .ok (.aload_n 0, 1) := by decide +kernel
theorem dX12_does_48 : decode cX12_does 48 = .ok (.getfield 36, 3) := by decide +kernel
theorem dX12_does_51 : decode cX12_does 51 = .ok (.iload 4, 2) := by decide +kernel
theorem dX12_does_53 : decode cX12_does 53 = .ok (.iaload, 1) := by decide +kernel
theorem dX12_does_54 : decode cX12_does 54 = .ok (.iastore, 1) := by decide +kernel
theorem dX12_does_55 : decode cX12_does 55 = .ok (.iconst 0, 1) := by decide +kernel
theorem dX12_does_56 : decode cX12_does 56 = .ok (.istore 5, 2) := by decide +kernel
theorem dX12_does_58 : decode cX12_does 58 = .ok (.iload 5, 2) := by decide +kernel
theorem dX12_does_60 : decode cX12_does 60 = .ok (.aload_n 0, 1) := by decide +kernel
theorem dX12_does_61 : decode cX12_does 61 = .ok (.getfield 36, 3) := by decide +kernel
theorem dX12_does_64 : decode cX12_does 64 = .ok (.iload 4, 2) := by decide +kernel
theorem dX12_does_66 : decode cX12_does 66 = .ok (.iaload, 1) := by decide +kernel
theorem dX12_does_67 : decode cX12_does 67 = .ok (.if_icmp .ge 37, 3) := by decide +kernel
theorem dX12_does_70 : decode cX12_does 70 = .ok (.aload_n 0, 1) := by decide +kernel
theorem dX12_does_71 : decode cX12_does 71 = .ok (.getfield 107, 3) := by decide +kernel
theorem dX12_does_74 : decode cX12_does 74 = .ok (.bipush 16, 2) := by decide +kernel
theorem dX12_does_76 : decode cX12_does 76 = .ok (.aload_n 0, 1) := by decide +kernel
theorem dX12_does_77 : decode cX12_does 77 = .ok (.getfield 316, 3) := by decide +kernel
theorem dX12_does_80 : decode cX12_does 80 = .ok (.imul, 1) := by decide +kernel
theorem dX12_does_81 : decode cX12_does 81 = .ok (.iload 5, 2) := by decide +kernel
theorem dX12_does_83 : decode cX12_does 83 = .ok (.iadd, 1) := by decide +kernel
theorem dX12_does_84 : decode cX12_does 84 = .ok (.aload_n 0, 1) := by decide +kernel
theorem dX12_does_85 : decode cX12_does 85 = .ok (.getfield 53, 3) := by decide +kernel
theorem dX12_does_88 : decode cX12_does 88 = .ok (.bipush 16, 2) := by decide +kernel
theorem dX12_does_90 : decode cX12_does 90 = .ok (.iload 4, 2) := by decide +kernel
theorem dX12_does_92 : decode cX12_does 92 = .ok (.imul, 1) := by decide +kernel
theorem dX12_does_93 : decode cX12_does 93 = .ok (.iload 5, 2) := by decide +kernel
theorem dX12_does_95 : decode cX12_does 95 = .ok (.iadd, 1) := by decide +kernel
theorem dX12_does_96 : decode cX12_does 96 = .ok (.baload, 1) := by decide +kernel
theorem dX12_does_97 : decode cX12_does 97 = .ok (.bastore, 1) := by decide +kernel
theorem dX12_does_98 : decode cX12_does 98 = .ok (.iinc 5 1, 3) := by decide +kernel
theorem dX12_does_101 : decode cX12_does 101 = .ok (.goto (-43), 3) := by decide +kernel
theorem dX12_does_104 : decode cX12_does 104 = .ok (.aload_n 0, 1) := by decide +kernel
theorem dX12_does_105 : decode cX12_does 105 = .ok (.dup, 1) := by decide +kernel
theorem dX12_does_106 : decode cX12_does 106 = .ok (.getfield 316, 3) := by decide +kernel
theorem dX12_does_109 : decode cX12_does 109 = .ok (.iconst 1, 1) := by decide +kernel
theorem dX12_does_110 : decode cX12_does 110 = .ok (.iadd, 1) := by decide +kernel
theorem dX12_does_111 : decode cX12_does 111 = .ok (.putfield 316, 3) := by decide +kernel
theorem dX12_does_114 : decode cX12_does 114 = .ok (.iconst 1, 1) := by decide +kernel
theorem dX12_does_115 : decode cX12_does 115 = .ok (.ireturn, 1) := by decide +kernel
theorem dX12_does_116 : decode cX12_does 116 = .ok (.aload_n 0, 1) := by decide +kernel
theorem dX12_does_117 : decode cX12_does 117 = .ok (.iload_n 2, 1) := by decide +kernel
theorem dX12_does_118 : decode cX12_does 118 = .ok (.iload_n 3, 1) := by decide +kernel
theorem dX12_does_119 : decode cX12_does 119 = .ok (.invokevirtual 319, 3) := by decide +kernel
theorem dX12_does_122 : decode cX12_does 122 = .ok (.ifCond .eq 15, 3) := by decide +kernel
theorem dX12_does_125 : decode cX12_does 125 = .ok (.aload_n 0, 1) := by decide +kernel
theorem dX12_does_126 : decode cX12_does 126 = .ok (.iconst 3, 1) := by decide +kernel
theorem dX12_does_127 : decode cX12_does 127 = .ok (.putfield 322, 3) := by decide +kernel
theorem dX12_does_130 : decode cX12_does 130 = .ok (.aload_n 0, 1) := by decide +kernel
theorem dX12_does_131 : decode cX12_does 131 = .ok (.iload_n 3, 1) := by decide +kernel
theorem dX12_does_132 : decode cX12_does 132 = .ok (.putfield 325, 3) := by decide +kernel
theorem dX12_does_135 : decode cX12_does 135 = .ok (.iconst 0, 1) := by decide +kernel
theorem dX12_does_136 : decode cX12_does 136 = .ok (.ireturn, 1) := by decide +kernel
theorem dX12_does_137 : decode cX12_does 137 = .ok (.aload_n 0, 1) := by decide +kernel
theorem dX12_does_138 : decode cX12_does 138 = .ok (.getfield 98, 3) := by decide +kernel
theorem dX12_does_141 : decode cX12_does 141 = .ok (.iload_n 3, 1) := by decide +kernel
theorem dX12_does_142 : decode cX12_does 142 = .ok (.baload, 1) := by decide +kernel
theorem dX12_does_143 : decode cX12_does 143 = .ok (.ifCond .eq 5, 3) := by decide +kernel
theorem dX12_does_146 : decode cX12_does 146 = .ok (.iconst 1, 1) := by decide +kernel
theorem dX12_does_147 : decode cX12_does 147 = .ok (.ireturn, 1) := by decide +kernel
theorem dX12_does_148 : decode cX12_does 148 = .ok (.aload_n 0, 1) := by decide +kernel
theorem dX12_does_149 : decode cX12_does 149 = .ok (.getfield 98, 3) := by decide +kernel
theorem dX12_does_152 : decode cX12_does 152 = .ok (.iload_n 3, 1) := by decide +kernel
theorem dX12_does_153 : decode cX12_does 153 = .ok (.iconst 1, 1) := by decide +kernel
theorem dX12_does_154 : decode cX12_does 154 = .ok (.bastore, 1) := by decide +kernel
theorem dX12_does_155 : decode cX12_does 155 = .ok (.aload_n 0, 1) := by decide +kernel
theorem dX12_does_156 : decode cX12_does 156 = .ok (.getfield 39, 3) := by decide +kernel
theorem dX12_does_159 : decode cX12_does 159 = .ok (.iload 4, 2) := by decide +kernel
theorem dX12_does_161 : decode cX12_does 161 = .ok (.dup2, 1) := by decide +kernel
theorem dX12_does_162 : decode cX12_does 162 = .ok (.iaload, 1) := by decide +kernel
theorem dX12_does_163 : decode cX12_does 163 = .ok (.iconst 1, 1) := by decide +kernel
theorem dX12_does_164 : decode cX12_does 164 = .ok (.iadd, 1) := by decide +kernel
theorem dX12_does_165 : decode cX12_does 165 = .ok (.iastore, 1) := by decide +kernel
theorem dX12_does_166 : decode cX12_does 166 = .ok (.aload_n 0, 1) := by decide +kernel
theorem dX12_does_167 : decode cX12_does 167 = .ok (.dup, 1) := by decide +kernel
theorem dX12_does_168 : decode cX12_does 168 = .ok (.getfield 328, 3) := by decide +kernel
theorem dX12_does_171 : decode cX12_does 171 = .ok (.iconst 1, 1) := by decide +kernel
theorem dX12_does_172 : decode cX12_does 172 = .ok (.iadd, 1) := by decide +kernel
theorem dX12_does_173 : decode cX12_does 173 = .ok (.putfield 328, 3) := by decide +kernel
theorem dX12_does_176 : decode cX12_does 176 = .ok (.iconst 1, 1) := by decide +kernel
theorem dX12_does_177 : decode cX12_does 177 = .ok (.ireturn, 1) := by decide +kernel
theorem dX12_goes_0 : decode cX12_goes 0 = .ok (.aload_n 0, 1) := by decide +kernel
theorem dX12_goes_1 : decode cX12_goes 1 = .ok (.getfield 95, 3) := by decide +kernel
theorem dX12_goes_4 : decode cX12_goes 4 = .ok (.iload_n 1, 1) := by decide +kernel
theorem dX12_goes_5 : decode cX12_goes 5 = .ok (.baload, 1) := by decide +kernel
theorem dX12_goes_6 : decode cX12_goes 6 = .ok (.ifCond .eq 46, 3) := by decide +kernel
theorem dX12_goes_9 : decode cX12_goes 9 = .ok (.aload_n 0, 1) := by decide +kernel
theorem dX12_goes_10 : decode cX12_goes 10 = .ok (.iload_n 1, 1) := by decide +kernel
theorem dX12_goes_11 : decode cX12_goes 11 = .ok (.iload_n 2, 1) := by decide +kernel
theorem dX12_goes_12 : decode cX12_goes 12 = .ok (.invokevirtual 307, 3) := by decide +kernel
theorem dX12_goes_15 : decode cX12_goes 15 = .ok (.istore_n 3, 1) := by decide +kernel
theorem dX12_goes_16 : decode cX12_goes 16 = .ok (.iconst 0, 1) := by decide +kernel
theorem dX12_goes_17 : decode cX12_goes 17 = .ok (.istore 4, 2) := by decide +kernel
theorem dX12_goes_19 : decode cX12_goes 19 = .ok (.iload 4, 2) := by decide +kernel
theorem dX12_goes_21 : decode cX12_goes 21 = .ok (.iload_n 3, 1) := by decide +kernel
theorem dX12_goes_22 : decode cX12_goes 22 = .ok (.if_icmp .ge 28, 3) := by decide +kernel
theorem dX12_goes_25 : decode cX12_goes 25 = .ok (.aload_n 0, 1) := by decide +kernel
theorem dX12_goes_26 : decode cX12_goes 26 = .ok (.iload_n 1, 1) := by decide +kernel
theorem dX12_goes_27 : decode cX12_goes 27 = .ok (.iload_n 2, 1) := by decide +kernel
theorem dX12_goes_28 : decode cX12_goes 28 = .ok (.aload_n 0, 1) := by decide +kernel
theorem dX12_goes_29 : decode cX12_goes 29 = .ok (.iload_n 1, 1) := by decide +kernel
theorem dX12_goes_30 : decode cX12_goes 30 = .ok (.iload_n 2, 1) := by decide +kernel
theorem dX12_goes_31 : decode cX12_goes 31 = .ok (.iload 4, 2) := by decide +kernel
theorem dX12_goes_33 : decode cX12_goes 33 = .ok (.invokevirtual 301, 3) := by decide +kernel
theorem dX12_goes_36 : decode cX12_goes 36 = .ok (.invokevirtual 331, 3) := by decide +kernel
theorem dX12_goes_39 : decode cX12_goes 39 = .ok (.ifCond .ne 5, 3) := by decide +kernel
theorem dX12_goes_42 : decode cX12_goes 42 = .ok (.iconst 0, 1) := by decide +kernel
theorem dX12_goes_43 : decode cX12_goes 43 = .ok (.ireturn, 1) := by decide +kernel
theorem dX12_goes_44 : decode cX12_goes 44 = .ok (.iinc 4 1, 3) := by decide +kernel
theorem dX12_goes_47 : decode cX12_goes 47 = .ok (.goto (-28), 3) := by decide +kernel
theorem dX12_goes_50 : decode cX12_goes 50 = .ok (.iconst 1, 1) := by decide +kernel
theorem dX12_goes_51 : decode cX12_goes 51 = .ok (.ireturn, 1) := by decide +kernel
theorem dX12_goes_52 : decode cX12_goes 52 = .ok (.aload_n 0, 1) := by decide +kernel
theorem dX12_goes_53 : decode cX12_goes 53 = .ok (.bipush 10, 2) := by decide +kernel
theorem dX12_goes_55 : decode cX12_goes 55 = .ok (.iload_n 1, 1) := by decide +kernel
theorem dX12_goes_56 : decode cX12_goes 56 = .ok (.iadd, 1) := by decide +kernel
theorem dX12_goes_57 : decode cX12_goes 57 = .ok (.aload_n 0, 1) := by decide +kernel
theorem dX12_goes_58 : decode cX12_goes 58 = .ok (.getfield 101, 3) := by decide +kernel
theorem dX12_goes_61 : decode cX12_goes 61 = .ok (.iload_n 1, 1) := by decide +kernel
theorem dX12_goes_62 : decode cX12_goes 62 = .ok (.iaload, 1) := by decide +kernel
theorem dX12_goes_63 : decode cX12_goes 63 = .ok (.iload_n 2, 1) := by decide +kernel
theorem dX12_goes_64 : decode cX12_goes 64 = .ok (.invokevirtual 238, 3) := by decide +kernel
theorem dX12_goes_67 : decode cX12_goes 67 = .ok (.istore_n 3, 1) := by decide +kernel
theorem dX12_goes_68 : decode cX12_goes 68 = .ok (.iload_n 3, 1) := by decide +kernel
theorem dX12_goes_69 : decode cX12_goes 69 = .ok (.iconst 1, 1) := by decide +kernel
theorem dX12_goes_70 : decode cX12_goes 70 = .ok (.if_icmp .ne 14, 3) := by decide +kernel
theorem dX12_goes_73 : decode cX12_goes 73 = .ok (.aload_n 0, 1) := by decide +kernel
theorem dX12_goes_74 : decode cX12_goes 74 = .ok (.iload_n 1, 1) := by decide +kernel
theorem dX12_goes_75 : decode cX12_goes 75 = .ok (.iload_n 2, 1) := by decide +kernel
theorem dX12_goes_76 : decode cX12_goes 76 = .ok (.aload_n 0, 1) := by decide +kernel
theorem dX12_goes_77 : decode cX12_goes 77 = .ok (.getfield 223, 3) := by decide +kernel
theorem dX12_goes_80 : decode cX12_goes 80 = .ok (.invokevirtual 331, 3) := by decide +kernel
theorem dX12_goes_83 : decode cX12_goes 83 = .ok (.ireturn, 1) := by decide +kernel
theorem dX12_goes_84 : decode cX12_goes 84 = .ok (.aload_n 0, 1) := by decide +kernel
theorem dX12_goes_85 : decode cX12_goes 85 = .ok (.iload_n 3, 1) := by decide +kernel
theorem dX12_goes_86 : decode cX12_goes 86 = .ok (.ifCond .ne 7, 3) := by decide +kernel
theorem dX12_goes_89 : decode cX12_goes 89 = .ok (.iconst 1, 1) := by decide +kernel
theorem dX12_goes_90 : decode cX12_goes 90 = .ok (.goto 4, 3) := by decide +kernel
theorem dX12_goes_93 : decode cX12_goes 93 = .ok (.iconst 2, 1) := by decide +kernel
theorem dX12_goes_94 : decode cX12_goes 94 = .ok (.putfield 322, 3) := by decide +kernel
theorem dX12_goes_97 : decode cX12_goes 97 = .ok (.aload_n 0, 1) := by decide +kernel
theorem dX12_goes_98 : decode cX12_goes 98 = .ok (.iload_n 3, 1) := by decide +kernel
theorem dX12_goes_99 : decode cX12_goes 99 = .ok (.ifCond .ne 10, 3) := by decide +kernel
theorem dX12_goes_102 : decode cX12_goes 102 = .ok (.aload_n 0, 1) := by decide +kernel
theorem dX12_goes_103 : decode cX12_goes 103 = .ok (.getfield 223, 3) := by decide +kernel
theorem dX12_goes_106 : decode cX12_goes 106 = .ok (.goto 4, 3) := by decide +kernel
theorem dX12_goes_109 : decode cX12_goes 109 = .ok (.iconst (-1), 1) := by decide +kernel
theorem dX12_goes_110 : decode cX12_goes 110 = .ok (.putfield 325, 3) := by decide +kernel
theorem dX12_goes_113 : decode cX12_goes 113 = .ok (.iconst 0, 1) := by decide +kernel
theorem dX12_goes_114 : decode cX12_goes 114 = .ok (.ireturn, 1) := by decide +kernel
theorem dX12_run_0 : decode cX12_run 0 = .ok (.aload_n 0, 1) := by decide +kernel
theorem dX12_run_1 : decode cX12_run 1 = .ok (.iload_n 1, 1) := by decide +kernel
theorem dX12_run_2 : decode cX12_run 2 = .ok (.invokevirtual 235, 3) := by decide +kernel
theorem dX12_run_5 : decode cX12_run 5 = .ok (.ifCond .ne 5, 3) := by decide +kernel
theorem dX12_run_8 : decode cX12_run 8 = .ok (.iconst (-1), 1) := by decide +kernel
theorem dX12_run_9 : decode cX12_run 9 = .ok (.ireturn, 1) := by decide +kernel
theorem dX12_run_10 : decode cX12_run 10 = .ok (.aload_n 0, 1) := by decide +kernel
theorem dX12_run_11 : decode cX12_run 11 = .ok (.iconst 1, 1) := by decide +kernel
theorem dX12_run_12 : decode cX12_run 12 = .ok (.putfield 334, 3) := by decide +kernel
theorem dX12_run_15 : decode cX12_run 15 = .ok (.aload_n 0, 1) := by decide +kernel
theorem dX12_run_16 : decode cX12_run 16 = .ok (.iconst 0, 1) := by decide +kernel
theorem dX12_run_17 : decode cX12_run 17 = .ok (.putfield 322, 3) := by decide +kernel
theorem dX12_run_20 : decode cX12_run 20 = .ok (.aload_n 0, 1) := by decide +kernel
theorem dX12_run_21 : decode cX12_run 21 = .ok (.iconst (-1), 1) := by decide +kernel
theorem dX12_run_22 : decode cX12_run 22 = .ok (.putfield 325, 3) := by decide +kernel
theorem dX12_run_25 : decode cX12_run 25 = .ok (.aload_n 0, 1) := by decide +kernel
theorem dX12_run_26 : decode cX12_run 26 = .ok (.iconst 0, 1) := by decide +kernel
theorem dX12_run_27 : decode cX12_run 27 = .ok (.putfield 328, 3) := by decide +kernel
theorem dX12_run_30 : decode cX12_run 30 = .ok (.aload_n 0, 1) := by decide +kernel
theorem dX12_run_31 : decode cX12_run 31 = .ok (.iconst 0, 1) := by decide +kernel
theorem dX12_run_32 : decode cX12_run 32 = .ok (.putfield 316, 3) := by decide +kernel
theorem dX12_run_35 : decode cX12_run 35 = .ok (.iconst 0, 1) := by decide +kernel
theorem dX12_run_36 : decode cX12_run 36 = .ok (.istore_n 2, 1) := by decide +kernel
theorem dX12_run_37 : decode cX12_run 37 = .ok (.iload_n 2, 1) := by decide +kernel
theorem dX12_run_38 : decode cX12_run 38 = .ok (.bipush 60, 2) := by decide +kernel
theorem dX12_run_40 : decode cX12_run 40 = .ok (.if_icmp .ge 16, 3) := by decide +kernel
theorem dX12_run_43 : decode cX12_run 43 = .ok (.aload_n 0, 1) := by decide +kernel
theorem dX12_run_44 : decode cX12_run 44 = .ok (.getfield 98, 3) := by decide +kernel
theorem dX12_run_47 : decode cX12_run 47 = .ok (.iload_n 2, 1) := by decide +kernel
theorem dX12_run_48 : decode cX12_run 48 = .ok (.iconst 0, 1) := by decide +kernel
theorem dX12_run_49 : decode cX12_run 49 = .ok (.bastore, 1) := by decide +kernel
theorem dX12_run_50 : decode cX12_run 50 = .ok (.iinc 2 1, 3) := by decide +kernel
theorem dX12_run_53 : decode cX12_run 53 = .ok (.goto (-16), 3) := by decide +kernel
theorem dX12_run_56 : decode cX12_run 56 = .ok (.iconst 0, 1) := by decide +kernel
theorem dX12_run_57 : decode cX12_run 57 = .ok (.istore_n 2, 1) := by decide +kernel
theorem dX12_run_58 : decode cX12_run 58 = .ok (.iload_n 2, 1) := by decide +kernel
theorem dX12_run_59 : decode cX12_run 59 = .ok (.aload_n 0, 1) := by decide +kernel
theorem dX12_run_60 : decode cX12_run 60 = .ok (.getfield 313, 3) := by decide +kernel
theorem dX12_run_63 : decode cX12_run 63 = .ok (.if_icmp .ge 18, 3) := by decide +kernel
theorem dX12_run_66 : decode cX12_run 66 = .ok (.aload_n 0, 1) := by decide +kernel
theorem dX12_run_67 : decode cX12_run 67 = .ok (.iload_n 2, 1) := by decide +kernel
theorem dX12_run_68 : decode cX12_run 68 = .ok (.iload_n 1, 1) := by decide +kernel
theorem dX12_run_69 : decode cX12_run 69 = .ok (.invokevirtual 337, 3) := by decide +kernel
theorem dX12_run_72 : decode cX12_run 72 = .ok (.ifCond .eq 9, 3) := by decide +kernel
theorem dX12_run_75 : decode cX12_run 75 = .ok (.iinc 2 1, 3) := by decide +kernel
theorem dX12_run_78 : decode cX12_run 78 = .ok (.goto (-20), 3) := by decide +kernel
theorem dX12_run_81 : decode cX12_run 81 = .ok (.iload_n 2, 1) := by decide +kernel
theorem dX12_run_82 : decode cX12_run 82 = .ok (.ireturn, 1) := by decide +kernel
theorem dX12_ran_0 : decode cX12_ran 0 = .ok (.aload_n 0, 1) := by decide +kernel
theorem dX12_ran_1 : decode cX12_ran 1 = .ok (.getfield 334, 3) := by decide +kernel
theorem dX12_ran_4 : decode cX12_ran 4 = .ok (.ifCond .ne 7, 3) := by decide +kernel
theorem dX12_ran_7 : decode cX12_ran 7 = .ok (.iconst (-1), 1) := by decide +kernel
theorem dX12_ran_8 : decode cX12_ran 8 = .ok (.goto 51, 3) := by decide +kernel
theorem dX12_ran_11 : decode cX12_ran 11 = .ok (.iload_n 1, 1) := by decide +kernel
theorem dX12_ran_12 : decode cX12_ran 12 = .ok (.ifCond .ne 10, 3) := by decide +kernel
theorem dX12_ran_15 : decode cX12_ran 15 = .ok (.aload_n 0, 1) := by decide +kernel
theorem dX12_ran_16 : decode cX12_ran 16 = .ok (.getfield 322, 3) := by decide +kernel
theorem dX12_ran_19 : decode cX12_ran 19 = .ok (.goto 40, 3) := by decide +kernel
theorem dX12_ran_22 : decode cX12_ran 22 = .ok (.iload_n 1, 1) := by decide +kernel
theorem dX12_ran_23 : decode cX12_ran 23 = .ok (.iconst 1, 1) := by decide +kernel
theorem dX12_ran_24 : decode cX12_ran 24 = .ok (.if_icmp .ne 10, 3) := by decide +kernel
theorem dX12_ran_27 : decode cX12_ran 27 = .ok (.aload_n 0, 1) := by decide +kernel
theorem dX12_ran_28 : decode cX12_ran 28 = .ok (.getfield 325, 3) := by decide +kernel
theorem dX12_ran_31 : decode cX12_ran 31 = .ok (.goto 28, 3) := by decide +kernel
theorem dX12_ran_34 : decode cX12_ran 34 = .ok (.iload_n 1, 1) := by decide +kernel
theorem dX12_ran_35 : decode cX12_ran 35 = .ok (.iconst 2, 1) := by decide +kernel
theorem dX12_ran_36 : decode cX12_ran 36 = .ok (.if_icmp .ne 10, 3) := by decide +kernel
theorem dX12_ran_39 : decode cX12_ran 39 = .ok (.aload_n 0, 1) := by decide +kernel
theorem dX12_ran_40 : decode cX12_ran 40 = .ok (.getfield 328, 3) := by decide +kernel
theorem dX12_ran_43 : decode cX12_ran 43 = .ok (.goto 16, 3) := by decide +kernel
theorem dX12_ran_46 : decode cX12_ran 46 = .ok (.iload_n 1, 1) := by decide +kernel
theorem dX12_ran_47 : decode cX12_ran 47 = .ok (.iconst 3, 1) := by decide +kernel
theorem dX12_ran_48 : decode cX12_ran 48 = .ok (.if_icmp .ne 10, 3) := by decide +kernel
theorem dX12_ran_51 : decode cX12_ran 51 = .ok (.aload_n 0, 1) := by decide +kernel
theorem dX12_ran_52 : decode cX12_ran 52 = .ok (.getfield 316, 3) := by decide +kernel
theorem dX12_ran_55 : decode cX12_ran 55 = .ok (.goto 4, 3) := by decide +kernel
theorem dX12_ran_58 : decode cX12_ran 58 = .ok (.iconst (-1), 1) := by decide +kernel
theorem dX12_ran_59 : decode cX12_ran 59 = .ok (.ireturn, 1) := by decide +kernel
theorem dX12_read_0 : decode cX12_read 0 = .ok (.aload_n 0, 1) := by decide +kernel
theorem dX12_read_1 : decode cX12_read 1 = .ok (.getfield 334, 3) := by decide +kernel
theorem dX12_read_4 : decode cX12_read 4 = .ok (.ifCond .eq 35, 3) := by decide +kernel
theorem dX12_read_7 : decode cX12_read 7 = .ok (.iload_n 1, 1) := by decide +kernel
theorem dX12_read_8 : decode cX12_read 8 = .ok (.ifCond .lt 31, 3) := by decide +kernel
theorem dX12_read_11 : decode cX12_read 11 = .ok (.iload_n 1, 1) := by decide +kernel
theorem dX12_read_12 : decode cX12_read 12 = .ok (.aload_n 0, 1) := by decide +kernel
theorem dX12_read_13 : decode cX12_read 13 = .ok (.getfield 316, 3) := by decide +kernel
theorem dX12_read_16 : decode cX12_read 16 = .ok (.if_icmp .ge 23, 3) := by decide +kernel
theorem dX12_read_19 : decode cX12_read 19 = .ok (.iload_n 1, 1) := by decide +kernel
theorem dX12_read_20 : decode cX12_read 20 = .ok (.bipush 40, 2) := by decide +kernel
theorem dX12_read_22 : decode cX12_read 22 = .ok (.if_icmp .ge 17, 3) := by decide +kernel
theorem dX12_read_25 : decode cX12_read 25 = .ok (.iload_n 2, 1) := by decide +kernel
theorem dX12_read_26 : decode cX12_read 26 = .ok (.ifCond .lt 13, 3) := by decide +kernel
theorem dX12_read_29 : decode cX12_read 29 = .ok (.iload_n 2, 1) := by decide +kernel
theorem dX12_read_30 : decode cX12_read 30 = .ok (.aload_n 0, 1) := by decide +kernel
theorem dX12_read_31 : decode cX12_read 31 = .ok (.getfield 104, 3) := by decide +kernel
theorem dX12_read_34 : decode cX12_read 34 = .ok (.iload_n 1, 1) := by decide +kernel
theorem dX12_read_35 : decode cX12_read 35 = .ok (.iaload, 1) := by decide +kernel
theorem dX12_read_36 : decode cX12_read 36 = .ok (.if_icmp .lt 7, 3) := by decide +kernel
theorem dX12_read_39 : decode cX12_read 39 = .ok (.iconst (-1), 1) := by decide +kernel
theorem dX12_read_40 : decode cX12_read 40 = .ok (.goto 18, 3) := by decide +kernel
theorem dX12_read_43 : decode cX12_read 43 = .ok (.aload_n 0, 1) := by decide +kernel
theorem dX12_read_44 : decode cX12_read 44 = .ok (.getfield 107, 3) := by decide +kernel
theorem dX12_read_47 : decode cX12_read 47 = .ok (.bipush 16, 2) := by decide +kernel
theorem dX12_read_49 : decode cX12_read 49 = .ok (.iload_n 1, 1) := by decide +kernel
theorem dX12_read_50 : decode cX12_read 50 = .ok (.imul, 1) := by decide +kernel
theorem dX12_read_51 : decode cX12_read 51 = .ok (.iload_n 2, 1) := by decide +kernel
theorem dX12_read_52 : decode cX12_read 52 = .ok (.iadd, 1) := by decide +kernel
theorem dX12_read_53 : decode cX12_read 53 = .ok (.baload, 1) := by decide +kernel
theorem dX12_read_54 : decode cX12_read 54 = .ok (.sipush 255, 3) := by decide +kernel
theorem dX12_read_57 : decode cX12_read 57 = .ok (.iand, 1) := by decide +kernel
theorem dX12_read_58 : decode cX12_read 58 = .ok (.ireturn, 1) := by decide +kernel
theorem dX12_about_0 : decode cX12_about 0 = .ok (.iload_n 1, 1) := by decide +kernel
theorem dX12_about_1 : decode cX12_about 1 = .ok (.tableswitch 51 0 3 #[31, 36, 41, 46], 31) := by decide +kernel
theorem dX12_about_32 : decode cX12_about 32 = .ok (.aload_n 0, 1) := by decide +kernel
theorem dX12_about_33 : decode cX12_about 33 = .ok (.getfield 65, 3) := by decide +kernel
theorem dX12_about_36 : decode cX12_about 36 = .ok (.ireturn, 1) := by decide +kernel
theorem dX12_about_37 : decode cX12_about 37 = .ok (.aload_n 0, 1) := by decide +kernel
theorem dX12_about_38 : decode cX12_about 38 = .ok (.getfield 275, 3) := by decide +kernel
theorem dX12_about_41 : decode cX12_about 41 = .ok (.ireturn, 1) := by decide +kernel
theorem dX12_about_42 : decode cX12_about 42 = .ok (.aload_n 0, 1) := by decide +kernel
theorem dX12_about_43 : decode cX12_about 43 = .ok (.getfield 313, 3) := by decide +kernel
theorem dX12_about_46 : decode cX12_about 46 = .ok (.ireturn, 1) := by decide +kernel
theorem dX12_about_47 : decode cX12_about 47 = .ok (.aload_n 0, 1) := by decide +kernel
theorem dX12_about_48 : decode cX12_about 48 = .ok (.getfield 171, 3) := by decide +kernel
theorem dX12_about_51 : decode cX12_about 51 = .ok (.ireturn, 1) := by decide +kernel
theorem dX12_about_52 : decode cX12_about 52 = .ok (.iload_n 1, 1) := by decide +kernel
theorem dX12_about_53 : decode cX12_about 53 = .ok (.bipush 10, 2) := by decide +kernel
theorem dX12_about_55 : decode cX12_about 55 = .ok (.isub, 1) := by decide +kernel
theorem dX12_about_56 : decode cX12_about 56 = .ok (.invokestatic 168, 3) := by decide +kernel
theorem dX12_about_59 : decode cX12_about 59 = .ok (.ifCond .eq 15, 3) := by decide +kernel
theorem dX12_about_62 : decode cX12_about 62 = .ok (.aload_n 0, 1) := by decide +kernel
theorem dX12_about_63 : decode cX12_about 63 = .ok (.getfield 20, 3) := by decide +kernel
theorem dX12_about_66 : decode cX12_about 66 = .ok (.iload_n 1, 1) := by decide +kernel
theorem dX12_about_67 : decode cX12_about 67 = .ok (.bipush 10, 2) := by decide +kernel
theorem dX12_about_69 : decode cX12_about 69 = .ok (.isub, 1) := by decide +kernel
theorem dX12_about_70 : decode cX12_about 70 = .ok (.iaload, 1) := by decide +kernel
theorem dX12_about_71 : decode cX12_about 71 = .ok (.goto 4, 3) := by decide +kernel
theorem dX12_about_74 : decode cX12_about 74 = .ok (.iconst (-1), 1) := by decide +kernel
theorem dX12_about_75 : decode cX12_about 75 = .ok (.ireturn, 1) := by decide +kernel
theorem dX12_feed_0 : decode cX12_feed 0 = .ok (.aload_n 0, 1) := by decide +kernel
theorem dX12_feed_1 : decode cX12_feed 1 = .ok (.getfield 171, 3) := by decide +kernel
theorem dX12_feed_4 : decode cX12_feed 4 = .ok (.bipush 20, 2) := by decide +kernel
theorem dX12_feed_6 : decode cX12_feed 6 = .ok (.iadd, 1) := by decide +kernel
theorem dX12_feed_7 : decode cX12_feed 7 = .ok (.sipush 1600, 3) := by decide +kernel
theorem dX12_feed_10 : decode cX12_feed 10 = .ok (.if_icmp .le 5, 3) := by decide +kernel
theorem dX12_feed_13 : decode cX12_feed 13 = .ok (.iconst (-1), 1) := by decide +kernel
theorem dX12_feed_14 : decode cX12_feed 14 = .ok (.ireturn, 1) := by decide +kernel
theorem dX12_feed_15 : decode cX12_feed 15 = .ok (.iconst 0, 1) := by decide +kernel
theorem dX12_feed_16 : decode cX12_feed 16 = .ok (.istore 6, 2) := by decide +kernel
theorem dX12_feed_18 : decode cX12_feed 18 = .ok (.iload 6, 2) := by decide +kernel
theorem dX12_feed_20 : decode cX12_feed 20 = .ok (.bipush 20, 2) := by decide +kernel
theorem dX12_feed_22 : decode cX12_feed 22 = .ok (.if_icmp .ge 83, 3) := by decide +kernel
theorem dX12_feed_25 : decode cX12_feed 25 = .ok (.iload 6, 2) := by decide +kernel
theorem dX12_feed_27 : decode cX12_feed 27 = .ok (.iconst 4, 1) := by decide +kernel
theorem dX12_feed_28 : decode cX12_feed 28 = .ok (.if_icmp .ge 7, 3) := by decide +kernel
theorem dX12_feed_31 : decode cX12_feed 31 = .ok (.iload_n 1, 1) := by decide +kernel
theorem dX12_feed_32 : decode cX12_feed 32 = .ok (.goto 39, 3) := by decide +kernel
theorem dX12_feed_35 : decode cX12_feed 35 = .ok (.iload 6, 2) := by decide +kernel
theorem dX12_feed_37 : decode cX12_feed 37 = .ok (.bipush 8, 2) := by decide +kernel
theorem dX12_feed_39 : decode cX12_feed 39 = .ok (.if_icmp .ge 7, 3) := by decide +kernel
theorem dX12_feed_42 : decode cX12_feed 42 = .ok (.iload_n 2, 1) := by decide +kernel
theorem dX12_feed_43 : decode cX12_feed 43 = .ok (.goto 28, 3) := by decide +kernel
theorem dX12_feed_46 : decode cX12_feed 46 = .ok (.iload 6, 2) := by decide +kernel
theorem dX12_feed_48 : decode cX12_feed 48 = .ok (.bipush 12, 2) := by decide +kernel
theorem dX12_feed_50 : decode cX12_feed 50 = .ok (.if_icmp .ge 7, 3) := by decide +kernel
theorem dX12_feed_53 : decode cX12_feed 53 = .ok (.iload_n 3, 1) := by decide +kernel
theorem dX12_feed_54 : decode cX12_feed 54 = .ok (.goto 17, 3) := by decide +kernel
theorem dX12_feed_57 : decode cX12_feed 57 = .ok (.iload 6, 2) := by decide +kernel
theorem dX12_feed_59 : decode cX12_feed 59 = .ok (.bipush 16, 2) := by decide +kernel
theorem dX12_feed_61 : decode cX12_feed 61 = .ok (.if_icmp .ge 8, 3) := by decide +kernel
theorem dX12_feed_64 : decode cX12_feed 64 = .ok (.iload 4, 2) := by decide +kernel
theorem dX12_feed_66 : decode cX12_feed 66 = .ok (.goto 5, 3) := by decide +kernel
theorem dX12_feed_69 : decode cX12_feed 69 = .ok (.iload 5, 2) := by decide +kernel
theorem dX12_feed_71 : decode cX12_feed 71 = .ok (.istore 7, 2) := by decide +kernel
theorem dX12_feed_73 : decode cX12_feed 73 = .ok (.aload_n 0, 1) := by decide +kernel
theorem dX12_feed_74 : decode cX12_feed 74 = .ok (.getfield 7, 3) := by decide +kernel
theorem dX12_feed_77 : decode cX12_feed 77 = .ok (.aload_n 0, 1) := by decide +kernel
theorem dX12_feed_78 : decode cX12_feed 78 = .ok (.getfield 171, 3) := by decide +kernel
theorem dX12_feed_81 : decode cX12_feed 81 = .ok (.iload 6, 2) := by decide +kernel
theorem dX12_feed_83 : decode cX12_feed 83 = .ok (.iadd, 1) := by decide +kernel
theorem dX12_feed_84 : decode cX12_feed 84 = .ok (.iload 7, 2) := by decide +kernel
theorem dX12_feed_86 : decode cX12_feed 86 = .ok (.bipush 24, 2) := by decide +kernel
theorem dX12_feed_88 : decode cX12_feed 88 = .ok (.bipush 8, 2) := by decide +kernel
theorem dX12_feed_90 : decode cX12_feed 90 = .ok (.iload 6, 2) := by decide +kernel
theorem dX12_feed_92 : decode cX12_feed 92 = .ok (.iconst 3, 1) := by decide +kernel
theorem dX12_feed_93 : decode cX12_feed 93 = .ok (.iand, 1) := by decide +kernel
theorem dX12_feed_94 : decode cX12_feed 94 = .ok (.imul, 1) := by decide +kernel
theorem dX12_feed_95 : decode cX12_feed 95 = .ok (.isub, 1) := by decide +kernel
theorem dX12_feed_96 : decode cX12_feed 96 = .ok (.ishr, 1) := by decide +kernel
theorem dX12_feed_97 : decode cX12_feed 97 = .ok (.i2b, 1) := by decide +kernel
theorem dX12_feed_98 : decode cX12_feed 98 = .ok (.bastore, 1) := by decide +kernel
theorem dX12_feed_99 : decode cX12_feed 99 = .ok (.iinc 6 1, 3) := by decide +kernel
theorem dX12_feed_102 : decode cX12_feed 102 = .ok (.goto (-84), 3) := by decide +kernel
theorem dX12_feed_105 : decode cX12_feed 105 = .ok (.aload_n 0, 1) := by decide +kernel
theorem dX12_feed_106 : decode cX12_feed 106 = .ok (.dup, 1) := by decide +kernel
theorem dX12_feed_107 : decode cX12_feed 107 = .ok (.getfield 171, 3) := by decide +kernel
theorem dX12_feed_110 : decode cX12_feed 110 = .ok (.bipush 20, 2) := by decide +kernel
theorem dX12_feed_112 : decode cX12_feed 112 = .ok (.iadd, 1) := by decide +kernel
theorem dX12_feed_113 : decode cX12_feed 113 = .ok (.putfield 171, 3) := by decide +kernel
theorem dX12_feed_116 : decode cX12_feed 116 = .ok (.aload_n 0, 1) := by decide +kernel
theorem dX12_feed_117 : decode cX12_feed 117 = .ok (.getfield 171, 3) := by decide +kernel
theorem dX12_feed_120 : decode cX12_feed 120 = .ok (.ireturn, 1) := by decide +kernel
theorem dX12_end_0 : decode cX12_end 0 = .ok (.iload_n 1, 1) := by decide +kernel
theorem dX12_end_1 : decode cX12_end 1 = .ok (.ifCond .lt 11, 3) := by decide +kernel
theorem dX12_end_4 : decode cX12_end 4 = .ok (.iload_n 1, 1) := by decide +kernel
theorem dX12_end_5 : decode cX12_end 5 = .ok (.aload_n 0, 1) := by decide +kernel
theorem dX12_end_6 : decode cX12_end 6 = .ok (.getfield 171, 3) := by decide +kernel
theorem dX12_end_9 : decode cX12_end 9 = .ok (.if_icmp .le 5, 3) := by decide +kernel
theorem dX12_end_12 : decode cX12_end 12 = .ok (.iconst (-1), 1) := by decide +kernel
theorem dX12_end_13 : decode cX12_end 13 = .ok (.ireturn, 1) := by decide +kernel
theorem dX12_end_14 : decode cX12_end 14 = .ok (.aload_n 0, 1) := by decide +kernel
theorem dX12_end_15 : decode cX12_end 15 = .ok (.iload_n 1, 1) := by decide +kernel
theorem dX12_end_16 : decode cX12_end 16 = .ok (.putfield 171, 3) := by decide +kernel
theorem dX12_end_19 : decode cX12_end 19 = .ok (.iload_n 1, 1) := by decide +kernel
theorem dX12_end_20 : decode cX12_end 20 = .ok (.ireturn, 1) := by decide +kernel
end
section
theorem dL_law_0 : decode cL_law 0 = .ok (.new 7, 3) := by decide +kernel
theorem dL_law_3 : decode cL_law 3 = .ok (.dup, 1) := by decide +kernel
theorem dL_law_4 : decode cL_law 4 = .ok (.invokespecial 9, 3) := by decide +kernel
theorem dL_law_7 : decode cL_law 7 = .ok (.astore_n 1, 1) := by decide +kernel
theorem dL_law_8 : decode cL_law 8 = .ok (.new 10, 3) := by decide +kernel
theorem dL_law_11 : decode cL_law 11 = .ok (.dup, 1) := by decide +kernel
theorem dL_law_12 : decode cL_law 12 = .ok (.invokespecial 12, 3) := by decide +kernel
theorem dL_law_15 : decode cL_law 15 = .ok (.astore_n 2, 1) := by decide +kernel
theorem dL_law_16 : decode cL_law 16 = .ok (.iconst 0, 1) := by decide +kernel
theorem dL_law_17 : decode cL_law 17 = .ok (.istore_n 3, 1) := by decide +kernel
theorem dL_law_18 : decode cL_law 18 = .ok (.iload_n 3, 1) := by decide +kernel
theorem dL_law_19 : decode cL_law 19 = .ok (.aload_n 0, 1) := by decide +kernel
theorem dL_law_20 : decode cL_law 20 = .ok (.arraylength, 1) := by decide +kernel
theorem dL_law_21 : decode cL_law 21 = .ok (.bipush 6, 2) := by decide +kernel
theorem dL_law_23 : decode cL_law 23 = .ok (.isub, 1) := by decide +kernel
theorem dL_law_24 : decode cL_law 24 = .ok (.if_icmp .gt 1131, 3) := by decide +kernel
theorem dL_law_27 : decode cL_law 27 = .ok (.aload_n 0, 1) := by decide +kernel
theorem dL_law_28 : decode cL_law 28 = .ok (.iload_n 3, 1) := by decide +kernel
theorem dL_law_29 : decode cL_law 29 = .ok (.iaload, 1) := by decide +kernel
theorem dL_law_30 : decode cL_law 30 = .ok (.bipush 31, 2) := by decide +kernel
theorem dL_law_32 : decode cL_law 32 = .ok (.iand, 1) := by decide +kernel
theorem dL_law_33 : decode cL_law 33 = .ok (.tableswitch 1116 0 26 #[123, 186, 209, 232, 255, 298, 351, 404, 457, 480, 523, 546, 599, 662, 695, 708, 721, 734, 757, 810, 873, 932, 1001, 1014, 1037, 1060, 1093], 123) := by decide +kernel
theorem dL_law_156 : decode cL_law 156 = .ok (.aload_n 1, 1) := by decide +kernel
theorem dL_law_157 : decode cL_law 157 = .ok (.aload_n 0, 1) := by decide +kernel
theorem dL_law_158 : decode cL_law 158 = .ok (.iload_n 3, 1) := by decide +kernel
theorem dL_law_159 : decode cL_law 159 = .ok (.iconst 1, 1) := by decide +kernel
theorem dL_law_160 : decode cL_law 160 = .ok (.iadd, 1) := by decide +kernel
theorem dL_law_161 : decode cL_law 161 = .ok (.iaload, 1) := by decide +kernel
theorem dL_law_162 : decode cL_law 162 = .ok (.aload_n 0, 1) := by decide +kernel
theorem dL_law_163 : decode cL_law 163 = .ok (.iload_n 3, 1) := by decide +kernel
theorem dL_law_164 : decode cL_law 164 = .ok (.iconst 2, 1) := by decide +kernel
theorem dL_law_165 : decode cL_law 165 = .ok (.iadd, 1) := by decide +kernel
theorem dL_law_166 : decode cL_law 166 = .ok (.iaload, 1) := by decide +kernel
theorem dL_law_167 : decode cL_law 167 = .ok (.aload_n 0, 1) := by decide +kernel
theorem dL_law_168 : decode cL_law 168 = .ok (.iload_n 3, 1) := by decide +kernel
theorem dL_law_169 : decode cL_law 169 = .ok (.iconst 3, 1) := by decide +kernel
theorem dL_law_170 : decode cL_law 170 = .ok (.iadd, 1) := by decide +kernel
theorem dL_law_171 : decode cL_law 171 = .ok (.iaload, 1) := by decide +kernel
theorem dL_law_172 : decode cL_law 172 = .ok (.aload_n 0, 1) := by decide +kernel
theorem dL_law_173 : decode cL_law 173 = .ok (.iload_n 3, 1) := by decide +kernel
theorem dL_law_174 : decode cL_law 174 = .ok (.iconst 4, 1) := by decide +kernel
theorem dL_law_175 : decode cL_law 175 = .ok (.iadd, 1) := by decide +kernel
theorem dL_law_176 : decode cL_law 176 = .ok (.iaload, 1) := by decide +kernel
theorem dL_law_177 : decode cL_law 177 = .ok (.aload_n 0, 1) := by decide +kernel
theorem dL_law_178 : decode cL_law 178 = .ok (.iload_n 3, 1) := by decide +kernel
theorem dL_law_179 : decode cL_law 179 = .ok (.iconst 5, 1) := by decide +kernel
theorem dL_law_180 : decode cL_law 180 = .ok (.iadd, 1) := by decide +kernel
theorem dL_law_181 : decode cL_law 181 = .ok (.iaload, 1) := by decide +kernel
theorem dL_law_182 : decode cL_law 182 = .ok (.invokevirtual 13, 3) := by decide +kernel
theorem dL_law_185 : decode cL_law 185 = .ok (.aload_n 2, 1) := by decide +kernel
theorem dL_law_186 : decode cL_law 186 = .ok (.aload_n 0, 1) := by decide +kernel
theorem dL_law_187 : decode cL_law 187 = .ok (.iload_n 3, 1) := by decide +kernel
theorem dL_law_188 : decode cL_law 188 = .ok (.iconst 1, 1) := by decide +kernel
theorem dL_law_189 : decode cL_law 189 = .ok (.iadd, 1) := by decide +kernel
theorem dL_law_190 : decode cL_law 190 = .ok (.iaload, 1) := by decide +kernel
theorem dL_law_191 : decode cL_law 191 = .ok (.aload_n 0, 1) := by decide +kernel
theorem dL_law_192 : decode cL_law 192 = .ok (.iload_n 3, 1) := by decide +kernel
theorem dL_law_193 : decode cL_law 193 = .ok (.iconst 2, 1) := by decide +kernel
theorem dL_law_194 : decode cL_law 194 = .ok (.iadd, 1) := by decide +kernel
theorem dL_law_195 : decode cL_law 195 = .ok (.iaload, 1) := by decide +kernel
theorem dL_law_196 : decode cL_law 196 = .ok (.aload_n 0, 1) := by decide +kernel
theorem dL_law_197 : decode cL_law 197 = .ok (.iload_n 3, 1) := by decide +kernel
theorem dL_law_198 : decode cL_law 198 = .ok (.iconst 3, 1) := by decide +kernel
theorem dL_law_199 : decode cL_law 199 = .ok (.iadd, 1) := by decide +kernel
theorem dL_law_200 : decode cL_law 200 = .ok (.iaload, 1) := by decide +kernel
theorem dL_law_201 : decode cL_law 201 = .ok (.aload_n 0, 1) := by decide +kernel
theorem dL_law_202 : decode cL_law 202 = .ok (.iload_n 3, 1) := by decide +kernel
theorem dL_law_203 : decode cL_law 203 = .ok (.iconst 4, 1) := by decide +kernel
theorem dL_law_204 : decode cL_law 204 = .ok (.iadd, 1) := by decide +kernel
theorem dL_law_205 : decode cL_law 205 = .ok (.iaload, 1) := by decide +kernel
theorem dL_law_206 : decode cL_law 206 = .ok (.aload_n 0, 1) := by decide +kernel
theorem dL_law_207 : decode cL_law 207 = .ok (.iload_n 3, 1) := by decide +kernel
theorem dL_law_208 : decode cL_law 208 = .ok (.iconst 5, 1) := by decide +kernel
theorem dL_law_209 : decode cL_law 209 = .ok (.iadd, 1) := by decide +kernel
theorem dL_law_210 : decode cL_law 210 = .ok (.iaload, 1) := by decide +kernel
theorem dL_law_211 : decode cL_law 211 = .ok (.invokevirtual 17, 3) := by decide +kernel
theorem dL_law_214 : decode cL_law 214 = .ok (.if_icmp .eq 935, 3) := by decide +kernel
theorem dL_law_217 : decode cL_law 217 = .ok (.iconst 0, 1) := by decide +kernel
theorem dL_law_218 : decode cL_law 218 = .ok (.ireturn, 1) := by decide +kernel
theorem dL_law_219 : decode cL_law 219 = .ok (.aload_n 1, 1) := by decide +kernel
theorem dL_law_220 : decode cL_law 220 = .ok (.aload_n 0, 1) := by decide +kernel
theorem dL_law_221 : decode cL_law 221 = .ok (.iload_n 3, 1) := by decide +kernel
theorem dL_law_222 : decode cL_law 222 = .ok (.iconst 1, 1) := by decide +kernel
theorem dL_law_223 : decode cL_law 223 = .ok (.iadd, 1) := by decide +kernel
theorem dL_law_224 : decode cL_law 224 = .ok (.iaload, 1) := by decide +kernel
theorem dL_law_225 : decode cL_law 225 = .ok (.invokevirtual 18, 3) := by decide +kernel
theorem dL_law_228 : decode cL_law 228 = .ok (.pop, 1) := by decide +kernel
theorem dL_law_229 : decode cL_law 229 = .ok (.aload_n 2, 1) := by decide +kernel
theorem dL_law_230 : decode cL_law 230 = .ok (.aload_n 0, 1) := by decide +kernel
theorem dL_law_231 : decode cL_law 231 = .ok (.iload_n 3, 1) := by decide +kernel
theorem dL_law_232 : decode cL_law 232 = .ok (.iconst 1, 1) := by decide +kernel
theorem dL_law_233 : decode cL_law 233 = .ok (.iadd, 1) := by decide +kernel
theorem dL_law_234 : decode cL_law 234 = .ok (.iaload, 1) := by decide +kernel
theorem dL_law_235 : decode cL_law 235 = .ok (.invokevirtual 22, 3) := by decide +kernel
theorem dL_law_238 : decode cL_law 238 = .ok (.pop, 1) := by decide +kernel
theorem dL_law_239 : decode cL_law 239 = .ok (.goto 910, 3) := by decide +kernel
theorem dL_law_242 : decode cL_law 242 = .ok (.aload_n 1, 1) := by decide +kernel
theorem dL_law_243 : decode cL_law 243 = .ok (.aload_n 0, 1) := by decide +kernel
theorem dL_law_244 : decode cL_law 244 = .ok (.iload_n 3, 1) := by decide +kernel
theorem dL_law_245 : decode cL_law 245 = .ok (.iconst 1, 1) := by decide +kernel
theorem dL_law_246 : decode cL_law 246 = .ok (.iadd, 1) := by decide +kernel
theorem dL_law_247 : decode cL_law 247 = .ok (.iaload, 1) := by decide +kernel
theorem dL_law_248 : decode cL_law 248 = .ok (.invokevirtual 23, 3) := by decide +kernel
theorem dL_law_251 : decode cL_law 251 = .ok (.pop, 1) := by decide +kernel
theorem dL_law_252 : decode cL_law 252 = .ok (.aload_n 2, 1) := by decide +kernel
theorem dL_law_253 : decode cL_law 253 = .ok (.aload_n 0, 1) := by decide +kernel
theorem dL_law_254 : decode cL_law 254 = .ok (.iload_n 3, 1) := by decide +kernel
theorem dL_law_255 : decode cL_law 255 = .ok (.iconst 1, 1) := by decide +kernel
theorem dL_law_256 : decode cL_law 256 = .ok (.iadd, 1) := by decide +kernel
theorem dL_law_257 : decode cL_law 257 = .ok (.iaload, 1) := by decide +kernel
theorem dL_law_258 : decode cL_law 258 = .ok (.invokevirtual 26, 3) := by decide +kernel
theorem dL_law_261 : decode cL_law 261 = .ok (.pop, 1) := by decide +kernel
theorem dL_law_262 : decode cL_law 262 = .ok (.goto 887, 3) := by decide +kernel
theorem dL_law_265 : decode cL_law 265 = .ok (.aload_n 1, 1) := by decide +kernel
theorem dL_law_266 : decode cL_law 266 = .ok (.aload_n 0, 1) := by decide +kernel
theorem dL_law_267 : decode cL_law 267 = .ok (.iload_n 3, 1) := by decide +kernel
theorem dL_law_268 : decode cL_law 268 = .ok (.iconst 1, 1) := by decide +kernel
theorem dL_law_269 : decode cL_law 269 = .ok (.iadd, 1) := by decide +kernel
theorem dL_law_270 : decode cL_law 270 = .ok (.iaload, 1) := by decide +kernel
theorem dL_law_271 : decode cL_law 271 = .ok (.invokevirtual 27, 3) := by decide +kernel
theorem dL_law_274 : decode cL_law 274 = .ok (.pop, 1) := by decide +kernel
theorem dL_law_275 : decode cL_law 275 = .ok (.aload_n 2, 1) := by decide +kernel
theorem dL_law_276 : decode cL_law 276 = .ok (.aload_n 0, 1) := by decide +kernel
theorem dL_law_277 : decode cL_law 277 = .ok (.iload_n 3, 1) := by decide +kernel
theorem dL_law_278 : decode cL_law 278 = .ok (.iconst 1, 1) := by decide +kernel
theorem dL_law_279 : decode cL_law 279 = .ok (.iadd, 1) := by decide +kernel
theorem dL_law_280 : decode cL_law 280 = .ok (.iaload, 1) := by decide +kernel
theorem dL_law_281 : decode cL_law 281 = .ok (.invokevirtual 30, 3) := by decide +kernel
theorem dL_law_284 : decode cL_law 284 = .ok (.pop, 1) := by decide +kernel
theorem dL_law_285 : decode cL_law 285 = .ok (.goto 864, 3) := by decide +kernel
theorem dL_law_288 : decode cL_law 288 = .ok (.aload_n 1, 1) := by decide +kernel
theorem dL_law_289 : decode cL_law 289 = .ok (.aload_n 0, 1) := by decide +kernel
theorem dL_law_290 : decode cL_law 290 = .ok (.iload_n 3, 1) := by decide +kernel
theorem dL_law_291 : decode cL_law 291 = .ok (.iconst 1, 1) := by decide +kernel
theorem dL_law_292 : decode cL_law 292 = .ok (.iadd, 1) := by decide +kernel
theorem dL_law_293 : decode cL_law 293 = .ok (.iaload, 1) := by decide +kernel
theorem dL_law_294 : decode cL_law 294 = .ok (.aload_n 0, 1) := by decide +kernel
theorem dL_law_295 : decode cL_law 295 = .ok (.iload_n 3, 1) := by decide +kernel
theorem dL_law_296 : decode cL_law 296 = .ok (.iconst 2, 1) := by decide +kernel
theorem dL_law_297 : decode cL_law 297 = .ok (.iadd, 1) := by decide +kernel
theorem dL_law_298 : decode cL_law 298 = .ok (.iaload, 1) := by decide +kernel
theorem dL_law_299 : decode cL_law 299 = .ok (.aload_n 0, 1) := by decide +kernel
theorem dL_law_300 : decode cL_law 300 = .ok (.iload_n 3, 1) := by decide +kernel
theorem dL_law_301 : decode cL_law 301 = .ok (.iconst 3, 1) := by decide +kernel
theorem dL_law_302 : decode cL_law 302 = .ok (.iadd, 1) := by decide +kernel
theorem dL_law_303 : decode cL_law 303 = .ok (.iaload, 1) := by decide +kernel
theorem dL_law_304 : decode cL_law 304 = .ok (.invokevirtual 31, 3) := by decide +kernel
theorem dL_law_307 : decode cL_law 307 = .ok (.pop, 1) := by decide +kernel
theorem dL_law_308 : decode cL_law 308 = .ok (.aload_n 2, 1) := by decide +kernel
theorem dL_law_309 : decode cL_law 309 = .ok (.aload_n 0, 1) := by decide +kernel
theorem dL_law_310 : decode cL_law 310 = .ok (.iload_n 3, 1) := by decide +kernel
theorem dL_law_311 : decode cL_law 311 = .ok (.iconst 1, 1) := by decide +kernel
theorem dL_law_312 : decode cL_law 312 = .ok (.iadd, 1) := by decide +kernel
theorem dL_law_313 : decode cL_law 313 = .ok (.iaload, 1) := by decide +kernel
theorem dL_law_314 : decode cL_law 314 = .ok (.aload_n 0, 1) := by decide +kernel
theorem dL_law_315 : decode cL_law 315 = .ok (.iload_n 3, 1) := by decide +kernel
theorem dL_law_316 : decode cL_law 316 = .ok (.iconst 2, 1) := by decide +kernel
theorem dL_law_317 : decode cL_law 317 = .ok (.iadd, 1) := by decide +kernel
theorem dL_law_318 : decode cL_law 318 = .ok (.iaload, 1) := by decide +kernel
theorem dL_law_319 : decode cL_law 319 = .ok (.aload_n 0, 1) := by decide +kernel
theorem dL_law_320 : decode cL_law 320 = .ok (.iload_n 3, 1) := by decide +kernel
theorem dL_law_321 : decode cL_law 321 = .ok (.iconst 3, 1) := by decide +kernel
theorem dL_law_322 : decode cL_law 322 = .ok (.iadd, 1) := by decide +kernel
theorem dL_law_323 : decode cL_law 323 = .ok (.iaload, 1) := by decide +kernel
theorem dL_law_324 : decode cL_law 324 = .ok (.invokevirtual 35, 3) := by decide +kernel
theorem dL_law_327 : decode cL_law 327 = .ok (.pop, 1) := by decide +kernel
theorem dL_law_328 : decode cL_law 328 = .ok (.goto 821, 3) := by decide +kernel
theorem dL_law_331 : decode cL_law 331 = .ok (.aload_n 1, 1) := by decide +kernel
theorem dL_law_332 : decode cL_law 332 = .ok (.aload_n 0, 1) := by decide +kernel
theorem dL_law_333 : decode cL_law 333 = .ok (.iload_n 3, 1) := by decide +kernel
theorem dL_law_334 : decode cL_law 334 = .ok (.iconst 1, 1) := by decide +kernel
theorem dL_law_335 : decode cL_law 335 = .ok (.iadd, 1) := by decide +kernel
theorem dL_law_336 : decode cL_law 336 = .ok (.iaload, 1) := by decide +kernel
theorem dL_law_337 : decode cL_law 337 = .ok (.aload_n 0, 1) := by decide +kernel
theorem dL_law_338 : decode cL_law 338 = .ok (.iload_n 3, 1) := by decide +kernel
theorem dL_law_339 : decode cL_law 339 = .ok (.iconst 2, 1) := by decide +kernel
theorem dL_law_340 : decode cL_law 340 = .ok (.iadd, 1) := by decide +kernel
theorem dL_law_341 : decode cL_law 341 = .ok (.iaload, 1) := by decide +kernel
theorem dL_law_342 : decode cL_law 342 = .ok (.aload_n 0, 1) := by decide +kernel
theorem dL_law_343 : decode cL_law 343 = .ok (.iload_n 3, 1) := by decide +kernel
theorem dL_law_344 : decode cL_law 344 = .ok (.iconst 3, 1) := by decide +kernel
theorem dL_law_345 : decode cL_law 345 = .ok (.iadd, 1) := by decide +kernel
theorem dL_law_346 : decode cL_law 346 = .ok (.iaload, 1) := by decide +kernel
theorem dL_law_347 : decode cL_law 347 = .ok (.aload_n 0, 1) := by decide +kernel
theorem dL_law_348 : decode cL_law 348 = .ok (.iload_n 3, 1) := by decide +kernel
theorem dL_law_349 : decode cL_law 349 = .ok (.iconst 4, 1) := by decide +kernel
theorem dL_law_350 : decode cL_law 350 = .ok (.iadd, 1) := by decide +kernel
theorem dL_law_351 : decode cL_law 351 = .ok (.iaload, 1) := by decide +kernel
theorem dL_law_352 : decode cL_law 352 = .ok (.invokevirtual 36, 3) := by decide +kernel
theorem dL_law_355 : decode cL_law 355 = .ok (.pop, 1) := by decide +kernel
theorem dL_law_356 : decode cL_law 356 = .ok (.aload_n 2, 1) := by decide +kernel
theorem dL_law_357 : decode cL_law 357 = .ok (.aload_n 0, 1) := by decide +kernel
theorem dL_law_358 : decode cL_law 358 = .ok (.iload_n 3, 1) := by decide +kernel
theorem dL_law_359 : decode cL_law 359 = .ok (.iconst 1, 1) := by decide +kernel
theorem dL_law_360 : decode cL_law 360 = .ok (.iadd, 1) := by decide +kernel
theorem dL_law_361 : decode cL_law 361 = .ok (.iaload, 1) := by decide +kernel
theorem dL_law_362 : decode cL_law 362 = .ok (.aload_n 0, 1) := by decide +kernel
theorem dL_law_363 : decode cL_law 363 = .ok (.iload_n 3, 1) := by decide +kernel
theorem dL_law_364 : decode cL_law 364 = .ok (.iconst 2, 1) := by decide +kernel
theorem dL_law_365 : decode cL_law 365 = .ok (.iadd, 1) := by decide +kernel
theorem dL_law_366 : decode cL_law 366 = .ok (.iaload, 1) := by decide +kernel
theorem dL_law_367 : decode cL_law 367 = .ok (.aload_n 0, 1) := by decide +kernel
theorem dL_law_368 : decode cL_law 368 = .ok (.iload_n 3, 1) := by decide +kernel
theorem dL_law_369 : decode cL_law 369 = .ok (.iconst 3, 1) := by decide +kernel
theorem dL_law_370 : decode cL_law 370 = .ok (.iadd, 1) := by decide +kernel
theorem dL_law_371 : decode cL_law 371 = .ok (.iaload, 1) := by decide +kernel
theorem dL_law_372 : decode cL_law 372 = .ok (.aload_n 0, 1) := by decide +kernel
theorem dL_law_373 : decode cL_law 373 = .ok (.iload_n 3, 1) := by decide +kernel
theorem dL_law_374 : decode cL_law 374 = .ok (.iconst 4, 1) := by decide +kernel
theorem dL_law_375 : decode cL_law 375 = .ok (.iadd, 1) := by decide +kernel
theorem dL_law_376 : decode cL_law 376 = .ok (.iaload, 1) := by decide +kernel
theorem dL_law_377 : decode cL_law 377 = .ok (.invokevirtual 40, 3) := by decide +kernel
theorem dL_law_380 : decode cL_law 380 = .ok (.pop, 1) := by decide +kernel
theorem dL_law_381 : decode cL_law 381 = .ok (.goto 768, 3) := by decide +kernel
theorem dL_law_384 : decode cL_law 384 = .ok (.aload_n 1, 1) := by decide +kernel
theorem dL_law_385 : decode cL_law 385 = .ok (.aload_n 0, 1) := by decide +kernel
theorem dL_law_386 : decode cL_law 386 = .ok (.iload_n 3, 1) := by decide +kernel
theorem dL_law_387 : decode cL_law 387 = .ok (.iconst 1, 1) := by decide +kernel
theorem dL_law_388 : decode cL_law 388 = .ok (.iadd, 1) := by decide +kernel
theorem dL_law_389 : decode cL_law 389 = .ok (.iaload, 1) := by decide +kernel
theorem dL_law_390 : decode cL_law 390 = .ok (.aload_n 0, 1) := by decide +kernel
theorem dL_law_391 : decode cL_law 391 = .ok (.iload_n 3, 1) := by decide +kernel
theorem dL_law_392 : decode cL_law 392 = .ok (.iconst 2, 1) := by decide +kernel
theorem dL_law_393 : decode cL_law 393 = .ok (.iadd, 1) := by decide +kernel
theorem dL_law_394 : decode cL_law 394 = .ok (.iaload, 1) := by decide +kernel
theorem dL_law_395 : decode cL_law 395 = .ok (.aload_n 0, 1) := by decide +kernel
theorem dL_law_396 : decode cL_law 396 = .ok (.iload_n 3, 1) := by decide +kernel
theorem dL_law_397 : decode cL_law 397 = .ok (.iconst 3, 1) := by decide +kernel
theorem dL_law_398 : decode cL_law 398 = .ok (.iadd, 1) := by decide +kernel
theorem dL_law_399 : decode cL_law 399 = .ok (.iaload, 1) := by decide +kernel
theorem dL_law_400 : decode cL_law 400 = .ok (.aload_n 0, 1) := by decide +kernel
theorem dL_law_401 : decode cL_law 401 = .ok (.iload_n 3, 1) := by decide +kernel
theorem dL_law_402 : decode cL_law 402 = .ok (.iconst 4, 1) := by decide +kernel
theorem dL_law_403 : decode cL_law 403 = .ok (.iadd, 1) := by decide +kernel
theorem dL_law_404 : decode cL_law 404 = .ok (.iaload, 1) := by decide +kernel
theorem dL_law_405 : decode cL_law 405 = .ok (.invokevirtual 41, 3) := by decide +kernel
theorem dL_law_408 : decode cL_law 408 = .ok (.pop, 1) := by decide +kernel
theorem dL_law_409 : decode cL_law 409 = .ok (.aload_n 2, 1) := by decide +kernel
theorem dL_law_410 : decode cL_law 410 = .ok (.aload_n 0, 1) := by decide +kernel
theorem dL_law_411 : decode cL_law 411 = .ok (.iload_n 3, 1) := by decide +kernel
theorem dL_law_412 : decode cL_law 412 = .ok (.iconst 1, 1) := by decide +kernel
theorem dL_law_413 : decode cL_law 413 = .ok (.iadd, 1) := by decide +kernel
theorem dL_law_414 : decode cL_law 414 = .ok (.iaload, 1) := by decide +kernel
theorem dL_law_415 : decode cL_law 415 = .ok (.aload_n 0, 1) := by decide +kernel
theorem dL_law_416 : decode cL_law 416 = .ok (.iload_n 3, 1) := by decide +kernel
theorem dL_law_417 : decode cL_law 417 = .ok (.iconst 2, 1) := by decide +kernel
theorem dL_law_418 : decode cL_law 418 = .ok (.iadd, 1) := by decide +kernel
theorem dL_law_419 : decode cL_law 419 = .ok (.iaload, 1) := by decide +kernel
theorem dL_law_420 : decode cL_law 420 = .ok (.aload_n 0, 1) := by decide +kernel
theorem dL_law_421 : decode cL_law 421 = .ok (.iload_n 3, 1) := by decide +kernel
theorem dL_law_422 : decode cL_law 422 = .ok (.iconst 3, 1) := by decide +kernel
theorem dL_law_423 : decode cL_law 423 = .ok (.iadd, 1) := by decide +kernel
theorem dL_law_424 : decode cL_law 424 = .ok (.iaload, 1) := by decide +kernel
theorem dL_law_425 : decode cL_law 425 = .ok (.aload_n 0, 1) := by decide +kernel
theorem dL_law_426 : decode cL_law 426 = .ok (.iload_n 3, 1) := by decide +kernel
theorem dL_law_427 : decode cL_law 427 = .ok (.iconst 4, 1) := by decide +kernel
theorem dL_law_428 : decode cL_law 428 = .ok (.iadd, 1) := by decide +kernel
theorem dL_law_429 : decode cL_law 429 = .ok (.iaload, 1) := by decide +kernel
theorem dL_law_430 : decode cL_law 430 = .ok (.invokevirtual 44, 3) := by decide +kernel
theorem dL_law_433 : decode cL_law 433 = .ok (.pop, 1) := by decide +kernel
theorem dL_law_434 : decode cL_law 434 = .ok (.goto 715, 3) := by decide +kernel
theorem dL_law_437 : decode cL_law 437 = .ok (.aload_n 1, 1) := by decide +kernel
theorem dL_law_438 : decode cL_law 438 = .ok (.aload_n 0, 1) := by decide +kernel
theorem dL_law_439 : decode cL_law 439 = .ok (.iload_n 3, 1) := by decide +kernel
theorem dL_law_440 : decode cL_law 440 = .ok (.iconst 1, 1) := by decide +kernel
theorem dL_law_441 : decode cL_law 441 = .ok (.iadd, 1) := by decide +kernel
theorem dL_law_442 : decode cL_law 442 = .ok (.iaload, 1) := by decide +kernel
theorem dL_law_443 : decode cL_law 443 = .ok (.aload_n 0, 1) := by decide +kernel
theorem dL_law_444 : decode cL_law 444 = .ok (.iload_n 3, 1) := by decide +kernel
theorem dL_law_445 : decode cL_law 445 = .ok (.iconst 2, 1) := by decide +kernel
theorem dL_law_446 : decode cL_law 446 = .ok (.iadd, 1) := by decide +kernel
theorem dL_law_447 : decode cL_law 447 = .ok (.iaload, 1) := by decide +kernel
theorem dL_law_448 : decode cL_law 448 = .ok (.aload_n 0, 1) := by decide +kernel
theorem dL_law_449 : decode cL_law 449 = .ok (.iload_n 3, 1) := by decide +kernel
theorem dL_law_450 : decode cL_law 450 = .ok (.iconst 3, 1) := by decide +kernel
theorem dL_law_451 : decode cL_law 451 = .ok (.iadd, 1) := by decide +kernel
theorem dL_law_452 : decode cL_law 452 = .ok (.iaload, 1) := by decide +kernel
theorem dL_law_453 : decode cL_law 453 = .ok (.aload_n 0, 1) := by decide +kernel
theorem dL_law_454 : decode cL_law 454 = .ok (.iload_n 3, 1) := by decide +kernel
theorem dL_law_455 : decode cL_law 455 = .ok (.iconst 4, 1) := by decide +kernel
theorem dL_law_456 : decode cL_law 456 = .ok (.iadd, 1) := by decide +kernel
theorem dL_law_457 : decode cL_law 457 = .ok (.iaload, 1) := by decide +kernel
theorem dL_law_458 : decode cL_law 458 = .ok (.invokevirtual 45, 3) := by decide +kernel
theorem dL_law_461 : decode cL_law 461 = .ok (.pop, 1) := by decide +kernel
theorem dL_law_462 : decode cL_law 462 = .ok (.aload_n 2, 1) := by decide +kernel
theorem dL_law_463 : decode cL_law 463 = .ok (.aload_n 0, 1) := by decide +kernel
theorem dL_law_464 : decode cL_law 464 = .ok (.iload_n 3, 1) := by decide +kernel
theorem dL_law_465 : decode cL_law 465 = .ok (.iconst 1, 1) := by decide +kernel
theorem dL_law_466 : decode cL_law 466 = .ok (.iadd, 1) := by decide +kernel
theorem dL_law_467 : decode cL_law 467 = .ok (.iaload, 1) := by decide +kernel
theorem dL_law_468 : decode cL_law 468 = .ok (.aload_n 0, 1) := by decide +kernel
theorem dL_law_469 : decode cL_law 469 = .ok (.iload_n 3, 1) := by decide +kernel
theorem dL_law_470 : decode cL_law 470 = .ok (.iconst 2, 1) := by decide +kernel
theorem dL_law_471 : decode cL_law 471 = .ok (.iadd, 1) := by decide +kernel
theorem dL_law_472 : decode cL_law 472 = .ok (.iaload, 1) := by decide +kernel
theorem dL_law_473 : decode cL_law 473 = .ok (.aload_n 0, 1) := by decide +kernel
theorem dL_law_474 : decode cL_law 474 = .ok (.iload_n 3, 1) := by decide +kernel
theorem dL_law_475 : decode cL_law 475 = .ok (.iconst 3, 1) := by decide +kernel
theorem dL_law_476 : decode cL_law 476 = .ok (.iadd, 1) := by decide +kernel
theorem dL_law_477 : decode cL_law 477 = .ok (.iaload, 1) := by decide +kernel
theorem dL_law_478 : decode cL_law 478 = .ok (.aload_n 0, 1) := by decide +kernel
theorem dL_law_479 : decode cL_law 479 = .ok (.iload_n 3, 1) := by decide +kernel
theorem dL_law_480 : decode cL_law 480 = .ok (.iconst 4, 1) := by decide +kernel
theorem dL_law_481 : decode cL_law 481 = .ok (.iadd, 1) := by decide +kernel
theorem dL_law_482 : decode cL_law 482 = .ok (.iaload, 1) := by decide +kernel
theorem dL_law_483 : decode cL_law 483 = .ok (.invokevirtual 48, 3) := by decide +kernel
theorem dL_law_486 : decode cL_law 486 = .ok (.pop, 1) := by decide +kernel
theorem dL_law_487 : decode cL_law 487 = .ok (.goto 662, 3) := by decide +kernel
theorem dL_law_490 : decode cL_law 490 = .ok (.aload_n 1, 1) := by decide +kernel
theorem dL_law_491 : decode cL_law 491 = .ok (.aload_n 0, 1) := by decide +kernel
theorem dL_law_492 : decode cL_law 492 = .ok (.iload_n 3, 1) := by decide +kernel
theorem dL_law_493 : decode cL_law 493 = .ok (.iconst 1, 1) := by decide +kernel
theorem dL_law_494 : decode cL_law 494 = .ok (.iadd, 1) := by decide +kernel
theorem dL_law_495 : decode cL_law 495 = .ok (.iaload, 1) := by decide +kernel
theorem dL_law_496 : decode cL_law 496 = .ok (.invokevirtual 49, 3) := by decide +kernel
theorem dL_law_499 : decode cL_law 499 = .ok (.pop, 1) := by decide +kernel
theorem dL_law_500 : decode cL_law 500 = .ok (.aload_n 2, 1) := by decide +kernel
theorem dL_law_501 : decode cL_law 501 = .ok (.aload_n 0, 1) := by decide +kernel
theorem dL_law_502 : decode cL_law 502 = .ok (.iload_n 3, 1) := by decide +kernel
theorem dL_law_503 : decode cL_law 503 = .ok (.iconst 1, 1) := by decide +kernel
theorem dL_law_504 : decode cL_law 504 = .ok (.iadd, 1) := by decide +kernel
theorem dL_law_505 : decode cL_law 505 = .ok (.iaload, 1) := by decide +kernel
theorem dL_law_506 : decode cL_law 506 = .ok (.invokevirtual 53, 3) := by decide +kernel
theorem dL_law_509 : decode cL_law 509 = .ok (.pop, 1) := by decide +kernel
theorem dL_law_510 : decode cL_law 510 = .ok (.goto 639, 3) := by decide +kernel
theorem dL_law_513 : decode cL_law 513 = .ok (.aload_n 1, 1) := by decide +kernel
theorem dL_law_514 : decode cL_law 514 = .ok (.aload_n 0, 1) := by decide +kernel
theorem dL_law_515 : decode cL_law 515 = .ok (.iload_n 3, 1) := by decide +kernel
theorem dL_law_516 : decode cL_law 516 = .ok (.iconst 1, 1) := by decide +kernel
theorem dL_law_517 : decode cL_law 517 = .ok (.iadd, 1) := by decide +kernel
theorem dL_law_518 : decode cL_law 518 = .ok (.iaload, 1) := by decide +kernel
theorem dL_law_519 : decode cL_law 519 = .ok (.aload_n 0, 1) := by decide +kernel
theorem dL_law_520 : decode cL_law 520 = .ok (.iload_n 3, 1) := by decide +kernel
theorem dL_law_521 : decode cL_law 521 = .ok (.iconst 2, 1) := by decide +kernel
theorem dL_law_522 : decode cL_law 522 = .ok (.iadd, 1) := by decide +kernel
theorem dL_law_523 : decode cL_law 523 = .ok (.iaload, 1) := by decide +kernel
theorem dL_law_524 : decode cL_law 524 = .ok (.aload_n 0, 1) := by decide +kernel
theorem dL_law_525 : decode cL_law 525 = .ok (.iload_n 3, 1) := by decide +kernel
theorem dL_law_526 : decode cL_law 526 = .ok (.iconst 3, 1) := by decide +kernel
theorem dL_law_527 : decode cL_law 527 = .ok (.iadd, 1) := by decide +kernel
theorem dL_law_528 : decode cL_law 528 = .ok (.iaload, 1) := by decide +kernel
theorem dL_law_529 : decode cL_law 529 = .ok (.invokevirtual 54, 3) := by decide +kernel
theorem dL_law_532 : decode cL_law 532 = .ok (.pop, 1) := by decide +kernel
theorem dL_law_533 : decode cL_law 533 = .ok (.aload_n 2, 1) := by decide +kernel
theorem dL_law_534 : decode cL_law 534 = .ok (.aload_n 0, 1) := by decide +kernel
theorem dL_law_535 : decode cL_law 535 = .ok (.iload_n 3, 1) := by decide +kernel
theorem dL_law_536 : decode cL_law 536 = .ok (.iconst 1, 1) := by decide +kernel
theorem dL_law_537 : decode cL_law 537 = .ok (.iadd, 1) := by decide +kernel
theorem dL_law_538 : decode cL_law 538 = .ok (.iaload, 1) := by decide +kernel
theorem dL_law_539 : decode cL_law 539 = .ok (.aload_n 0, 1) := by decide +kernel
theorem dL_law_540 : decode cL_law 540 = .ok (.iload_n 3, 1) := by decide +kernel
theorem dL_law_541 : decode cL_law 541 = .ok (.iconst 2, 1) := by decide +kernel
theorem dL_law_542 : decode cL_law 542 = .ok (.iadd, 1) := by decide +kernel
theorem dL_law_543 : decode cL_law 543 = .ok (.iaload, 1) := by decide +kernel
theorem dL_law_544 : decode cL_law 544 = .ok (.aload_n 0, 1) := by decide +kernel
theorem dL_law_545 : decode cL_law 545 = .ok (.iload_n 3, 1) := by decide +kernel
theorem dL_law_546 : decode cL_law 546 = .ok (.iconst 3, 1) := by decide +kernel
theorem dL_law_547 : decode cL_law 547 = .ok (.iadd, 1) := by decide +kernel
theorem dL_law_548 : decode cL_law 548 = .ok (.iaload, 1) := by decide +kernel
theorem dL_law_549 : decode cL_law 549 = .ok (.invokevirtual 57, 3) := by decide +kernel
theorem dL_law_552 : decode cL_law 552 = .ok (.pop, 1) := by decide +kernel
theorem dL_law_553 : decode cL_law 553 = .ok (.goto 596, 3) := by decide +kernel
theorem dL_law_556 : decode cL_law 556 = .ok (.aload_n 1, 1) := by decide +kernel
theorem dL_law_557 : decode cL_law 557 = .ok (.aload_n 0, 1) := by decide +kernel
theorem dL_law_558 : decode cL_law 558 = .ok (.iload_n 3, 1) := by decide +kernel
theorem dL_law_559 : decode cL_law 559 = .ok (.iconst 1, 1) := by decide +kernel
theorem dL_law_560 : decode cL_law 560 = .ok (.iadd, 1) := by decide +kernel
theorem dL_law_561 : decode cL_law 561 = .ok (.iaload, 1) := by decide +kernel
theorem dL_law_562 : decode cL_law 562 = .ok (.invokevirtual 58, 3) := by decide +kernel
theorem dL_law_565 : decode cL_law 565 = .ok (.pop, 1) := by decide +kernel
theorem dL_law_566 : decode cL_law 566 = .ok (.aload_n 2, 1) := by decide +kernel
theorem dL_law_567 : decode cL_law 567 = .ok (.aload_n 0, 1) := by decide +kernel
theorem dL_law_568 : decode cL_law 568 = .ok (.iload_n 3, 1) := by decide +kernel
theorem dL_law_569 : decode cL_law 569 = .ok (.iconst 1, 1) := by decide +kernel
theorem dL_law_570 : decode cL_law 570 = .ok (.iadd, 1) := by decide +kernel
theorem dL_law_571 : decode cL_law 571 = .ok (.iaload, 1) := by decide +kernel
theorem dL_law_572 : decode cL_law 572 = .ok (.invokevirtual 61, 3) := by decide +kernel
theorem dL_law_575 : decode cL_law 575 = .ok (.pop, 1) := by decide +kernel
theorem dL_law_576 : decode cL_law 576 = .ok (.goto 573, 3) := by decide +kernel
theorem dL_law_579 : decode cL_law 579 = .ok (.aload_n 1, 1) := by decide +kernel
theorem dL_law_580 : decode cL_law 580 = .ok (.aload_n 0, 1) := by decide +kernel
theorem dL_law_581 : decode cL_law 581 = .ok (.iload_n 3, 1) := by decide +kernel
theorem dL_law_582 : decode cL_law 582 = .ok (.iconst 1, 1) := by decide +kernel
theorem dL_law_583 : decode cL_law 583 = .ok (.iadd, 1) := by decide +kernel
theorem dL_law_584 : decode cL_law 584 = .ok (.iaload, 1) := by decide +kernel
theorem dL_law_585 : decode cL_law 585 = .ok (.aload_n 0, 1) := by decide +kernel
theorem dL_law_586 : decode cL_law 586 = .ok (.iload_n 3, 1) := by decide +kernel
theorem dL_law_587 : decode cL_law 587 = .ok (.iconst 2, 1) := by decide +kernel
theorem dL_law_588 : decode cL_law 588 = .ok (.iadd, 1) := by decide +kernel
theorem dL_law_589 : decode cL_law 589 = .ok (.iaload, 1) := by decide +kernel
theorem dL_law_590 : decode cL_law 590 = .ok (.aload_n 0, 1) := by decide +kernel
theorem dL_law_591 : decode cL_law 591 = .ok (.iload_n 3, 1) := by decide +kernel
theorem dL_law_592 : decode cL_law 592 = .ok (.iconst 3, 1) := by decide +kernel
theorem dL_law_593 : decode cL_law 593 = .ok (.iadd, 1) := by decide +kernel
theorem dL_law_594 : decode cL_law 594 = .ok (.iaload, 1) := by decide +kernel
theorem dL_law_595 : decode cL_law 595 = .ok (.aload_n 0, 1) := by decide +kernel
theorem dL_law_596 : decode cL_law 596 = .ok (.iload_n 3, 1) := by decide +kernel
theorem dL_law_597 : decode cL_law 597 = .ok (.iconst 4, 1) := by decide +kernel
theorem dL_law_598 : decode cL_law 598 = .ok (.iadd, 1) := by decide +kernel
theorem dL_law_599 : decode cL_law 599 = .ok (.iaload, 1) := by decide +kernel
theorem dL_law_600 : decode cL_law 600 = .ok (.invokevirtual 62, 3) := by decide +kernel
theorem dL_law_603 : decode cL_law 603 = .ok (.pop, 1) := by decide +kernel
theorem dL_law_604 : decode cL_law 604 = .ok (.aload_n 2, 1) := by decide +kernel
theorem dL_law_605 : decode cL_law 605 = .ok (.aload_n 0, 1) := by decide +kernel
theorem dL_law_606 : decode cL_law 606 = .ok (.iload_n 3, 1) := by decide +kernel
theorem dL_law_607 : decode cL_law 607 = .ok (.iconst 1, 1) := by decide +kernel
theorem dL_law_608 : decode cL_law 608 = .ok (.iadd, 1) := by decide +kernel
theorem dL_law_609 : decode cL_law 609 = .ok (.iaload, 1) := by decide +kernel
theorem dL_law_610 : decode cL_law 610 = .ok (.aload_n 0, 1) := by decide +kernel
theorem dL_law_611 : decode cL_law 611 = .ok (.iload_n 3, 1) := by decide +kernel
theorem dL_law_612 : decode cL_law 612 = .ok (.iconst 2, 1) := by decide +kernel
theorem dL_law_613 : decode cL_law 613 = .ok (.iadd, 1) := by decide +kernel
theorem dL_law_614 : decode cL_law 614 = .ok (.iaload, 1) := by decide +kernel
theorem dL_law_615 : decode cL_law 615 = .ok (.aload_n 0, 1) := by decide +kernel
theorem dL_law_616 : decode cL_law 616 = .ok (.iload_n 3, 1) := by decide +kernel
theorem dL_law_617 : decode cL_law 617 = .ok (.iconst 3, 1) := by decide +kernel
theorem dL_law_618 : decode cL_law 618 = .ok (.iadd, 1) := by decide +kernel
theorem dL_law_619 : decode cL_law 619 = .ok (.iaload, 1) := by decide +kernel
theorem dL_law_620 : decode cL_law 620 = .ok (.aload_n 0, 1) := by decide +kernel
theorem dL_law_621 : decode cL_law 621 = .ok (.iload_n 3, 1) := by decide +kernel
theorem dL_law_622 : decode cL_law 622 = .ok (.iconst 4, 1) := by decide +kernel
theorem dL_law_623 : decode cL_law 623 = .ok (.iadd, 1) := by decide +kernel
theorem dL_law_624 : decode cL_law 624 = .ok (.iaload, 1) := by decide +kernel
theorem dL_law_625 : decode cL_law 625 = .ok (.invokevirtual 65, 3) := by decide +kernel
theorem dL_law_628 : decode cL_law 628 = .ok (.pop, 1) := by decide +kernel
theorem dL_law_629 : decode cL_law 629 = .ok (.goto 520, 3) := by decide +kernel
theorem dL_law_632 : decode cL_law 632 = .ok (.aload_n 1, 1) := by decide +kernel
theorem dL_law_633 : decode cL_law 633 = .ok (.aload_n 0, 1) := by decide +kernel
theorem dL_law_634 : decode cL_law 634 = .ok (.iload_n 3, 1) := by decide +kernel
theorem dL_law_635 : decode cL_law 635 = .ok (.iconst 1, 1) := by decide +kernel
theorem dL_law_636 : decode cL_law 636 = .ok (.iadd, 1) := by decide +kernel
theorem dL_law_637 : decode cL_law 637 = .ok (.iaload, 1) := by decide +kernel
theorem dL_law_638 : decode cL_law 638 = .ok (.aload_n 0, 1) := by decide +kernel
theorem dL_law_639 : decode cL_law 639 = .ok (.iload_n 3, 1) := by decide +kernel
theorem dL_law_640 : decode cL_law 640 = .ok (.iconst 2, 1) := by decide +kernel
theorem dL_law_641 : decode cL_law 641 = .ok (.iadd, 1) := by decide +kernel
theorem dL_law_642 : decode cL_law 642 = .ok (.iaload, 1) := by decide +kernel
theorem dL_law_643 : decode cL_law 643 = .ok (.aload_n 0, 1) := by decide +kernel
theorem dL_law_644 : decode cL_law 644 = .ok (.iload_n 3, 1) := by decide +kernel
theorem dL_law_645 : decode cL_law 645 = .ok (.iconst 3, 1) := by decide +kernel
theorem dL_law_646 : decode cL_law 646 = .ok (.iadd, 1) := by decide +kernel
theorem dL_law_647 : decode cL_law 647 = .ok (.iaload, 1) := by decide +kernel
theorem dL_law_648 : decode cL_law 648 = .ok (.aload_n 0, 1) := by decide +kernel
theorem dL_law_649 : decode cL_law 649 = .ok (.iload_n 3, 1) := by decide +kernel
theorem dL_law_650 : decode cL_law 650 = .ok (.iconst 4, 1) := by decide +kernel
theorem dL_law_651 : decode cL_law 651 = .ok (.iadd, 1) := by decide +kernel
theorem dL_law_652 : decode cL_law 652 = .ok (.iaload, 1) := by decide +kernel
theorem dL_law_653 : decode cL_law 653 = .ok (.aload_n 0, 1) := by decide +kernel
theorem dL_law_654 : decode cL_law 654 = .ok (.iload_n 3, 1) := by decide +kernel
theorem dL_law_655 : decode cL_law 655 = .ok (.iconst 5, 1) := by decide +kernel
theorem dL_law_656 : decode cL_law 656 = .ok (.iadd, 1) := by decide +kernel
theorem dL_law_657 : decode cL_law 657 = .ok (.iaload, 1) := by decide +kernel
theorem dL_law_658 : decode cL_law 658 = .ok (.invokevirtual 66, 3) := by decide +kernel
theorem dL_law_661 : decode cL_law 661 = .ok (.pop, 1) := by decide +kernel
theorem dL_law_662 : decode cL_law 662 = .ok (.aload_n 2, 1) := by decide +kernel
theorem dL_law_663 : decode cL_law 663 = .ok (.aload_n 0, 1) := by decide +kernel
theorem dL_law_664 : decode cL_law 664 = .ok (.iload_n 3, 1) := by decide +kernel
theorem dL_law_665 : decode cL_law 665 = .ok (.iconst 1, 1) := by decide +kernel
theorem dL_law_666 : decode cL_law 666 = .ok (.iadd, 1) := by decide +kernel
theorem dL_law_667 : decode cL_law 667 = .ok (.iaload, 1) := by decide +kernel
theorem dL_law_668 : decode cL_law 668 = .ok (.aload_n 0, 1) := by decide +kernel
theorem dL_law_669 : decode cL_law 669 = .ok (.iload_n 3, 1) := by decide +kernel
theorem dL_law_670 : decode cL_law 670 = .ok (.iconst 2, 1) := by decide +kernel
theorem dL_law_671 : decode cL_law 671 = .ok (.iadd, 1) := by decide +kernel
theorem dL_law_672 : decode cL_law 672 = .ok (.iaload, 1) := by decide +kernel
theorem dL_law_673 : decode cL_law 673 = .ok (.aload_n 0, 1) := by decide +kernel
theorem dL_law_674 : decode cL_law 674 = .ok (.iload_n 3, 1) := by decide +kernel
theorem dL_law_675 : decode cL_law 675 = .ok (.iconst 3, 1) := by decide +kernel
theorem dL_law_676 : decode cL_law 676 = .ok (.iadd, 1) := by decide +kernel
theorem dL_law_677 : decode cL_law 677 = .ok (.iaload, 1) := by decide +kernel
theorem dL_law_678 : decode cL_law 678 = .ok (.aload_n 0, 1) := by decide +kernel
theorem dL_law_679 : decode cL_law 679 = .ok (.iload_n 3, 1) := by decide +kernel
theorem dL_law_680 : decode cL_law 680 = .ok (.iconst 4, 1) := by decide +kernel
theorem dL_law_681 : decode cL_law 681 = .ok (.iadd, 1) := by decide +kernel
theorem dL_law_682 : decode cL_law 682 = .ok (.iaload, 1) := by decide +kernel
theorem dL_law_683 : decode cL_law 683 = .ok (.aload_n 0, 1) := by decide +kernel
theorem dL_law_684 : decode cL_law 684 = .ok (.iload_n 3, 1) := by decide +kernel
theorem dL_law_685 : decode cL_law 685 = .ok (.iconst 5, 1) := by decide +kernel
theorem dL_law_686 : decode cL_law 686 = .ok (.iadd, 1) := by decide +kernel
theorem dL_law_687 : decode cL_law 687 = .ok (.iaload, 1) := by decide +kernel
theorem dL_law_688 : decode cL_law 688 = .ok (.invokevirtual 69, 3) := by decide +kernel
theorem dL_law_691 : decode cL_law 691 = .ok (.pop, 1) := by decide +kernel
theorem dL_law_692 : decode cL_law 692 = .ok (.goto 457, 3) := by decide +kernel
theorem dL_law_695 : decode cL_law 695 = .ok (.aload_n 1, 1) := by decide +kernel
theorem dL_law_696 : decode cL_law 696 = .ok (.aload_n 0, 1) := by decide +kernel
theorem dL_law_697 : decode cL_law 697 = .ok (.iload_n 3, 1) := by decide +kernel
theorem dL_law_698 : decode cL_law 698 = .ok (.iconst 1, 1) := by decide +kernel
theorem dL_law_699 : decode cL_law 699 = .ok (.iadd, 1) := by decide +kernel
theorem dL_law_700 : decode cL_law 700 = .ok (.iaload, 1) := by decide +kernel
theorem dL_law_701 : decode cL_law 701 = .ok (.aload_n 0, 1) := by decide +kernel
theorem dL_law_702 : decode cL_law 702 = .ok (.iload_n 3, 1) := by decide +kernel
theorem dL_law_703 : decode cL_law 703 = .ok (.iconst 2, 1) := by decide +kernel
theorem dL_law_704 : decode cL_law 704 = .ok (.iadd, 1) := by decide +kernel
theorem dL_law_705 : decode cL_law 705 = .ok (.iaload, 1) := by decide +kernel
theorem dL_law_706 : decode cL_law 706 = .ok (.invokevirtual 70, 3) := by decide +kernel
theorem dL_law_709 : decode cL_law 709 = .ok (.pop, 1) := by decide +kernel
theorem dL_law_710 : decode cL_law 710 = .ok (.aload_n 2, 1) := by decide +kernel
theorem dL_law_711 : decode cL_law 711 = .ok (.aload_n 0, 1) := by decide +kernel
theorem dL_law_712 : decode cL_law 712 = .ok (.iload_n 3, 1) := by decide +kernel
theorem dL_law_713 : decode cL_law 713 = .ok (.iconst 1, 1) := by decide +kernel
theorem dL_law_714 : decode cL_law 714 = .ok (.iadd, 1) := by decide +kernel
theorem dL_law_715 : decode cL_law 715 = .ok (.iaload, 1) := by decide +kernel
theorem dL_law_716 : decode cL_law 716 = .ok (.aload_n 0, 1) := by decide +kernel
theorem dL_law_717 : decode cL_law 717 = .ok (.iload_n 3, 1) := by decide +kernel
theorem dL_law_718 : decode cL_law 718 = .ok (.iconst 2, 1) := by decide +kernel
theorem dL_law_719 : decode cL_law 719 = .ok (.iadd, 1) := by decide +kernel
theorem dL_law_720 : decode cL_law 720 = .ok (.iaload, 1) := by decide +kernel
theorem dL_law_721 : decode cL_law 721 = .ok (.invokevirtual 74, 3) := by decide +kernel
theorem dL_law_724 : decode cL_law 724 = .ok (.pop, 1) := by decide +kernel
theorem dL_law_725 : decode cL_law 725 = .ok (.goto 424, 3) := by decide +kernel
theorem dL_law_728 : decode cL_law 728 = .ok (.aload_n 1, 1) := by decide +kernel
theorem dL_law_729 : decode cL_law 729 = .ok (.invokevirtual 75, 3) := by decide +kernel
theorem dL_law_732 : decode cL_law 732 = .ok (.pop, 1) := by decide +kernel
theorem dL_law_733 : decode cL_law 733 = .ok (.aload_n 2, 1) := by decide +kernel
theorem dL_law_734 : decode cL_law 734 = .ok (.invokevirtual 79, 3) := by decide +kernel
theorem dL_law_737 : decode cL_law 737 = .ok (.pop, 1) := by decide +kernel
theorem dL_law_738 : decode cL_law 738 = .ok (.goto 411, 3) := by decide +kernel
theorem dL_law_741 : decode cL_law 741 = .ok (.aload_n 1, 1) := by decide +kernel
theorem dL_law_742 : decode cL_law 742 = .ok (.invokevirtual 80, 3) := by decide +kernel
theorem dL_law_745 : decode cL_law 745 = .ok (.pop, 1) := by decide +kernel
theorem dL_law_746 : decode cL_law 746 = .ok (.aload_n 2, 1) := by decide +kernel
theorem dL_law_747 : decode cL_law 747 = .ok (.invokevirtual 83, 3) := by decide +kernel
theorem dL_law_750 : decode cL_law 750 = .ok (.pop, 1) := by decide +kernel
theorem dL_law_751 : decode cL_law 751 = .ok (.goto 398, 3) := by decide +kernel
theorem dL_law_754 : decode cL_law 754 = .ok (.aload_n 1, 1) := by decide +kernel
theorem dL_law_755 : decode cL_law 755 = .ok (.invokevirtual 84, 3) := by decide +kernel
theorem dL_law_758 : decode cL_law 758 = .ok (.pop, 1) := by decide +kernel
theorem dL_law_759 : decode cL_law 759 = .ok (.aload_n 2, 1) := by decide +kernel
theorem dL_law_760 : decode cL_law 760 = .ok (.invokevirtual 87, 3) := by decide +kernel
theorem dL_law_763 : decode cL_law 763 = .ok (.pop, 1) := by decide +kernel
theorem dL_law_764 : decode cL_law 764 = .ok (.goto 385, 3) := by decide +kernel
theorem dL_law_767 : decode cL_law 767 = .ok (.aload_n 1, 1) := by decide +kernel
theorem dL_law_768 : decode cL_law 768 = .ok (.aload_n 0, 1) := by decide +kernel
theorem dL_law_769 : decode cL_law 769 = .ok (.iload_n 3, 1) := by decide +kernel
theorem dL_law_770 : decode cL_law 770 = .ok (.iconst 1, 1) := by decide +kernel
theorem dL_law_771 : decode cL_law 771 = .ok (.iadd, 1) := by decide +kernel
theorem dL_law_772 : decode cL_law 772 = .ok (.iaload, 1) := by decide +kernel
theorem dL_law_773 : decode cL_law 773 = .ok (.invokevirtual 88, 3) := by decide +kernel
theorem dL_law_776 : decode cL_law 776 = .ok (.pop, 1) := by decide +kernel
theorem dL_law_777 : decode cL_law 777 = .ok (.aload_n 2, 1) := by decide +kernel
theorem dL_law_778 : decode cL_law 778 = .ok (.aload_n 0, 1) := by decide +kernel
theorem dL_law_779 : decode cL_law 779 = .ok (.iload_n 3, 1) := by decide +kernel
theorem dL_law_780 : decode cL_law 780 = .ok (.iconst 1, 1) := by decide +kernel
theorem dL_law_781 : decode cL_law 781 = .ok (.iadd, 1) := by decide +kernel
theorem dL_law_782 : decode cL_law 782 = .ok (.iaload, 1) := by decide +kernel
theorem dL_law_783 : decode cL_law 783 = .ok (.invokevirtual 91, 3) := by decide +kernel
theorem dL_law_786 : decode cL_law 786 = .ok (.pop, 1) := by decide +kernel
theorem dL_law_787 : decode cL_law 787 = .ok (.goto 362, 3) := by decide +kernel
theorem dL_law_790 : decode cL_law 790 = .ok (.aload_n 1, 1) := by decide +kernel
theorem dL_law_791 : decode cL_law 791 = .ok (.aload_n 0, 1) := by decide +kernel
theorem dL_law_792 : decode cL_law 792 = .ok (.iload_n 3, 1) := by decide +kernel
theorem dL_law_793 : decode cL_law 793 = .ok (.iconst 1, 1) := by decide +kernel
theorem dL_law_794 : decode cL_law 794 = .ok (.iadd, 1) := by decide +kernel
theorem dL_law_795 : decode cL_law 795 = .ok (.iaload, 1) := by decide +kernel
theorem dL_law_796 : decode cL_law 796 = .ok (.aload_n 0, 1) := by decide +kernel
theorem dL_law_797 : decode cL_law 797 = .ok (.iload_n 3, 1) := by decide +kernel
theorem dL_law_798 : decode cL_law 798 = .ok (.iconst 2, 1) := by decide +kernel
theorem dL_law_799 : decode cL_law 799 = .ok (.iadd, 1) := by decide +kernel
theorem dL_law_800 : decode cL_law 800 = .ok (.iaload, 1) := by decide +kernel
theorem dL_law_801 : decode cL_law 801 = .ok (.aload_n 0, 1) := by decide +kernel
theorem dL_law_802 : decode cL_law 802 = .ok (.iload_n 3, 1) := by decide +kernel
theorem dL_law_803 : decode cL_law 803 = .ok (.iconst 3, 1) := by decide +kernel
theorem dL_law_804 : decode cL_law 804 = .ok (.iadd, 1) := by decide +kernel
theorem dL_law_805 : decode cL_law 805 = .ok (.iaload, 1) := by decide +kernel
theorem dL_law_806 : decode cL_law 806 = .ok (.aload_n 0, 1) := by decide +kernel
theorem dL_law_807 : decode cL_law 807 = .ok (.iload_n 3, 1) := by decide +kernel
theorem dL_law_808 : decode cL_law 808 = .ok (.iconst 4, 1) := by decide +kernel
theorem dL_law_809 : decode cL_law 809 = .ok (.iadd, 1) := by decide +kernel
theorem dL_law_810 : decode cL_law 810 = .ok (.iaload, 1) := by decide +kernel
theorem dL_law_811 : decode cL_law 811 = .ok (.invokevirtual 92, 3) := by decide +kernel
theorem dL_law_814 : decode cL_law 814 = .ok (.pop, 1) := by decide +kernel
theorem dL_law_815 : decode cL_law 815 = .ok (.aload_n 2, 1) := by decide +kernel
theorem dL_law_816 : decode cL_law 816 = .ok (.aload_n 0, 1) := by decide +kernel
theorem dL_law_817 : decode cL_law 817 = .ok (.iload_n 3, 1) := by decide +kernel
theorem dL_law_818 : decode cL_law 818 = .ok (.iconst 1, 1) := by decide +kernel
theorem dL_law_819 : decode cL_law 819 = .ok (.iadd, 1) := by decide +kernel
theorem dL_law_820 : decode cL_law 820 = .ok (.iaload, 1) := by decide +kernel
theorem dL_law_821 : decode cL_law 821 = .ok (.aload_n 0, 1) := by decide +kernel
theorem dL_law_822 : decode cL_law 822 = .ok (.iload_n 3, 1) := by decide +kernel
theorem dL_law_823 : decode cL_law 823 = .ok (.iconst 2, 1) := by decide +kernel
theorem dL_law_824 : decode cL_law 824 = .ok (.iadd, 1) := by decide +kernel
theorem dL_law_825 : decode cL_law 825 = .ok (.iaload, 1) := by decide +kernel
theorem dL_law_826 : decode cL_law 826 = .ok (.aload_n 0, 1) := by decide +kernel
theorem dL_law_827 : decode cL_law 827 = .ok (.iload_n 3, 1) := by decide +kernel
theorem dL_law_828 : decode cL_law 828 = .ok (.iconst 3, 1) := by decide +kernel
theorem dL_law_829 : decode cL_law 829 = .ok (.iadd, 1) := by decide +kernel
theorem dL_law_830 : decode cL_law 830 = .ok (.iaload, 1) := by decide +kernel
theorem dL_law_831 : decode cL_law 831 = .ok (.aload_n 0, 1) := by decide +kernel
theorem dL_law_832 : decode cL_law 832 = .ok (.iload_n 3, 1) := by decide +kernel
theorem dL_law_833 : decode cL_law 833 = .ok (.iconst 4, 1) := by decide +kernel
theorem dL_law_834 : decode cL_law 834 = .ok (.iadd, 1) := by decide +kernel
theorem dL_law_835 : decode cL_law 835 = .ok (.iaload, 1) := by decide +kernel
theorem dL_law_836 : decode cL_law 836 = .ok (.invokevirtual 95, 3) := by decide +kernel
theorem dL_law_839 : decode cL_law 839 = .ok (.pop, 1) := by decide +kernel
theorem dL_law_840 : decode cL_law 840 = .ok (.goto 309, 3) := by decide +kernel
theorem dL_law_843 : decode cL_law 843 = .ok (.aload_n 1, 1) := by decide +kernel
theorem dL_law_844 : decode cL_law 844 = .ok (.aload_n 0, 1) := by decide +kernel
theorem dL_law_845 : decode cL_law 845 = .ok (.iload_n 3, 1) := by decide +kernel
theorem dL_law_846 : decode cL_law 846 = .ok (.iconst 1, 1) := by decide +kernel
theorem dL_law_847 : decode cL_law 847 = .ok (.iadd, 1) := by decide +kernel
theorem dL_law_848 : decode cL_law 848 = .ok (.iaload, 1) := by decide +kernel
theorem dL_law_849 : decode cL_law 849 = .ok (.aload_n 0, 1) := by decide +kernel
theorem dL_law_850 : decode cL_law 850 = .ok (.iload_n 3, 1) := by decide +kernel
theorem dL_law_851 : decode cL_law 851 = .ok (.iconst 2, 1) := by decide +kernel
theorem dL_law_852 : decode cL_law 852 = .ok (.iadd, 1) := by decide +kernel
theorem dL_law_853 : decode cL_law 853 = .ok (.iaload, 1) := by decide +kernel
theorem dL_law_854 : decode cL_law 854 = .ok (.aload_n 0, 1) := by decide +kernel
theorem dL_law_855 : decode cL_law 855 = .ok (.iload_n 3, 1) := by decide +kernel
theorem dL_law_856 : decode cL_law 856 = .ok (.iconst 3, 1) := by decide +kernel
theorem dL_law_857 : decode cL_law 857 = .ok (.iadd, 1) := by decide +kernel
theorem dL_law_858 : decode cL_law 858 = .ok (.iaload, 1) := by decide +kernel
theorem dL_law_859 : decode cL_law 859 = .ok (.aload_n 0, 1) := by decide +kernel
theorem dL_law_860 : decode cL_law 860 = .ok (.iload_n 3, 1) := by decide +kernel
theorem dL_law_861 : decode cL_law 861 = .ok (.iconst 4, 1) := by decide +kernel
theorem dL_law_862 : decode cL_law 862 = .ok (.iadd, 1) := by decide +kernel
theorem dL_law_863 : decode cL_law 863 = .ok (.iaload, 1) := by decide +kernel
theorem dL_law_864 : decode cL_law 864 = .ok (.aload_n 0, 1) := by decide +kernel
theorem dL_law_865 : decode cL_law 865 = .ok (.iload_n 3, 1) := by decide +kernel
theorem dL_law_866 : decode cL_law 866 = .ok (.iconst 5, 1) := by decide +kernel
theorem dL_law_867 : decode cL_law 867 = .ok (.iadd, 1) := by decide +kernel
theorem dL_law_868 : decode cL_law 868 = .ok (.iaload, 1) := by decide +kernel
theorem dL_law_869 : decode cL_law 869 = .ok (.invokevirtual 96, 3) := by decide +kernel
theorem dL_law_872 : decode cL_law 872 = .ok (.pop, 1) := by decide +kernel
theorem dL_law_873 : decode cL_law 873 = .ok (.aload_n 2, 1) := by decide +kernel
theorem dL_law_874 : decode cL_law 874 = .ok (.aload_n 0, 1) := by decide +kernel
theorem dL_law_875 : decode cL_law 875 = .ok (.iload_n 3, 1) := by decide +kernel
theorem dL_law_876 : decode cL_law 876 = .ok (.iconst 1, 1) := by decide +kernel
theorem dL_law_877 : decode cL_law 877 = .ok (.iadd, 1) := by decide +kernel
theorem dL_law_878 : decode cL_law 878 = .ok (.iaload, 1) := by decide +kernel
theorem dL_law_879 : decode cL_law 879 = .ok (.aload_n 0, 1) := by decide +kernel
theorem dL_law_880 : decode cL_law 880 = .ok (.iload_n 3, 1) := by decide +kernel
theorem dL_law_881 : decode cL_law 881 = .ok (.iconst 2, 1) := by decide +kernel
theorem dL_law_882 : decode cL_law 882 = .ok (.iadd, 1) := by decide +kernel
theorem dL_law_883 : decode cL_law 883 = .ok (.iaload, 1) := by decide +kernel
theorem dL_law_884 : decode cL_law 884 = .ok (.aload_n 0, 1) := by decide +kernel
theorem dL_law_885 : decode cL_law 885 = .ok (.iload_n 3, 1) := by decide +kernel
theorem dL_law_886 : decode cL_law 886 = .ok (.iconst 3, 1) := by decide +kernel
theorem dL_law_887 : decode cL_law 887 = .ok (.iadd, 1) := by decide +kernel
theorem dL_law_888 : decode cL_law 888 = .ok (.iaload, 1) := by decide +kernel
theorem dL_law_889 : decode cL_law 889 = .ok (.aload_n 0, 1) := by decide +kernel
theorem dL_law_890 : decode cL_law 890 = .ok (.iload_n 3, 1) := by decide +kernel
theorem dL_law_891 : decode cL_law 891 = .ok (.iconst 4, 1) := by decide +kernel
theorem dL_law_892 : decode cL_law 892 = .ok (.iadd, 1) := by decide +kernel
theorem dL_law_893 : decode cL_law 893 = .ok (.iaload, 1) := by decide +kernel
theorem dL_law_894 : decode cL_law 894 = .ok (.aload_n 0, 1) := by decide +kernel
theorem dL_law_895 : decode cL_law 895 = .ok (.iload_n 3, 1) := by decide +kernel
theorem dL_law_896 : decode cL_law 896 = .ok (.iconst 5, 1) := by decide +kernel
theorem dL_law_897 : decode cL_law 897 = .ok (.iadd, 1) := by decide +kernel
theorem dL_law_898 : decode cL_law 898 = .ok (.iaload, 1) := by decide +kernel
theorem dL_law_899 : decode cL_law 899 = .ok (.invokevirtual 99, 3) := by decide +kernel
theorem dL_law_902 : decode cL_law 902 = .ok (.pop, 1) := by decide +kernel
theorem dL_law_903 : decode cL_law 903 = .ok (.goto 246, 3) := by decide +kernel
theorem dL_law_906 : decode cL_law 906 = .ok (.aload_n 1, 1) := by decide +kernel
theorem dL_law_907 : decode cL_law 907 = .ok (.aload_n 0, 1) := by decide +kernel
theorem dL_law_908 : decode cL_law 908 = .ok (.iload_n 3, 1) := by decide +kernel
theorem dL_law_909 : decode cL_law 909 = .ok (.iconst 1, 1) := by decide +kernel
theorem dL_law_910 : decode cL_law 910 = .ok (.iadd, 1) := by decide +kernel
theorem dL_law_911 : decode cL_law 911 = .ok (.iaload, 1) := by decide +kernel
theorem dL_law_912 : decode cL_law 912 = .ok (.ifCond .eq 7, 3) := by decide +kernel
theorem dL_law_915 : decode cL_law 915 = .ok (.iconst 1, 1) := by decide +kernel
theorem dL_law_916 : decode cL_law 916 = .ok (.goto 4, 3) := by decide +kernel
theorem dL_law_919 : decode cL_law 919 = .ok (.iconst 0, 1) := by decide +kernel
theorem dL_law_920 : decode cL_law 920 = .ok (.aload_n 0, 1) := by decide +kernel
theorem dL_law_921 : decode cL_law 921 = .ok (.iload_n 3, 1) := by decide +kernel
theorem dL_law_922 : decode cL_law 922 = .ok (.iconst 2, 1) := by decide +kernel
theorem dL_law_923 : decode cL_law 923 = .ok (.iadd, 1) := by decide +kernel
theorem dL_law_924 : decode cL_law 924 = .ok (.iaload, 1) := by decide +kernel
theorem dL_law_925 : decode cL_law 925 = .ok (.aload_n 0, 1) := by decide +kernel
theorem dL_law_926 : decode cL_law 926 = .ok (.iload_n 3, 1) := by decide +kernel
theorem dL_law_927 : decode cL_law 927 = .ok (.iconst 3, 1) := by decide +kernel
theorem dL_law_928 : decode cL_law 928 = .ok (.iadd, 1) := by decide +kernel
theorem dL_law_929 : decode cL_law 929 = .ok (.iaload, 1) := by decide +kernel
theorem dL_law_930 : decode cL_law 930 = .ok (.invokevirtual 100, 3) := by decide +kernel
theorem dL_law_933 : decode cL_law 933 = .ok (.pop, 1) := by decide +kernel
theorem dL_law_934 : decode cL_law 934 = .ok (.aload_n 2, 1) := by decide +kernel
theorem dL_law_935 : decode cL_law 935 = .ok (.aload_n 0, 1) := by decide +kernel
theorem dL_law_936 : decode cL_law 936 = .ok (.iload_n 3, 1) := by decide +kernel
theorem dL_law_937 : decode cL_law 937 = .ok (.iconst 1, 1) := by decide +kernel
theorem dL_law_938 : decode cL_law 938 = .ok (.iadd, 1) := by decide +kernel
theorem dL_law_939 : decode cL_law 939 = .ok (.iaload, 1) := by decide +kernel
theorem dL_law_940 : decode cL_law 940 = .ok (.ifCond .eq 7, 3) := by decide +kernel
theorem dL_law_943 : decode cL_law 943 = .ok (.iconst 1, 1) := by decide +kernel
theorem dL_law_944 : decode cL_law 944 = .ok (.goto 4, 3) := by decide +kernel
theorem dL_law_947 : decode cL_law 947 = .ok (.iconst 0, 1) := by decide +kernel
theorem dL_law_948 : decode cL_law 948 = .ok (.aload_n 0, 1) := by decide +kernel
theorem dL_law_949 : decode cL_law 949 = .ok (.iload_n 3, 1) := by decide +kernel
theorem dL_law_950 : decode cL_law 950 = .ok (.iconst 2, 1) := by decide +kernel
theorem dL_law_951 : decode cL_law 951 = .ok (.iadd, 1) := by decide +kernel
theorem dL_law_952 : decode cL_law 952 = .ok (.iaload, 1) := by decide +kernel
theorem dL_law_953 : decode cL_law 953 = .ok (.aload_n 0, 1) := by decide +kernel
theorem dL_law_954 : decode cL_law 954 = .ok (.iload_n 3, 1) := by decide +kernel
theorem dL_law_955 : decode cL_law 955 = .ok (.iconst 3, 1) := by decide +kernel
theorem dL_law_956 : decode cL_law 956 = .ok (.iadd, 1) := by decide +kernel
theorem dL_law_957 : decode cL_law 957 = .ok (.iaload, 1) := by decide +kernel
theorem dL_law_958 : decode cL_law 958 = .ok (.invokevirtual 104, 3) := by decide +kernel
theorem dL_law_961 : decode cL_law 961 = .ok (.pop, 1) := by decide +kernel
theorem dL_law_962 : decode cL_law 962 = .ok (.goto 187, 3) := by decide +kernel
theorem dL_law_965 : decode cL_law 965 = .ok (.aload_n 1, 1) := by decide +kernel
theorem dL_law_966 : decode cL_law 966 = .ok (.aload_n 0, 1) := by decide +kernel
theorem dL_law_967 : decode cL_law 967 = .ok (.iload_n 3, 1) := by decide +kernel
theorem dL_law_968 : decode cL_law 968 = .ok (.iconst 1, 1) := by decide +kernel
theorem dL_law_969 : decode cL_law 969 = .ok (.iadd, 1) := by decide +kernel
theorem dL_law_970 : decode cL_law 970 = .ok (.iaload, 1) := by decide +kernel
theorem dL_law_971 : decode cL_law 971 = .ok (.ifCond .eq 7, 3) := by decide +kernel
theorem dL_law_974 : decode cL_law 974 = .ok (.iconst 1, 1) := by decide +kernel
theorem dL_law_975 : decode cL_law 975 = .ok (.goto 4, 3) := by decide +kernel
theorem dL_law_978 : decode cL_law 978 = .ok (.iconst 0, 1) := by decide +kernel
theorem dL_law_979 : decode cL_law 979 = .ok (.aload_n 0, 1) := by decide +kernel
theorem dL_law_980 : decode cL_law 980 = .ok (.iload_n 3, 1) := by decide +kernel
theorem dL_law_981 : decode cL_law 981 = .ok (.iconst 2, 1) := by decide +kernel
theorem dL_law_982 : decode cL_law 982 = .ok (.iadd, 1) := by decide +kernel
theorem dL_law_983 : decode cL_law 983 = .ok (.iaload, 1) := by decide +kernel
theorem dL_law_984 : decode cL_law 984 = .ok (.aload_n 0, 1) := by decide +kernel
theorem dL_law_985 : decode cL_law 985 = .ok (.iload_n 3, 1) := by decide +kernel
theorem dL_law_986 : decode cL_law 986 = .ok (.iconst 3, 1) := by decide +kernel
theorem dL_law_987 : decode cL_law 987 = .ok (.iadd, 1) := by decide +kernel
theorem dL_law_988 : decode cL_law 988 = .ok (.iaload, 1) := by decide +kernel
theorem dL_law_989 : decode cL_law 989 = .ok (.aload_n 0, 1) := by decide +kernel
theorem dL_law_990 : decode cL_law 990 = .ok (.iload_n 3, 1) := by decide +kernel
theorem dL_law_991 : decode cL_law 991 = .ok (.iconst 4, 1) := by decide +kernel
theorem dL_law_992 : decode cL_law 992 = .ok (.iadd, 1) := by decide +kernel
theorem dL_law_993 : decode cL_law 993 = .ok (.iaload, 1) := by decide +kernel
theorem dL_law_994 : decode cL_law 994 = .ok (.invokevirtual 105, 3) := by decide +kernel
theorem dL_law_997 : decode cL_law 997 = .ok (.pop, 1) := by decide +kernel
theorem dL_law_998 : decode cL_law 998 = .ok (.aload_n 2, 1) := by decide +kernel
theorem dL_law_999 : decode cL_law 999 = .ok (.aload_n 0, 1) := by decide +kernel
theorem dL_law_1000 : decode cL_law 1000 = .ok (.iload_n 3, 1) := by decide +kernel
theorem dL_law_1001 : decode cL_law 1001 = .ok (.iconst 1, 1) := by decide +kernel
theorem dL_law_1002 : decode cL_law 1002 = .ok (.iadd, 1) := by decide +kernel
theorem dL_law_1003 : decode cL_law 1003 = .ok (.iaload, 1) := by decide +kernel
theorem dL_law_1004 : decode cL_law 1004 = .ok (.ifCond .eq 7, 3) := by decide +kernel
theorem dL_law_1007 : decode cL_law 1007 = .ok (.iconst 1, 1) := by decide +kernel
theorem dL_law_1008 : decode cL_law 1008 = .ok (.goto 4, 3) := by decide +kernel
theorem dL_law_1011 : decode cL_law 1011 = .ok (.iconst 0, 1) := by decide +kernel
theorem dL_law_1012 : decode cL_law 1012 = .ok (.aload_n 0, 1) := by decide +kernel
theorem dL_law_1013 : decode cL_law 1013 = .ok (.iload_n 3, 1) := by decide +kernel
theorem dL_law_1014 : decode cL_law 1014 = .ok (.iconst 2, 1) := by decide +kernel
theorem dL_law_1015 : decode cL_law 1015 = .ok (.iadd, 1) := by decide +kernel
theorem dL_law_1016 : decode cL_law 1016 = .ok (.iaload, 1) := by decide +kernel
theorem dL_law_1017 : decode cL_law 1017 = .ok (.aload_n 0, 1) := by decide +kernel
theorem dL_law_1018 : decode cL_law 1018 = .ok (.iload_n 3, 1) := by decide +kernel
theorem dL_law_1019 : decode cL_law 1019 = .ok (.iconst 3, 1) := by decide +kernel
theorem dL_law_1020 : decode cL_law 1020 = .ok (.iadd, 1) := by decide +kernel
theorem dL_law_1021 : decode cL_law 1021 = .ok (.iaload, 1) := by decide +kernel
theorem dL_law_1022 : decode cL_law 1022 = .ok (.aload_n 0, 1) := by decide +kernel
theorem dL_law_1023 : decode cL_law 1023 = .ok (.iload_n 3, 1) := by decide +kernel
theorem dL_law_1024 : decode cL_law 1024 = .ok (.iconst 4, 1) := by decide +kernel
theorem dL_law_1025 : decode cL_law 1025 = .ok (.iadd, 1) := by decide +kernel
theorem dL_law_1026 : decode cL_law 1026 = .ok (.iaload, 1) := by decide +kernel
theorem dL_law_1027 : decode cL_law 1027 = .ok (.invokevirtual 109, 3) := by decide +kernel
theorem dL_law_1030 : decode cL_law 1030 = .ok (.pop, 1) := by decide +kernel
theorem dL_law_1031 : decode cL_law 1031 = .ok (.goto 118, 3) := by decide +kernel
theorem dL_law_1034 : decode cL_law 1034 = .ok (.aload_n 1, 1) := by decide +kernel
theorem dL_law_1035 : decode cL_law 1035 = .ok (.invokevirtual 110, 3) := by decide +kernel
theorem dL_law_1038 : decode cL_law 1038 = .ok (.pop, 1) := by decide +kernel
theorem dL_law_1039 : decode cL_law 1039 = .ok (.aload_n 2, 1) := by decide +kernel
theorem dL_law_1040 : decode cL_law 1040 = .ok (.invokevirtual 113, 3) := by decide +kernel
theorem dL_law_1043 : decode cL_law 1043 = .ok (.pop, 1) := by decide +kernel
theorem dL_law_1044 : decode cL_law 1044 = .ok (.goto 105, 3) := by decide +kernel
theorem dL_law_1047 : decode cL_law 1047 = .ok (.aload_n 1, 1) := by decide +kernel
theorem dL_law_1048 : decode cL_law 1048 = .ok (.aload_n 0, 1) := by decide +kernel
theorem dL_law_1049 : decode cL_law 1049 = .ok (.iload_n 3, 1) := by decide +kernel
theorem dL_law_1050 : decode cL_law 1050 = .ok (.iconst 1, 1) := by decide +kernel
theorem dL_law_1051 : decode cL_law 1051 = .ok (.iadd, 1) := by decide +kernel
theorem dL_law_1052 : decode cL_law 1052 = .ok (.iaload, 1) := by decide +kernel
theorem dL_law_1053 : decode cL_law 1053 = .ok (.invokevirtual 114, 3) := by decide +kernel
theorem dL_law_1056 : decode cL_law 1056 = .ok (.pop, 1) := by decide +kernel
theorem dL_law_1057 : decode cL_law 1057 = .ok (.aload_n 2, 1) := by decide +kernel
theorem dL_law_1058 : decode cL_law 1058 = .ok (.aload_n 0, 1) := by decide +kernel
theorem dL_law_1059 : decode cL_law 1059 = .ok (.iload_n 3, 1) := by decide +kernel
theorem dL_law_1060 : decode cL_law 1060 = .ok (.iconst 1, 1) := by decide +kernel
theorem dL_law_1061 : decode cL_law 1061 = .ok (.iadd, 1) := by decide +kernel
theorem dL_law_1062 : decode cL_law 1062 = .ok (.iaload, 1) := by decide +kernel
theorem dL_law_1063 : decode cL_law 1063 = .ok (.invokevirtual 117, 3) := by decide +kernel
theorem dL_law_1066 : decode cL_law 1066 = .ok (.pop, 1) := by decide +kernel
theorem dL_law_1067 : decode cL_law 1067 = .ok (.goto 82, 3) := by decide +kernel
theorem dL_law_1070 : decode cL_law 1070 = .ok (.aload_n 1, 1) := by decide +kernel
theorem dL_law_1071 : decode cL_law 1071 = .ok (.aload_n 0, 1) := by decide +kernel
theorem dL_law_1072 : decode cL_law 1072 = .ok (.iload_n 3, 1) := by decide +kernel
theorem dL_law_1073 : decode cL_law 1073 = .ok (.iconst 1, 1) := by decide +kernel
theorem dL_law_1074 : decode cL_law 1074 = .ok (.iadd, 1) := by decide +kernel
theorem dL_law_1075 : decode cL_law 1075 = .ok (.iaload, 1) := by decide +kernel
theorem dL_law_1076 : decode cL_law 1076 = .ok (.invokevirtual 118, 3) := by decide +kernel
theorem dL_law_1079 : decode cL_law 1079 = .ok (.pop, 1) := by decide +kernel
theorem dL_law_1080 : decode cL_law 1080 = .ok (.aload_n 2, 1) := by decide +kernel
theorem dL_law_1081 : decode cL_law 1081 = .ok (.aload_n 0, 1) := by decide +kernel
theorem dL_law_1082 : decode cL_law 1082 = .ok (.iload_n 3, 1) := by decide +kernel
theorem dL_law_1083 : decode cL_law 1083 = .ok (.iconst 1, 1) := by decide +kernel
theorem dL_law_1084 : decode cL_law 1084 = .ok (.iadd, 1) := by decide +kernel
theorem dL_law_1085 : decode cL_law 1085 = .ok (.iaload, 1) := by decide +kernel
theorem dL_law_1086 : decode cL_law 1086 = .ok (.invokevirtual 121, 3) := by decide +kernel
theorem dL_law_1089 : decode cL_law 1089 = .ok (.pop, 1) := by decide +kernel
theorem dL_law_1090 : decode cL_law 1090 = .ok (.goto 59, 3) := by decide +kernel
theorem dL_law_1093 : decode cL_law 1093 = .ok (.aload_n 1, 1) := by decide +kernel
theorem dL_law_1094 : decode cL_law 1094 = .ok (.aload_n 0, 1) := by decide +kernel
theorem dL_law_1095 : decode cL_law 1095 = .ok (.iload_n 3, 1) := by decide +kernel
theorem dL_law_1096 : decode cL_law 1096 = .ok (.iconst 1, 1) := by decide +kernel
theorem dL_law_1097 : decode cL_law 1097 = .ok (.iadd, 1) := by decide +kernel
theorem dL_law_1098 : decode cL_law 1098 = .ok (.iaload, 1) := by decide +kernel
theorem dL_law_1099 : decode cL_law 1099 = .ok (.aload_n 0, 1) := by decide +kernel
theorem dL_law_1100 : decode cL_law 1100 = .ok (.iload_n 3, 1) := by decide +kernel
theorem dL_law_1101 : decode cL_law 1101 = .ok (.iconst 2, 1) := by decide +kernel
theorem dL_law_1102 : decode cL_law 1102 = .ok (.iadd, 1) := by decide +kernel
theorem dL_law_1103 : decode cL_law 1103 = .ok (.iaload, 1) := by decide +kernel
theorem dL_law_1104 : decode cL_law 1104 = .ok (.invokevirtual 122, 3) := by decide +kernel
theorem dL_law_1107 : decode cL_law 1107 = .ok (.pop, 1) := by decide +kernel
theorem dL_law_1108 : decode cL_law 1108 = .ok (.aload_n 2, 1) := by decide +kernel
theorem dL_law_1109 : decode cL_law 1109 = .ok (.aload_n 0, 1) := by decide +kernel
theorem dL_law_1110 : decode cL_law 1110 = .ok (.iload_n 3, 1) := by decide +kernel
theorem dL_law_1111 : decode cL_law 1111 = .ok (.iconst 1, 1) := by decide +kernel
theorem dL_law_1112 : decode cL_law 1112 = .ok (.iadd, 1) := by decide +kernel
theorem dL_law_1113 : decode cL_law 1113 = .ok (.iaload, 1) := by decide +kernel
theorem dL_law_1114 : decode cL_law 1114 = .ok (.aload_n 0, 1) := by decide +kernel
theorem dL_law_1115 : decode cL_law 1115 = .ok (.iload_n 3, 1) := by decide +kernel
theorem dL_law_1116 : decode cL_law 1116 = .ok (.iconst 2, 1) := by decide +kernel
theorem dL_law_1117 : decode cL_law 1117 = .ok (.iadd, 1) := by decide +kernel
theorem dL_law_1118 : decode cL_law 1118 = .ok (.iaload, 1) := by decide +kernel
theorem dL_law_1119 : decode cL_law 1119 = .ok (.invokevirtual 125, 3) := by decide +kernel
theorem dL_law_1122 : decode cL_law 1122 = .ok (.pop, 1) := by decide +kernel
theorem dL_law_1123 : decode cL_law 1123 = .ok (.goto 26, 3) := by decide +kernel
theorem dL_law_1126 : decode cL_law 1126 = .ok (.aload_n 1, 1) := by decide +kernel
theorem dL_law_1127 : decode cL_law 1127 = .ok (.aload_n 0, 1) := by decide +kernel
theorem dL_law_1128 : decode cL_law 1128 = .ok (.iload_n 3, 1) := by decide +kernel
theorem dL_law_1129 : decode cL_law 1129 = .ok (.iconst 1, 1) := by decide +kernel
theorem dL_law_1130 : decode cL_law 1130 = .ok (.iadd, 1) := by decide +kernel
theorem dL_law_1131 : decode cL_law 1131 = .ok (.iaload, 1) := by decide +kernel
theorem dL_law_1132 : decode cL_law 1132 = .ok (.invokevirtual 126, 3) := by decide +kernel
theorem dL_law_1135 : decode cL_law 1135 = .ok (.pop, 1) := by decide +kernel
theorem dL_law_1136 : decode cL_law 1136 = .ok (.aload_n 2, 1) := by decide +kernel
theorem dL_law_1137 : decode cL_law 1137 = .ok (.aload_n 0, 1) := by decide +kernel
theorem dL_law_1138 : decode cL_law 1138 = .ok (.iload_n 3, 1) := by decide +kernel
theorem dL_law_1139 : decode cL_law 1139 = .ok (.iconst 1, 1) := by decide +kernel
theorem dL_law_1140 : decode cL_law 1140 = .ok (.iadd, 1) := by decide +kernel
theorem dL_law_1141 : decode cL_law 1141 = .ok (.iaload, 1) := by decide +kernel
theorem dL_law_1142 : decode cL_law 1142 = .ok (.invokevirtual 129, 3) := by decide +kernel
theorem dL_law_1145 : decode cL_law 1145 = .ok (.pop, 1) := by decide +kernel
theorem dL_law_1146 : decode cL_law 1146 = .ok (.goto 3, 3) := by decide +kernel
theorem dL_law_1149 : decode cL_law 1149 = .ok (.iinc 3 6, 3) := by decide +kernel
theorem dL_law_1152 : decode cL_law 1152 = .ok (.goto (-1134), 3) := by decide +kernel
theorem dL_law_1155 : decode cL_law 1155 = .ok (.iconst 1, 1) := by decide +kernel
theorem dL_law_1156 : decode cL_law 1156 = .ok (.ireturn, 1) := by decide +kernel
end
section
theorem addI {a b : Int32} (h1 : -2147483648 ≤ a.toInt + b.toInt) (h2 : a.toInt + b.toInt < 2147483648) : (a + b).toInt = a.toInt + b.toInt := by
  rw [Int32.toInt_add]
  apply Int.bmod_eq_of_le <;> omega
theorem subI {a b : Int32} (h1 : -2147483648 ≤ a.toInt - b.toInt) (h2 : a.toInt - b.toInt < 2147483648) : (a - b).toInt = a.toInt - b.toInt := by
  rw [Int32.toInt_sub]
  apply Int.bmod_eq_of_le <;> omega
theorem mulI {a b : Int32} (h1 : -2147483648 ≤ a.toInt * b.toInt) (h2 : a.toInt * b.toInt < 2147483648) : (a * b).toInt = a.toInt * b.toInt := by
  rw [Int32.toInt_mul]
  apply Int.bmod_eq_of_le <;> omega
theorem rngI (a : Int32) : -2147483648 ≤ a.toInt ∧ a.toInt < 2147483648 := ⟨by have := Int32.le_toInt a; omega, by have := Int32.toInt_lt a; omega⟩
theorem inI {x : Int32} {n : Nat} (h1 : 0 ≤ x.toInt) (h2 : x.toInt < n) : vp_in x n := vp_in_iff.mpr ⟨h1, h2⟩
theorem clI {x : Int32} (h : 0 ≤ x.toInt) : (x.toNatClampNeg : Int) = x.toInt := by
  exact Int.toNat_of_nonneg h
theorem cat_rf (r : Option Nat) : (va_rf r).category = 1 := by cases r <;> rfl
theorem nzb {x : Int32} (h : x = 0 ∨ x = 1) : narrow .boolean (.int x) = .int x := by rcases h with rfl | rfl <;> rfl
theorem fzb {x : Int32} (h : x = 0 ∨ x = 1) : fits .boolean (.int x) = true := by rcases h with rfl | rfl <;> rfl
section QRows
variable {p : Program} {l : Launch} {e : Env} {R : Room} {s : State} {m : MethodId} {args : Array Value} {below : List Frame} {meth : Method} {c : Code} {H : Heap} {locs : List Loc} {cells slots : Nat} {Q : State → Prop}
variable {cc : ByteArray} {pc : Nat} {ls : Array Slot} {rest : List Value}
theorem lv_aload_nQ (hexec : p.tables.exec = Jvm.exec) (hb : c.code = cc) {k : Fin 4} {i : Nat} {x : Option Nat} (hdg : decode cc pc = .ok (.aload_n k, 1)) (hi : (k : Nat) = i) (hl : ls[i]? = some (.val (va_rf x)))
    (kk : W p l e R s m args below meth c H locs cells slots Q (F0 m (pc + 1) ls (va_rf x :: rest))) : W p l e R s m args below meth c H locs cells slots Q (F0 m pc ls rest) := by
  cases x with
  | none => exact lv_aload_nN hexec hb hdg hi hl kk
  | some a => exact lv_aload_n hexec hb hdg hi hl kk
theorem lv_aloadQ (hexec : p.tables.exec = Jvm.exec) (hb : c.code = cc) {i : Nat} {x : Option Nat} (hdg : decode cc pc = .ok (.aload i, 2)) (hl : ls[i]? = some (.val (va_rf x)))
    (kk : W p l e R s m args below meth c H locs cells slots Q (F0 m (pc + 2) ls (va_rf x :: rest))) : W p l e R s m args below meth c H locs cells slots Q (F0 m pc ls rest) := by
  cases x with
  | none => exact lv_aloadN hexec hb hdg hl kk
  | some a => exact lv_aload hexec hb hdg hl kk
theorem lv_astore_nQ (hexec : p.tables.exec = Jvm.exec) (hb : c.code = cc) {k : Fin 4} {i nL : Nat} {x : Option Nat} {lv lv' : List (Nat × Value)} (hdg : decode cc pc = .ok (.astore_n k, 1)) (hi : (k : Nat) = i) (h : lv_has ls nL lv) (hn : i < nL) (hl : (i, va_rf x) :: lv.filter (fun q => !(q.1 == i) && !(q.1 + 1 == i && q.2.category == 2)) = lv')
    (kk : ∀ ls : Array Slot, lv_has ls nL lv' → W p l e R s m args below meth c H locs cells slots Q (F0 m (pc + 1) ls rest)) : W p l e R s m args below meth c H locs cells slots Q (F0 m pc ls (va_rf x :: rest)) := by
  cases x with
  | none => exact lv_astore_nN hexec hb hdg hi h hn hl kk
  | some a => exact lv_astore_n hexec hb hdg hi h hn hl kk
theorem lv_astoreQ (hexec : p.tables.exec = Jvm.exec) (hb : c.code = cc) {i nL : Nat} {x : Option Nat} {lv lv' : List (Nat × Value)} (hdg : decode cc pc = .ok (.astore i, 2)) (h : lv_has ls nL lv) (hn : i < nL) (hl : (i, va_rf x) :: lv.filter (fun q => !(q.1 == i) && !(q.1 + 1 == i && q.2.category == 2)) = lv')
    (kk : ∀ ls : Array Slot, lv_has ls nL lv' → W p l e R s m args below meth c H locs cells slots Q (F0 m (pc + 2) ls rest)) : W p l e R s m args below meth c H locs cells slots Q (F0 m pc ls (va_rf x :: rest)) := by
  cases x with
  | none => exact lv_astoreN hexec hb hdg h hn hl kk
  | some a => exact lv_astore hexec hb hdg h hn hl kk
theorem lv_ifnullQ (hexec : p.tables.exec = Jvm.exec) (hb : c.code = cc) {x : Option Nat} {off : Int} {tgt : Nat} (hdg : decode cc pc = .ok (.ifnull off, 3)) (ht : (pc : Int) + off = (tgt : Int)) (k1 : x = none → W p l e R s m args below meth c H locs cells slots Q (F0 m tgt ls rest)) (k2 : ∀ q, x = some q → W p l e R s m args below meth c H locs cells slots Q (F0 m (pc + 3) ls rest)) : W p l e R s m args below meth c H locs cells slots Q (F0 m pc ls (va_rf x :: rest)) := by
  cases x with
  | none => exact lv_ifnullN hexec hb hdg ht (k1 rfl)
  | some a => exact lv_ifnull hexec hb hdg (k2 a rfl)
theorem lv_ifnonnullQ (hexec : p.tables.exec = Jvm.exec) (hb : c.code = cc) {x : Option Nat} {off : Int} {tgt : Nat} (hdg : decode cc pc = .ok (.ifnonnull off, 3)) (ht : (pc : Int) + off = (tgt : Int)) (k1 : ∀ q, x = some q → W p l e R s m args below meth c H locs cells slots Q (F0 m tgt ls rest)) (k2 : x = none → W p l e R s m args below meth c H locs cells slots Q (F0 m (pc + 3) ls rest)) : W p l e R s m args below meth c H locs cells slots Q (F0 m pc ls (va_rf x :: rest)) := by
  cases x with
  | none => exact lv_ifnonnullN hexec hb hdg (k2 rfl)
  | some a => exact lv_ifnonnull hexec hb hdg ht (k1 a rfl)
end QRows
end
section
/-- what a reference field of the developers' classes holds: 1 never null (once built); the kind; an array's length or 0 -/
def fty (f : Nat) : Nat × Nat × Nat := match f with
  | 1 => (1, 6, 0)
  | 2 => (0, 4, 0)
  | 100 => (0, 6, 0)
  | 101 => (0, 6, 0)
  | 200 => (1, 21, 3721)
  | 201 => (1, 21, 3600)
  | 202 => (1, 24, 60)
  | 203 => (0, 5, 0)
  | 204 => (0, 5, 0)
  | 300 => (1, 6, 0)
  | 400 => (1, 25, 60)
  | 500 => (1, 5, 0)
  | 503 => (0, 6, 0)
  | 504 => (0, 6, 0)
  | 505 => (0, 6, 0)
  | 508 => (0, 6, 0)
  | 600 => (1, 11, 0)
  | 604 => (0, 6, 0)
  | 605 => (0, 6, 0)
  | 700 => (1, 25, 40)
  | 703 => (0, 6, 0)
  | 800 => (1, 25, 6)
  | 801 => (1, 24, 256)
  | 900 => (1, 23, 1600)
  | 1000 => (1, 10, 0)
  | 1100 => (1, 10, 0)
  | 1101 => (1, 7, 0)
  | 1102 => (1, 26, 4)
  | 1103 => (1, 27, 8)
  | 1104 => (1, 21, 3721)
  | 1105 => (1, 2, 0)
  | 1106 => (1, 2, 0)
  | 1107 => (1, 9, 0)
  | 1108 => (1, 28, 20)
  | 1109 => (1, 8, 0)
  | _ => (0, 0, 0)
def ety (t : Nat) : Nat := match t with
  | 0 => 6
  | 1 => 5
  | 2 => 3
  | _ => 1
/-- every reference of the developers' objects points to an object of its kind; x: the objects that are being built -/
def TI (x : Nat → Prop) (S : Mem) : Prop :=
  (∀ a ci k, mK S a = ci + 1 → ci < 12 → k < 20 → (fty (100 * ci + k)).2.1 ≠ 0 → (¬ x a → (fty (100 * ci + k)).1 = 1 → ∃ q, mR S (100 * ci + k) a = some q) ∧ ∀ q, mR S (100 * ci + k) a = some q → mK S q = (fty (100 * ci + k)).2.1 ∧ ((fty (100 * ci + k)).2.2 ≠ 0 → mN S q = (fty (100 * ci + k)).2.2)) ∧
  (∀ a t i q, mK S a = t + 25 → t < 4 → aR S a i = some q → mK S q = ety t)
def NI (c : Nat) (tl : Int) (rho : Nat) (S : Mem) : Prop :=
  (∀ a, mK S a = 5 → 0 ≤ (mI S 401 a).toInt ∧ (mI S 401 a).toInt ≤ 60) ∧
  (∀ a, mK S a = 6 → 0 ≤ (mI S 501 a).toInt ∧ (mI S 501 a).toInt < 60 ∧ 0 ≤ (mI S 509 a).toInt ∧ (mI S 509 a).toInt ≤ c) ∧
  (∀ a q, mK S a = 6 → mR S 503 a = some q → (mI S 501 q).toInt < (mI S 501 a).toInt) ∧
  (∀ a q, mK S a = 6 → mR S 504 a = some q → (mI S 501 q).toInt < (mI S 501 a).toInt) ∧
  (∀ a, mK S a = 9 → 0 ≤ (mI S 802 a).toInt ∧ (mI S 802 a).toInt ≤ 6) ∧
  (∀ a, mK S a = 10 → (mI S 901 a).toInt = tl) ∧ (0 ≤ tl ∧ tl ≤ 1600) ∧
  (∀ a, mK S a = 12 → 0 ≤ (mI S 1110 a).toInt ∧ (mI S 1110 a).toInt ≤ 20 ∧ 0 ≤ (mI S 1111 a).toInt ∧ (mI S 1111 a).toInt < 8) ∧
  (∀ a, mK S a = 8 → 0 ≤ (mI S 705 a).toInt ∧ (mI S 705 a).toInt ≤ rho)
def CI (x : Nat → Prop) (c : Nat) (tl : Int) (rho : Nat) (S : Mem) : Prop := TI x S ∧ NI c tl rho S
abbrev x0 : Nat → Prop := fun _ => False
section Inv
variable {x : Nat → Prop} {c : Nat} {tl : Int} {rho : Nat} {S : Mem} {a : Nat}
theorem TI.nn {ci k : Nat} (h : TI x0 S) (hk : mK S a = ci + 1) (hc : ci < 12 := by decide) (hk2 : k < 20 := by decide) (hn : (fty (100 * ci + k)).1 = 1 := by rfl) (hz : (fty (100 * ci + k)).2.1 ≠ 0 := by decide) : ∃ q, mR S (100 * ci + k) a = some q ∧ mK S q = (fty (100 * ci + k)).2.1 ∧ ((fty (100 * ci + k)).2.2 ≠ 0 → mN S q = (fty (100 * ci + k)).2.2) := by
  obtain ⟨h1, h2⟩ := h.1 a ci k hk hc hk2 hz
  obtain ⟨q, hq⟩ := h1 (fun z => z) hn
  exact ⟨q, hq, h2 q hq⟩
theorem TI.opt {ci k : Nat} (h : TI x S) (hk : mK S a = ci + 1) (hc : ci < 12 := by decide) (hk2 : k < 20 := by decide) (hz : (fty (100 * ci + k)).2.1 ≠ 0 := by decide) : ∀ q, mR S (100 * ci + k) a = some q → mK S q = (fty (100 * ci + k)).2.1 := fun q hq => ((h.1 a ci k hk hc hk2 hz).2 q hq).1
theorem TI.arr {t i : Nat} (h : TI x S) (hk : mK S a = t + 25) (ht : t < 4 := by decide) : ∀ q, aR S a i = some q → mK S q = ety t := fun q hq => h.2 a t i q hk ht hq
/-- a reference field is written -/
theorem TI.putR {ci k : Nat} {o : Option Nat} (h : TI x S) (hk : mK S a = ci + 1) (ho : ∀ q, o = some q → mK S q = (fty (100 * ci + k)).2.1 ∧ ((fty (100 * ci + k)).2.2 ≠ 0 → mN S q = (fty (100 * ci + k)).2.2)) (hn : (fty (100 * ci + k)).1 = 0 ∨ o ≠ none) (hk2 : k < 20) : TI x (pR S (100 * ci + k) a o) := by
  refine ⟨fun b cj j hb hc hj hz => ?_, h.2⟩
  have hb' : mK S b = cj + 1 := hb
  obtain ⟨h1, h2⟩ := h.1 b cj j hb' hc hj hz
  by_cases e : 100 * cj + j = 100 * ci + k ∧ b = a
  · obtain ⟨e1, rfl⟩ := e
    have hv : mR (pR S (100 * ci + k) b o) (100 * cj + j) b = o := by simp [mR, up2, e1]
    rw [hv, e1]
    refine ⟨fun _ hn1 => ?_, fun q hq => ho q hq⟩
    rcases hn with hn | hn
    · rw [hn] at hn1; cases hn1
    · cases o with
      | none => exact absurd rfl hn
      | some q => exact ⟨q, rfl⟩
  · have hv : mR (pR S (100 * ci + k) a o) (100 * cj + j) b = mR S (100 * cj + j) b := up2_ne e
    rw [hv]
    exact ⟨h1, h2⟩
theorem TI.putA {t i : Nat} {o : Option Nat} (h : TI x S) (hk : mK S a = t + 25) (ho : ∀ q, o = some q → mK S q = ety t) : TI x (qR S a i o) := by
  refine ⟨h.1, fun b t' j q hb ht hq => ?_⟩
  have hb' : mK S b = t' + 25 := hb
  by_cases e : b = a ∧ j = i
  · obtain ⟨rfl, rfl⟩ := e
    have ht' : t' = t := by omega
    subst ht'
    refine ho q ?_
    have hv : aR (qR S b j o) b j = o := by simp [aR, up2]
    exact hv.symm.trans hq
  · have hv : up2 (aR S) a i o b j = aR S b j := up2_ne e
    exact h.2 b t' j q hb' ht (hv.symm.trans hq)
end Inv
theorem ltT {x y : Int32} (h : x < y) : x.toInt < y.toInt := Int32.lt_iff_toInt_lt.mp h
theorem ltF {x y : Int32} (h : ¬ x < y) : y.toInt ≤ x.toInt := by rw [Int32.lt_iff_toInt_lt] at h; omega
theorem leT {x y : Int32} (h : x ≤ y) : x.toInt ≤ y.toInt := Int32.le_iff_toInt_le.mp h
theorem leF {x y : Int32} (h : ¬ x ≤ y) : y.toInt < x.toInt := by rw [Int32.le_iff_toInt_le] at h; omega
theorem eqT {x y : Int32} (h : x = y) : x.toInt = y.toInt := by rw [h]
theorem eqF {x y : Int32} (h : ¬ x = y) : ¬ x.toInt = y.toInt := fun q => h (Int32.toInt_inj.mp q)
section InvN
variable {x : Nat → Prop} {c : Nat} {tl : Int} {rho : Nat} {S : Mem} {a : Nat}
theorem NI.f401 (h : NI c tl rho S) (k : mK S a = 5) : 0 ≤ (mI S 401 a).toInt ∧ (mI S 401 a).toInt ≤ 60 := h.1 a k
theorem NI.f501 (h : NI c tl rho S) (k : mK S a = 6) : 0 ≤ (mI S 501 a).toInt ∧ (mI S 501 a).toInt < 60 := ⟨(h.2.1 a k).1, (h.2.1 a k).2.1⟩
theorem NI.f509 (h : NI c tl rho S) (k : mK S a = 6) : 0 ≤ (mI S 509 a).toInt ∧ (mI S 509 a).toInt ≤ c := (h.2.1 a k).2.2
theorem NI.f503 (h : NI c tl rho S) {q : Nat} (k : mK S a = 6) (e : mR S 503 a = some q) : (mI S 501 q).toInt < (mI S 501 a).toInt := h.2.2.1 a q k e
theorem NI.f504 (h : NI c tl rho S) {q : Nat} (k : mK S a = 6) (e : mR S 504 a = some q) : (mI S 501 q).toInt < (mI S 501 a).toInt := h.2.2.2.1 a q k e
theorem NI.f802 (h : NI c tl rho S) (k : mK S a = 9) : 0 ≤ (mI S 802 a).toInt ∧ (mI S 802 a).toInt ≤ 6 := h.2.2.2.2.1 a k
theorem NI.f901 (h : NI c tl rho S) (k : mK S a = 10) : (mI S 901 a).toInt = tl ∧ 0 ≤ tl ∧ tl ≤ 1600 := ⟨h.2.2.2.2.2.1 a k, h.2.2.2.2.2.2.1⟩
theorem NI.f1110 (h : NI c tl rho S) (k : mK S a = 12) : 0 ≤ (mI S 1110 a).toInt ∧ (mI S 1110 a).toInt ≤ 20 := ⟨(h.2.2.2.2.2.2.2.1 a k).1, (h.2.2.2.2.2.2.2.1 a k).2.1⟩
theorem NI.f1111 (h : NI c tl rho S) (k : mK S a = 12) : 0 ≤ (mI S 1111 a).toInt ∧ (mI S 1111 a).toInt < 8 := (h.2.2.2.2.2.2.2.1 a k).2.2
theorem NI.f705 (h : NI c tl rho S) (k : mK S a = 8) : 0 ≤ (mI S 705 a).toInt ∧ (mI S 705 a).toInt ≤ rho := h.2.2.2.2.2.2.2.2 a k
end InvN
end
section
set_option maxHeartbeats 4000000 in
set_option maxRecDepth 100000 in
theorem c_X9_byteAt (l : Launch) (D : gD) (H0 : Heap) (S : Mem) (kc ns : Nat) (h0 : Nat) (i0 : Int32) {c : Nat} {tl : Int} {rho : Nat} (hI : CI x0 c tl rho S) (kh0 : mK S h0 = 10) : Met l yX9_byteAt (wsU yX9_byteAt cX9_byteAt 2 (some .int)) ({ frames := 0, cells := 0, slots := 0, locals := 0 } : Room) (mP D H0 S kc ns [.ref h0, .int i0]) (mQ D H0 gI (fun r S1 k1 n1 => S1 = S ∧ k1 = kc ∧ n1 = ns ∧ True)) 0 0 (mF H0) := by
  refine r_met (own := RX9) (by decide +kernel) rfl (Nat.le_of_ble_eq_true rfl) ?_
  intro p e s m args below meth c C hr hlk hnm H ls hl hM
  obtain ⟨hx, hb, hml, hown, hts, -, -⟩ := id C
  have hl : lv_has ls 2 [(0, .ref h0), (1, .int i0)] := hl
  have t_m1 : (-1 : Int32).toInt = -1 := by decide
  have t_0 : (0 : Int32).toInt = 0 := by decide
  have t_255 : (255 : Int32).toInt = 255 := by decide
  refine lv_iload_n hx hb dX9_byteAt_0 rfl (lv_at hl 1 rfl) ?_
  refine lv_if_lt (tgt := 12) hx hb dX9_byteAt_1 (by decide) (fun c1 => ?_) (fun c1 => ?_)
  · have tc1 := ltT c1
    refine lv_iconst (v := -1) hx hb dX9_byteAt_12 (by decide) ?_
    refine lv_goto (tgt := 26) hx hb dX9_byteAt_13 (by decide) ?_
    exact r_retI C hr hlk hM (⟨rfl, rfl, rfl, trivial⟩) dX9_byteAt_26
  · have tc1 := ltF c1
    refine lv_iload_n hx hb dX9_byteAt_4 rfl (lv_at hl 1 rfl) ?_
    refine lv_aload_n hx hb dX9_byteAt_5 rfl (lv_at hl 0 rfl) ?_
    refine r_get (ci := 9) (k := 1) (v := .int (mI S 901 h0)) C hM kh0 f_X9_15 rfl dX9_byteAt_6 ?_
    refine lv_topi (fun x2 ex2 => ?_)
    have fx2 := NI.f901 hI.2 kh0
    rw [← ex2] at fx2
    refine lv_icmp_lt (tgt := 16) hx hb dX9_byteAt_9 (by decide) (fun c3 => ?_) (fun c3 => ?_)
    · have tc3 := ltT c3
      refine lv_aload_n hx hb dX9_byteAt_16 rfl (lv_at hl 0 rfl) ?_
      obtain ⟨q4, eq4, kq4, nq4⟩ := TI.nn hI.1 (ci := 9) (k := 0) kh0
      refine r_get (ci := 9) (k := 0) (v := .ref q4) C hM kh0 f_X9_9 (congrArg va_rf eq4) dX9_byteAt_17 ?_
      refine lv_iload_n hx hb dX9_byteAt_20 rfl (lv_at hl 1 rfl) ?_
      refine r_bald C hM kq4 (inI (by omega) (by rw [nq4 (by decide)]; show _ < (1600 : Int); omega)) dX9_byteAt_21 ?_
      refine lv_topi (fun x5 ex5 => ?_)
      refine lv_sipush (v := 255) hx hb dX9_byteAt_22 (by decide) ?_
      refine lv_iand hx hb dX9_byteAt_25 ?_
      refine lv_topi (fun x6 ex6 => ?_)
      exact r_retI C hr hlk hM (⟨rfl, rfl, rfl, trivial⟩) dX9_byteAt_26
    · have tc3 := ltF c3
      refine lv_iconst (v := -1) hx hb dX9_byteAt_12 (by decide) ?_
      refine lv_goto (tgt := 26) hx hb dX9_byteAt_13 (by decide) ?_
      exact r_retI C hr hlk hM (⟨rfl, rfl, rfl, trivial⟩) dX9_byteAt_26
set_option maxHeartbeats 4000000 in
set_option maxRecDepth 100000 in
theorem c_X10_isBlank (l : Launch) (D : gD) (H0 : Heap) (S : Mem) (kc ns : Nat) (i0 : Int32) : Met l yX10_isBlank (wsU yX10_isBlank cX10_isBlank 1 (some .boolean)) ({ frames := 0, cells := 0, slots := 0, locals := 0 } : Room) (mP D H0 S kc ns [.int i0]) (mQ D H0 gI (fun r S1 k1 n1 => S1 = S ∧ k1 = kc ∧ n1 = ns ∧ (r = 0 ∨ r = 1))) 0 0 (mF H0) := by
  refine r_met (own := RX10) (by decide +kernel) rfl (Nat.le_of_ble_eq_true rfl) ?_
  intro p e s m args below meth c C hr hlk hnm H ls hl hM
  obtain ⟨hx, hb, hml, hown, hts, -, -⟩ := id C
  have hl : lv_has ls 1 [(0, .int i0)] := hl
  have t_0 : (0 : Int32).toInt = 0 := by decide
  have t_1 : (1 : Int32).toInt = 1 := by decide
  have t_10 : (10 : Int32).toInt = 10 := by decide
  have t_32 : (32 : Int32).toInt = 32 := by decide
  refine lv_iload_n hx hb dX10_isBlank_0 rfl (lv_at hl 0 rfl) ?_
  refine lv_bipush (v := 32) hx hb dX10_isBlank_1 (by decide) ?_
  refine lv_icmp_eq (tgt := 12) hx hb dX10_isBlank_3 (by decide) (fun c1 => ?_) (fun c1 => ?_)
  · have tc1 := eqT c1
    refine lv_iconst (v := 1) hx hb dX10_isBlank_12 (by decide) ?_
    refine lv_goto (tgt := 17) hx hb dX10_isBlank_13 (by decide) ?_
    exact r_retZ C hr hlk rfl hM (⟨rfl, rfl, rfl, by decide⟩) dX10_isBlank_17
  · have tc1 := eqF c1
    refine lv_iload_n hx hb dX10_isBlank_6 rfl (lv_at hl 0 rfl) ?_
    refine lv_bipush (v := 10) hx hb dX10_isBlank_7 (by decide) ?_
    refine lv_icmp_ne (tgt := 16) hx hb dX10_isBlank_9 (by decide) (fun c2 => ?_) (fun c2 => ?_)
    · have tc2 := eqF c2
      refine lv_iconst (v := 0) hx hb dX10_isBlank_16 (by decide) ?_
      exact r_retZ C hr hlk rfl hM (⟨rfl, rfl, rfl, by decide⟩) dX10_isBlank_17
    · have tc2 := eqT c2
      refine lv_iconst (v := 1) hx hb dX10_isBlank_12 (by decide) ?_
      refine lv_goto (tgt := 17) hx hb dX10_isBlank_13 (by decide) ?_
      exact r_retZ C hr hlk rfl hM (⟨rfl, rfl, rfl, by decide⟩) dX10_isBlank_17
set_option maxHeartbeats 4000000 in
set_option maxRecDepth 100000 in
theorem c_X10_isLetter (l : Launch) (D : gD) (H0 : Heap) (S : Mem) (kc ns : Nat) (i0 : Int32) : Met l yX10_isLetter (wsU yX10_isLetter cX10_isLetter 1 (some .boolean)) ({ frames := 0, cells := 0, slots := 0, locals := 0 } : Room) (mP D H0 S kc ns [.int i0]) (mQ D H0 gI (fun r S1 k1 n1 => S1 = S ∧ k1 = kc ∧ n1 = ns ∧ (r = 0 ∨ r = 1))) 0 0 (mF H0) := by
  refine r_met (own := RX10) (by decide +kernel) rfl (Nat.le_of_ble_eq_true rfl) ?_
  intro p e s m args below meth c C hr hlk hnm H ls hl hM
  obtain ⟨hx, hb, hml, hown, hts, -, -⟩ := id C
  have hl : lv_has ls 1 [(0, .int i0)] := hl
  have t_0 : (0 : Int32).toInt = 0 := by decide
  have t_1 : (1 : Int32).toInt = 1 := by decide
  have t_97 : (97 : Int32).toInt = 97 := by decide
  have t_122 : (122 : Int32).toInt = 122 := by decide
  refine lv_iload_n hx hb dX10_isLetter_0 rfl (lv_at hl 0 rfl) ?_
  refine lv_bipush (v := 97) hx hb dX10_isLetter_1 (by decide) ?_
  refine lv_icmp_lt (tgt := 16) hx hb dX10_isLetter_3 (by decide) (fun c1 => ?_) (fun c1 => ?_)
  · have tc1 := ltT c1
    refine lv_iconst (v := 0) hx hb dX10_isLetter_16 (by decide) ?_
    exact r_retZ C hr hlk rfl hM (⟨rfl, rfl, rfl, by decide⟩) dX10_isLetter_17
  · have tc1 := ltF c1
    refine lv_iload_n hx hb dX10_isLetter_6 rfl (lv_at hl 0 rfl) ?_
    refine lv_bipush (v := 122) hx hb dX10_isLetter_7 (by decide) ?_
    refine lv_icmp_gt (tgt := 16) hx hb dX10_isLetter_9 (by decide) (fun c2 => ?_) (fun c2 => ?_)
    · have tc2 := ltT c2
      refine lv_iconst (v := 0) hx hb dX10_isLetter_16 (by decide) ?_
      exact r_retZ C hr hlk rfl hM (⟨rfl, rfl, rfl, by decide⟩) dX10_isLetter_17
    · have tc2 := ltF c2
      refine lv_iconst (v := 1) hx hb dX10_isLetter_12 (by decide) ?_
      refine lv_goto (tgt := 17) hx hb dX10_isLetter_13 (by decide) ?_
      exact r_retZ C hr hlk rfl hM (⟨rfl, rfl, rfl, by decide⟩) dX10_isLetter_17
set_option maxHeartbeats 4000000 in
set_option maxRecDepth 100000 in
theorem c_X10_isTextByte (l : Launch) (D : gD) (H0 : Heap) (S : Mem) (kc ns : Nat) (i0 : Int32) : Met l yX10_isTextByte (wsU yX10_isTextByte cX10_isTextByte 1 (some .boolean)) ({ frames := 0, cells := 0, slots := 0, locals := 0 } : Room) (mP D H0 S kc ns [.int i0]) (mQ D H0 gI (fun r S1 k1 n1 => S1 = S ∧ k1 = kc ∧ n1 = ns ∧ (r = 0 ∨ r = 1))) 0 0 (mF H0) := by
  refine r_met (own := RX10) (by decide +kernel) rfl (Nat.le_of_ble_eq_true rfl) ?_
  intro p e s m args below meth c C hr hlk hnm H ls hl hM
  obtain ⟨hx, hb, hml, hown, hts, -, -⟩ := id C
  have hl : lv_has ls 1 [(0, .int i0)] := hl
  have t_0 : (0 : Int32).toInt = 0 := by decide
  have t_1 : (1 : Int32).toInt = 1 := by decide
  have t_32 : (32 : Int32).toInt = 32 := by decide
  have t_34 : (34 : Int32).toInt = 34 := by decide
  have t_126 : (126 : Int32).toInt = 126 := by decide
  refine lv_iload_n hx hb dX10_isTextByte_0 rfl (lv_at hl 0 rfl) ?_
  refine lv_bipush (v := 32) hx hb dX10_isTextByte_1 (by decide) ?_
  refine lv_icmp_lt (tgt := 22) hx hb dX10_isTextByte_3 (by decide) (fun c1 => ?_) (fun c1 => ?_)
  · have tc1 := ltT c1
    refine lv_iconst (v := 0) hx hb dX10_isTextByte_22 (by decide) ?_
    exact r_retZ C hr hlk rfl hM (⟨rfl, rfl, rfl, by decide⟩) dX10_isTextByte_23
  · have tc1 := ltF c1
    refine lv_iload_n hx hb dX10_isTextByte_6 rfl (lv_at hl 0 rfl) ?_
    refine lv_bipush (v := 126) hx hb dX10_isTextByte_7 (by decide) ?_
    refine lv_icmp_gt (tgt := 22) hx hb dX10_isTextByte_9 (by decide) (fun c2 => ?_) (fun c2 => ?_)
    · have tc2 := ltT c2
      refine lv_iconst (v := 0) hx hb dX10_isTextByte_22 (by decide) ?_
      exact r_retZ C hr hlk rfl hM (⟨rfl, rfl, rfl, by decide⟩) dX10_isTextByte_23
    · have tc2 := ltF c2
      refine lv_iload_n hx hb dX10_isTextByte_12 rfl (lv_at hl 0 rfl) ?_
      refine lv_bipush (v := 34) hx hb dX10_isTextByte_13 (by decide) ?_
      refine lv_icmp_eq (tgt := 22) hx hb dX10_isTextByte_15 (by decide) (fun c3 => ?_) (fun c3 => ?_)
      · have tc3 := eqT c3
        refine lv_iconst (v := 0) hx hb dX10_isTextByte_22 (by decide) ?_
        exact r_retZ C hr hlk rfl hM (⟨rfl, rfl, rfl, by decide⟩) dX10_isTextByte_23
      · have tc3 := eqF c3
        refine lv_iconst (v := 1) hx hb dX10_isTextByte_18 (by decide) ?_
        refine lv_goto (tgt := 23) hx hb dX10_isTextByte_19 (by decide) ?_
        exact r_retZ C hr hlk rfl hM (⟨rfl, rfl, rfl, by decide⟩) dX10_isTextByte_23
set_option maxHeartbeats 4000000 in
set_option maxRecDepth 100000 in
theorem c_X10_signToken (l : Launch) (D : gD) (H0 : Heap) (S : Mem) (kc ns : Nat) (i0 : Int32) : Met l yX10_signToken (wsU yX10_signToken cX10_signToken 1 (some .int)) ({ frames := 0, cells := 0, slots := 0, locals := 0 } : Room) (mP D H0 S kc ns [.int i0]) (mQ D H0 gI (fun r S1 k1 n1 => S1 = S ∧ k1 = kc ∧ n1 = ns ∧ True)) 0 0 (mF H0) := by
  refine r_met (own := RX10) (by decide +kernel) rfl (Nat.le_of_ble_eq_true rfl) ?_
  intro p e s m args below meth c C hr hlk hnm H ls hl hM
  obtain ⟨hx, hb, hml, hown, hts, -, -⟩ := id C
  have hl : lv_has ls 1 [(0, .int i0)] := hl
  have t_0 : (0 : Int32).toInt = 0 := by decide
  have t_3 : (3 : Int32).toInt = 3 := by decide
  have t_4 : (4 : Int32).toInt = 4 := by decide
  have t_5 : (5 : Int32).toInt = 5 := by decide
  have t_6 : (6 : Int32).toInt = 6 := by decide
  have t_7 : (7 : Int32).toInt = 7 := by decide
  refine lv_iload_n hx hb dX10_signToken_0 rfl (lv_at hl 0 rfl) ?_
  by_cases h1_0 : i0.toInt = 33
  · refine lv_tableIn (off := 53) (tgt := 54) hx hb dX10_signToken_1 (by omega) (by omega) (by rw [h1_0]; rfl) (by decide) ?_
    refine lv_iconst (v := 4) hx hb dX10_signToken_54 (by decide) ?_
    exact r_retI C hr hlk hM (⟨rfl, rfl, rfl, trivial⟩) dX10_signToken_55
  by_cases h1_1 : i0.toInt = 34
  · refine lv_tableIn (off := 60) (tgt := 61) hx hb dX10_signToken_1 (by omega) (by omega) (by rw [h1_1]; rfl) (by decide) ?_
    refine lv_bipush (v := 7) hx hb dX10_signToken_61 (by decide) ?_
    exact r_retI C hr hlk hM (⟨rfl, rfl, rfl, trivial⟩) dX10_signToken_63
  by_cases h1_2 : i0.toInt = 35
  · refine lv_tableIn (off := 51) (tgt := 52) hx hb dX10_signToken_1 (by omega) (by omega) (by rw [h1_2]; rfl) (by decide) ?_
    refine lv_iconst (v := 3) hx hb dX10_signToken_52 (by decide) ?_
    exact r_retI C hr hlk hM (⟨rfl, rfl, rfl, trivial⟩) dX10_signToken_53
  by_cases h1_3 : i0.toInt = 36
  · refine lv_tableIn (off := 60) (tgt := 61) hx hb dX10_signToken_1 (by omega) (by omega) (by rw [h1_3]; rfl) (by decide) ?_
    refine lv_bipush (v := 7) hx hb dX10_signToken_61 (by decide) ?_
    exact r_retI C hr hlk hM (⟨rfl, rfl, rfl, trivial⟩) dX10_signToken_63
  by_cases h1_4 : i0.toInt = 37
  · refine lv_tableIn (off := 60) (tgt := 61) hx hb dX10_signToken_1 (by omega) (by omega) (by rw [h1_4]; rfl) (by decide) ?_
    refine lv_bipush (v := 7) hx hb dX10_signToken_61 (by decide) ?_
    exact r_retI C hr hlk hM (⟨rfl, rfl, rfl, trivial⟩) dX10_signToken_63
  by_cases h1_5 : i0.toInt = 38
  · refine lv_tableIn (off := 60) (tgt := 61) hx hb dX10_signToken_1 (by omega) (by omega) (by rw [h1_5]; rfl) (by decide) ?_
    refine lv_bipush (v := 7) hx hb dX10_signToken_61 (by decide) ?_
    exact r_retI C hr hlk hM (⟨rfl, rfl, rfl, trivial⟩) dX10_signToken_63
  by_cases h1_6 : i0.toInt = 39
  · refine lv_tableIn (off := 60) (tgt := 61) hx hb dX10_signToken_1 (by omega) (by omega) (by rw [h1_6]; rfl) (by decide) ?_
    refine lv_bipush (v := 7) hx hb dX10_signToken_61 (by decide) ?_
    exact r_retI C hr hlk hM (⟨rfl, rfl, rfl, trivial⟩) dX10_signToken_63
  by_cases h1_7 : i0.toInt = 40
  · refine lv_tableIn (off := 55) (tgt := 56) hx hb dX10_signToken_1 (by omega) (by omega) (by rw [h1_7]; rfl) (by decide) ?_
    refine lv_iconst (v := 5) hx hb dX10_signToken_56 (by decide) ?_
    exact r_retI C hr hlk hM (⟨rfl, rfl, rfl, trivial⟩) dX10_signToken_57
  by_cases h1_8 : i0.toInt = 41
  · refine lv_tableIn (off := 57) (tgt := 58) hx hb dX10_signToken_1 (by omega) (by omega) (by rw [h1_8]; rfl) (by decide) ?_
    refine lv_bipush (v := 6) hx hb dX10_signToken_58 (by decide) ?_
    exact r_retI C hr hlk hM (⟨rfl, rfl, rfl, trivial⟩) dX10_signToken_60
  refine lv_tableOut (tgt := 61) hx hb dX10_signToken_1 (by omega) (by decide) ?_
  refine lv_bipush (v := 7) hx hb dX10_signToken_61 (by decide) ?_
  exact r_retI C hr hlk hM (⟨rfl, rfl, rfl, trivial⟩) dX10_signToken_63
end
