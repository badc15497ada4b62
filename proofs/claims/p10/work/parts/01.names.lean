-- ===== PART A: goes FIRST, ahead of the names: the tables' words, and 'selects' of the private methods out of them =====
/-- a private method of a class that the tables say can be made, by its rows of tables_1 -/
def lw_okq (q : MethodName × Nat) : Prop := (q.1.cls ≠ "java/lang/invoke/MethodHandle" ∧ q.1.cls ≠ "java/lang/invoke/VarHandle") ∧ Cond.instantiable q.1.cls q.2 ∈ tables_1 ∧ Cond.privateMethod q.1 ∈ tables_1 ∧ Cond.instanceMethod q.1 ∈ tables_1
theorem lw_p0 : lw_okq (⟨"ClickBench$Tape", "append", "(I)V"⟩, 2) := ⟨⟨by decide +kernel, by decide +kernel⟩, List.mem_of_getElem? (i := 25) (by decide +kernel), List.mem_of_getElem? (i := 234) (by decide +kernel), List.mem_of_getElem? (i := 235) (by decide +kernel)⟩
theorem lw_p1 : lw_okq (⟨"ClickBench$Reader", "readPage", "()LClickBench$Page;"⟩, 6) := ⟨⟨by decide +kernel, by decide +kernel⟩, List.mem_of_getElem? (i := 41) (by decide +kernel), List.mem_of_getElem? (i := 246) (by decide +kernel), List.mem_of_getElem? (i := 247) (by decide +kernel)⟩
theorem lw_p2 : lw_okq (⟨"ClickBench$Tokens", "rewind", "()V"⟩, 8) := ⟨⟨by decide +kernel, by decide +kernel⟩, List.mem_of_getElem? (i := 47) (by decide +kernel), List.mem_of_getElem? (i := 271) (by decide +kernel), List.mem_of_getElem? (i := 272) (by decide +kernel)⟩
theorem lw_p3 : lw_okq (⟨"ClickBench$Tokens", "advance", "()V"⟩, 8) := ⟨⟨by decide +kernel, by decide +kernel⟩, List.mem_of_getElem? (i := 47) (by decide +kernel), List.mem_of_getElem? (i := 275) (by decide +kernel), List.mem_of_getElem? (i := 276) (by decide +kernel)⟩
theorem lw_p4 : lw_okq (⟨"ClickBench$Tape", "byteAt", "(I)I"⟩, 2) := ⟨⟨by decide +kernel, by decide +kernel⟩, List.mem_of_getElem? (i := 25) (by decide +kernel), List.mem_of_getElem? (i := 279) (by decide +kernel), List.mem_of_getElem? (i := 280) (by decide +kernel)⟩
theorem lw_p5 : lw_okq (⟨"ClickBench$Tokens", "takeWord", "()V"⟩, 8) := ⟨⟨by decide +kernel, by decide +kernel⟩, List.mem_of_getElem? (i := 47) (by decide +kernel), List.mem_of_getElem? (i := 289) (by decide +kernel), List.mem_of_getElem? (i := 290) (by decide +kernel)⟩
theorem lw_p6 : lw_okq (⟨"ClickBench$Tokens", "takeText", "()V"⟩, 8) := ⟨⟨by decide +kernel, by decide +kernel⟩, List.mem_of_getElem? (i := 47) (by decide +kernel), List.mem_of_getElem? (i := 293) (by decide +kernel), List.mem_of_getElem? (i := 294) (by decide +kernel)⟩
theorem lw_p7 : lw_okq (⟨"ClickBench$Tokens", "putTextByte", "(I)V"⟩, 8) := ⟨⟨by decide +kernel, by decide +kernel⟩, List.mem_of_getElem? (i := 47) (by decide +kernel), List.mem_of_getElem? (i := 300) (by decide +kernel), List.mem_of_getElem? (i := 301) (by decide +kernel)⟩
theorem lw_p8 : lw_okq (⟨"ClickBench$Reader", "takeToken", "(LClickBench$Page;)Z"⟩, 6) := ⟨⟨by decide +kernel, by decide +kernel⟩, List.mem_of_getElem? (i := 41) (by decide +kernel), List.mem_of_getElem? (i := 307) (by decide +kernel), List.mem_of_getElem? (i := 308) (by decide +kernel)⟩
theorem lw_p9 : lw_okq (⟨"ClickBench$Reader", "takeName", "()Z"⟩, 6) := ⟨⟨by decide +kernel, by decide +kernel⟩, List.mem_of_getElem? (i := 41) (by decide +kernel), List.mem_of_getElem? (i := 311) (by decide +kernel), List.mem_of_getElem? (i := 312) (by decide +kernel)⟩
theorem lw_p10 : lw_okq (⟨"ClickBench$Reader", "takeKind", "(LClickBench$Page;)Z"⟩, 6) := ⟨⟨by decide +kernel, by decide +kernel⟩, List.mem_of_getElem? (i := 41) (by decide +kernel), List.mem_of_getElem? (i := 315) (by decide +kernel), List.mem_of_getElem? (i := 316) (by decide +kernel)⟩
theorem lw_p11 : lw_okq (⟨"ClickBench$Page", "add", "(JLClickBench$Part;LClickBench$Part;)LClickBench$Part;"⟩, 2) := ⟨⟨by decide +kernel, by decide +kernel⟩, List.mem_of_getElem? (i := 250) (by decide +kernel), List.mem_of_getElem? (i := 319) (by decide +kernel), List.mem_of_getElem? (i := 320) (by decide +kernel)⟩
theorem lw_p12 : lw_okq (⟨"ClickBench$Page", "at", "(I)LClickBench$Part;"⟩, 2) := ⟨⟨by decide +kernel, by decide +kernel⟩, List.mem_of_getElem? (i := 250) (by decide +kernel), List.mem_of_getElem? (i := 328) (by decide +kernel), List.mem_of_getElem? (i := 329) (by decide +kernel)⟩
theorem lw_p13 : lw_okq (⟨"ClickBench$Reader", "move", "(II)Z"⟩, 6) := ⟨⟨by decide +kernel, by decide +kernel⟩, List.mem_of_getElem? (i := 41) (by decide +kernel), List.mem_of_getElem? (i := 431) (by decide +kernel), List.mem_of_getElem? (i := 432) (by decide +kernel)⟩
theorem lw_p14 : lw_okq (⟨"ClickBench$Reader", "takeText", "()Z"⟩, 6) := ⟨⟨by decide +kernel, by decide +kernel⟩, List.mem_of_getElem? (i := 41) (by decide +kernel), List.mem_of_getElem? (i := 435) (by decide +kernel), List.mem_of_getElem? (i := 436) (by decide +kernel)⟩
theorem lw_p15 : lw_okq (⟨"ClickBench$Reader", "takeHarm", "()Z"⟩, 6) := ⟨⟨by decide +kernel, by decide +kernel⟩, List.mem_of_getElem? (i := 41) (by decide +kernel), List.mem_of_getElem? (i := 439) (by decide +kernel), List.mem_of_getElem? (i := 440) (by decide +kernel)⟩
def lw_privs_1 : List (MethodName × Nat) := [(⟨"ClickBench$Tape", "append", "(I)V"⟩, 2), (⟨"ClickBench$Reader", "readPage", "()LClickBench$Page;"⟩, 6), (⟨"ClickBench$Tokens", "rewind", "()V"⟩, 8), (⟨"ClickBench$Tokens", "advance", "()V"⟩, 8), (⟨"ClickBench$Tape", "byteAt", "(I)I"⟩, 2), (⟨"ClickBench$Tokens", "takeWord", "()V"⟩, 8), (⟨"ClickBench$Tokens", "takeText", "()V"⟩, 8), (⟨"ClickBench$Tokens", "putTextByte", "(I)V"⟩, 8), (⟨"ClickBench$Reader", "takeToken", "(LClickBench$Page;)Z"⟩, 6), (⟨"ClickBench$Reader", "takeName", "()Z"⟩, 6), (⟨"ClickBench$Reader", "takeKind", "(LClickBench$Page;)Z"⟩, 6), (⟨"ClickBench$Page", "add", "(JLClickBench$Part;LClickBench$Part;)LClickBench$Part;"⟩, 2), (⟨"ClickBench$Page", "at", "(I)LClickBench$Part;"⟩, 2), (⟨"ClickBench$Reader", "move", "(II)Z"⟩, 6), (⟨"ClickBench$Reader", "takeText", "()Z"⟩, 6), (⟨"ClickBench$Reader", "takeHarm", "()Z"⟩, 6)]
theorem lw_r1 : ∀ q ∈ lw_privs_1, lw_okq q := List.forall_mem_cons.mpr ⟨lw_p0, List.forall_mem_cons.mpr ⟨lw_p1, List.forall_mem_cons.mpr ⟨lw_p2, List.forall_mem_cons.mpr ⟨lw_p3, List.forall_mem_cons.mpr ⟨lw_p4, List.forall_mem_cons.mpr ⟨lw_p5, List.forall_mem_cons.mpr ⟨lw_p6, List.forall_mem_cons.mpr ⟨lw_p7, List.forall_mem_cons.mpr ⟨lw_p8, List.forall_mem_cons.mpr ⟨lw_p9, List.forall_mem_cons.mpr ⟨lw_p10, List.forall_mem_cons.mpr ⟨lw_p11, List.forall_mem_cons.mpr ⟨lw_p12, List.forall_mem_cons.mpr ⟨lw_p13, List.forall_mem_cons.mpr ⟨lw_p14, List.forall_mem_cons.mpr ⟨lw_p15, fun _ h => absurd h List.not_mem_nil⟩⟩⟩⟩⟩⟩⟩⟩⟩⟩⟩⟩⟩⟩⟩⟩
theorem lw_p16 : lw_okq (⟨"ClickBench$Reader", "goDown", "()Z"⟩, 6) := ⟨⟨by decide +kernel, by decide +kernel⟩, List.mem_of_getElem? (i := 41) (by decide +kernel), List.mem_of_getElem? (i := 443) (by decide +kernel), List.mem_of_getElem? (i := 444) (by decide +kernel)⟩
theorem lw_p17 : lw_okq (⟨"ClickBench$Reader", "goUp", "()Z"⟩, 6) := ⟨⟨by decide +kernel, by decide +kernel⟩, List.mem_of_getElem? (i := 41) (by decide +kernel), List.mem_of_getElem? (i := 447) (by decide +kernel), List.mem_of_getElem? (i := 448) (by decide +kernel)⟩
theorem lw_p18 : lw_okq (⟨"ClickBench", "partOn", "(II)LClickBench$Part;"⟩, 13) := ⟨⟨by decide +kernel, by decide +kernel⟩, List.mem_of_getElem? (i := 17) (by decide +kernel), List.mem_of_getElem? (i := 459) (by decide +kernel), List.mem_of_getElem? (i := 460) (by decide +kernel)⟩
theorem lw_p19 : lw_okq (⟨"ClickBench", "pageOn", "(I)LClickBench$Page;"⟩, 13) := ⟨⟨by decide +kernel, by decide +kernel⟩, List.mem_of_getElem? (i := 17) (by decide +kernel), List.mem_of_getElem? (i := 463) (by decide +kernel), List.mem_of_getElem? (i := 464) (by decide +kernel)⟩
theorem lw_p20 : lw_okq (⟨"ClickBench$Part", "textByte", "(I)I"⟩, 17) := ⟨⟨by decide +kernel, by decide +kernel⟩, List.mem_of_getElem? (i := 322) (by decide +kernel), List.mem_of_getElem? (i := 478) (by decide +kernel), List.mem_of_getElem? (i := 479) (by decide +kernel)⟩
theorem lw_p21 : lw_okq (⟨"ClickBench", "likenessFor", "(LClickBench$Part;LClickBench$Page;)LClickBench$Likeness;"⟩, 13) := ⟨⟨by decide +kernel, by decide +kernel⟩, List.mem_of_getElem? (i := 17) (by decide +kernel), List.mem_of_getElem? (i := 486) (by decide +kernel), List.mem_of_getElem? (i := 487) (by decide +kernel)⟩
theorem lw_p22 : lw_okq (⟨"ClickBench", "oldestTable", "()LClickBench$Likeness;"⟩, 13) := ⟨⟨by decide +kernel, by decide +kernel⟩, List.mem_of_getElem? (i := 17) (by decide +kernel), List.mem_of_getElem? (i := 490) (by decide +kernel), List.mem_of_getElem? (i := 491) (by decide +kernel)⟩
theorem lw_p23 : lw_okq (⟨"ClickBench$Likeness", "begin", "(LClickBench$Page;LClickBench$Page;)V"⟩, 5) := ⟨⟨by decide +kernel, by decide +kernel⟩, List.mem_of_getElem? (i := 493) (by decide +kernel), List.mem_of_getElem? (i := 517) (by decide +kernel), List.mem_of_getElem? (i := 518) (by decide +kernel)⟩
theorem lw_p24 : lw_okq (⟨"ClickBench$Likeness", "measure", "(LClickBench$Part;)V"⟩, 5) := ⟨⟨by decide +kernel, by decide +kernel⟩, List.mem_of_getElem? (i := 493) (by decide +kernel), List.mem_of_getElem? (i := 521) (by decide +kernel), List.mem_of_getElem? (i := 522) (by decide +kernel)⟩
theorem lw_p25 : lw_okq (⟨"ClickBench$Likeness", "measureKey", "(LClickBench$Part;)V"⟩, 5) := ⟨⟨by decide +kernel, by decide +kernel⟩, List.mem_of_getElem? (i := 493) (by decide +kernel), List.mem_of_getElem? (i := 526) (by decide +kernel), List.mem_of_getElem? (i := 527) (by decide +kernel)⟩
theorem lw_p26 : lw_okq (⟨"ClickBench$Likeness", "measureForests", "(LClickBench$Part;LClickBench$Part;)V"⟩, 5) := ⟨⟨by decide +kernel, by decide +kernel⟩, List.mem_of_getElem? (i := 493) (by decide +kernel), List.mem_of_getElem? (i := 530) (by decide +kernel), List.mem_of_getElem? (i := 531) (by decide +kernel)⟩
theorem lw_p27 : lw_okq (⟨"ClickBench$Part", "hasTextOf", "(LClickBench$Part;)Z"⟩, 17) := ⟨⟨by decide +kernel, by decide +kernel⟩, List.mem_of_getElem? (i := 322) (by decide +kernel), List.mem_of_getElem? (i := 540) (by decide +kernel), List.mem_of_getElem? (i := 541) (by decide +kernel)⟩
theorem lw_p28 : lw_okq (⟨"ClickBench$Likeness", "farOf", "(LClickBench$Part;LClickBench$Part;)I"⟩, 5) := ⟨⟨by decide +kernel, by decide +kernel⟩, List.mem_of_getElem? (i := 493) (by decide +kernel), List.mem_of_getElem? (i := 544) (by decide +kernel), List.mem_of_getElem? (i := 545) (by decide +kernel)⟩
theorem lw_p29 : lw_okq (⟨"ClickBench$Likeness", "costOf", "(LClickBench$Part;LClickBench$Part;)I"⟩, 5) := ⟨⟨by decide +kernel, by decide +kernel⟩, List.mem_of_getElem? (i := 493) (by decide +kernel), List.mem_of_getElem? (i := 552) (by decide +kernel), List.mem_of_getElem? (i := 553) (by decide +kernel)⟩
theorem lw_p30 : lw_okq (⟨"ClickBench$Finding", "look", "(LClickBench$Part;LClickBench$Page;LClickBench$Likeness;I)I"⟩, 4) := ⟨⟨by decide +kernel, by decide +kernel⟩, List.mem_of_getElem? (i := 109) (by decide +kernel), List.mem_of_getElem? (i := 568) (by decide +kernel), List.mem_of_getElem? (i := 569) (by decide +kernel)⟩
theorem lw_p31 : lw_okq (⟨"ClickBench$Page", "countFitting", "(LClickBench$Part;I)I"⟩, 2) := ⟨⟨by decide +kernel, by decide +kernel⟩, List.mem_of_getElem? (i := 250) (by decide +kernel), List.mem_of_getElem? (i := 585) (by decide +kernel), List.mem_of_getElem? (i := 586) (by decide +kernel)⟩
def lw_privs_2 : List (MethodName × Nat) := [(⟨"ClickBench$Reader", "goDown", "()Z"⟩, 6), (⟨"ClickBench$Reader", "goUp", "()Z"⟩, 6), (⟨"ClickBench", "partOn", "(II)LClickBench$Part;"⟩, 13), (⟨"ClickBench", "pageOn", "(I)LClickBench$Page;"⟩, 13), (⟨"ClickBench$Part", "textByte", "(I)I"⟩, 17), (⟨"ClickBench", "likenessFor", "(LClickBench$Part;LClickBench$Page;)LClickBench$Likeness;"⟩, 13), (⟨"ClickBench", "oldestTable", "()LClickBench$Likeness;"⟩, 13), (⟨"ClickBench$Likeness", "begin", "(LClickBench$Page;LClickBench$Page;)V"⟩, 5), (⟨"ClickBench$Likeness", "measure", "(LClickBench$Part;)V"⟩, 5), (⟨"ClickBench$Likeness", "measureKey", "(LClickBench$Part;)V"⟩, 5), (⟨"ClickBench$Likeness", "measureForests", "(LClickBench$Part;LClickBench$Part;)V"⟩, 5), (⟨"ClickBench$Part", "hasTextOf", "(LClickBench$Part;)Z"⟩, 17), (⟨"ClickBench$Likeness", "farOf", "(LClickBench$Part;LClickBench$Part;)I"⟩, 5), (⟨"ClickBench$Likeness", "costOf", "(LClickBench$Part;LClickBench$Part;)I"⟩, 5), (⟨"ClickBench$Finding", "look", "(LClickBench$Part;LClickBench$Page;LClickBench$Likeness;I)I"⟩, 4), (⟨"ClickBench$Page", "countFitting", "(LClickBench$Part;I)I"⟩, 2)]
theorem lw_r2 : ∀ q ∈ lw_privs_2, lw_okq q := List.forall_mem_cons.mpr ⟨lw_p16, List.forall_mem_cons.mpr ⟨lw_p17, List.forall_mem_cons.mpr ⟨lw_p18, List.forall_mem_cons.mpr ⟨lw_p19, List.forall_mem_cons.mpr ⟨lw_p20, List.forall_mem_cons.mpr ⟨lw_p21, List.forall_mem_cons.mpr ⟨lw_p22, List.forall_mem_cons.mpr ⟨lw_p23, List.forall_mem_cons.mpr ⟨lw_p24, List.forall_mem_cons.mpr ⟨lw_p25, List.forall_mem_cons.mpr ⟨lw_p26, List.forall_mem_cons.mpr ⟨lw_p27, List.forall_mem_cons.mpr ⟨lw_p28, List.forall_mem_cons.mpr ⟨lw_p29, List.forall_mem_cons.mpr ⟨lw_p30, List.forall_mem_cons.mpr ⟨lw_p31, fun _ h => absurd h List.not_mem_nil⟩⟩⟩⟩⟩⟩⟩⟩⟩⟩⟩⟩⟩⟩⟩⟩
theorem lw_p32 : lw_okq (⟨"ClickBench$Part", "fitsMarksOf", "(LClickBench$Part;I)Z"⟩, 17) := ⟨⟨by decide +kernel, by decide +kernel⟩, List.mem_of_getElem? (i := 322) (by decide +kernel), List.mem_of_getElem? (i := 590) (by decide +kernel), List.mem_of_getElem? (i := 591) (by decide +kernel)⟩
theorem lw_p33 : lw_okq (⟨"ClickBench$Part", "marksSharedWith", "(LClickBench$Part;)I"⟩, 17) := ⟨⟨by decide +kernel, by decide +kernel⟩, List.mem_of_getElem? (i := 322) (by decide +kernel), List.mem_of_getElem? (i := 594) (by decide +kernel), List.mem_of_getElem? (i := 595) (by decide +kernel)⟩
theorem lw_p34 : lw_okq (⟨"ClickBench$Part", "hasPathOf", "(LClickBench$Part;II)Z"⟩, 17) := ⟨⟨by decide +kernel, by decide +kernel⟩, List.mem_of_getElem? (i := 322) (by decide +kernel), List.mem_of_getElem? (i := 608) (by decide +kernel), List.mem_of_getElem? (i := 609) (by decide +kernel)⟩
theorem lw_p35 : lw_okq (⟨"ClickBench$Page", "fitting", "(LClickBench$Part;II)LClickBench$Part;"⟩, 2) := ⟨⟨by decide +kernel, by decide +kernel⟩, List.mem_of_getElem? (i := 250) (by decide +kernel), List.mem_of_getElem? (i := 616) (by decide +kernel), List.mem_of_getElem? (i := 617) (by decide +kernel)⟩
theorem lw_p36 : lw_okq (⟨"ClickBench$Samples", "add", "(LClickBench$Part;)V"⟩, 4) := ⟨⟨by decide +kernel, by decide +kernel⟩, List.mem_of_getElem? (i := 133) (by decide +kernel), List.mem_of_getElem? (i := 624) (by decide +kernel), List.mem_of_getElem? (i := 625) (by decide +kernel)⟩
theorem lw_p37 : lw_okq (⟨"ClickBench$Samples", "first", "()LClickBench$Part;"⟩, 4) := ⟨⟨by decide +kernel, by decide +kernel⟩, List.mem_of_getElem? (i := 133) (by decide +kernel), List.mem_of_getElem? (i := 628) (by decide +kernel), List.mem_of_getElem? (i := 629) (by decide +kernel)⟩
theorem lw_p38 : lw_okq (⟨"ClickBench$Samples", "noteShared", "(I)V"⟩, 4) := ⟨⟨by decide +kernel, by decide +kernel⟩, List.mem_of_getElem? (i := 133) (by decide +kernel), List.mem_of_getElem? (i := 634) (by decide +kernel), List.mem_of_getElem? (i := 635) (by decide +kernel)⟩
theorem lw_p39 : lw_okq (⟨"ClickBench$Samples", "dropAll", "()V"⟩, 4) := ⟨⟨by decide +kernel, by decide +kernel⟩, List.mem_of_getElem? (i := 133) (by decide +kernel), List.mem_of_getElem? (i := 642) (by decide +kernel), List.mem_of_getElem? (i := 643) (by decide +kernel)⟩
theorem lw_p40 : lw_okq (⟨"ClickBench$Samples", "leastMarks", "()I"⟩, 4) := ⟨⟨by decide +kernel, by decide +kernel⟩, List.mem_of_getElem? (i := 133) (by decide +kernel), List.mem_of_getElem? (i := 654) (by decide +kernel), List.mem_of_getElem? (i := 655) (by decide +kernel)⟩
theorem lw_p41 : lw_okq (⟨"ClickBench", "loopOn", "(III)LClickBench$Loop;"⟩, 13) := ⟨⟨by decide +kernel, by decide +kernel⟩, List.mem_of_getElem? (i := 17) (by decide +kernel), List.mem_of_getElem? (i := 673) (by decide +kernel), List.mem_of_getElem? (i := 674) (by decide +kernel)⟩
theorem lw_p42 : lw_okq (⟨"ClickBench$Loop", "countRows", "(LClickBench$Page;)I"⟩, 4) := ⟨⟨by decide +kernel, by decide +kernel⟩, List.mem_of_getElem? (i := 681) (by decide +kernel), List.mem_of_getElem? (i := 704) (by decide +kernel), List.mem_of_getElem? (i := 705) (by decide +kernel)⟩
theorem lw_p43 : lw_okq (⟨"ClickBench$Loop", "stepOn", "(LClickBench$Page;I)LClickBench$Part;"⟩, 4) := ⟨⟨by decide +kernel, by decide +kernel⟩, List.mem_of_getElem? (i := 681) (by decide +kernel), List.mem_of_getElem? (i := 708) (by decide +kernel), List.mem_of_getElem? (i := 709) (by decide +kernel)⟩
theorem lw_p44 : lw_okq (⟨"ClickBench$Loop", "rowOn", "(LClickBench$Page;I)LClickBench$Part;"⟩, 4) := ⟨⟨by decide +kernel, by decide +kernel⟩, List.mem_of_getElem? (i := 681) (by decide +kernel), List.mem_of_getElem? (i := 718) (by decide +kernel), List.mem_of_getElem? (i := 719) (by decide +kernel)⟩
theorem lw_p45 : lw_okq (⟨"ClickBench", "tell", "(ZLClickBench$Part;LClickBench$Loop;)I"⟩, 13) := ⟨⟨by decide +kernel, by decide +kernel⟩, List.mem_of_getElem? (i := 17) (by decide +kernel), List.mem_of_getElem? (i := 726) (by decide +kernel), List.mem_of_getElem? (i := 727) (by decide +kernel)⟩
theorem lw_p46 : lw_okq (⟨"ClickBench$Run", "begin", "()V"⟩, 6) := ⟨⟨by decide +kernel, by decide +kernel⟩, List.mem_of_getElem? (i := 159) (by decide +kernel), List.mem_of_getElem? (i := 760) (by decide +kernel), List.mem_of_getElem? (i := 761) (by decide +kernel)⟩
theorem lw_p47 : lw_okq (⟨"ClickBench", "perform", "(LClickBench$Act;LClickBench$Page;)Z"⟩, 13) := ⟨⟨by decide +kernel, by decide +kernel⟩, List.mem_of_getElem? (i := 17) (by decide +kernel), List.mem_of_getElem? (i := 764) (by decide +kernel), List.mem_of_getElem? (i := 765) (by decide +kernel)⟩
def lw_privs_3 : List (MethodName × Nat) := [(⟨"ClickBench$Part", "fitsMarksOf", "(LClickBench$Part;I)Z"⟩, 17), (⟨"ClickBench$Part", "marksSharedWith", "(LClickBench$Part;)I"⟩, 17), (⟨"ClickBench$Part", "hasPathOf", "(LClickBench$Part;II)Z"⟩, 17), (⟨"ClickBench$Page", "fitting", "(LClickBench$Part;II)LClickBench$Part;"⟩, 2), (⟨"ClickBench$Samples", "add", "(LClickBench$Part;)V"⟩, 4), (⟨"ClickBench$Samples", "first", "()LClickBench$Part;"⟩, 4), (⟨"ClickBench$Samples", "noteShared", "(I)V"⟩, 4), (⟨"ClickBench$Samples", "dropAll", "()V"⟩, 4), (⟨"ClickBench$Samples", "leastMarks", "()I"⟩, 4), (⟨"ClickBench", "loopOn", "(III)LClickBench$Loop;"⟩, 13), (⟨"ClickBench$Loop", "countRows", "(LClickBench$Page;)I"⟩, 4), (⟨"ClickBench$Loop", "stepOn", "(LClickBench$Page;I)LClickBench$Part;"⟩, 4), (⟨"ClickBench$Loop", "rowOn", "(LClickBench$Page;I)LClickBench$Part;"⟩, 4), (⟨"ClickBench", "tell", "(ZLClickBench$Part;LClickBench$Loop;)I"⟩, 13), (⟨"ClickBench$Run", "begin", "()V"⟩, 6), (⟨"ClickBench", "perform", "(LClickBench$Act;LClickBench$Page;)Z"⟩, 13)]
theorem lw_r3 : ∀ q ∈ lw_privs_3, lw_okq q := List.forall_mem_cons.mpr ⟨lw_p32, List.forall_mem_cons.mpr ⟨lw_p33, List.forall_mem_cons.mpr ⟨lw_p34, List.forall_mem_cons.mpr ⟨lw_p35, List.forall_mem_cons.mpr ⟨lw_p36, List.forall_mem_cons.mpr ⟨lw_p37, List.forall_mem_cons.mpr ⟨lw_p38, List.forall_mem_cons.mpr ⟨lw_p39, List.forall_mem_cons.mpr ⟨lw_p40, List.forall_mem_cons.mpr ⟨lw_p41, List.forall_mem_cons.mpr ⟨lw_p42, List.forall_mem_cons.mpr ⟨lw_p43, List.forall_mem_cons.mpr ⟨lw_p44, List.forall_mem_cons.mpr ⟨lw_p45, List.forall_mem_cons.mpr ⟨lw_p46, List.forall_mem_cons.mpr ⟨lw_p47, fun _ h => absurd h List.not_mem_nil⟩⟩⟩⟩⟩⟩⟩⟩⟩⟩⟩⟩⟩⟩⟩⟩
theorem lw_p48 : lw_okq (⟨"ClickBench", "performRows", "(LClickBench$Loop;ZLClickBench$Page;)Z"⟩, 13) := ⟨⟨by decide +kernel, by decide +kernel⟩, List.mem_of_getElem? (i := 17) (by decide +kernel), List.mem_of_getElem? (i := 768) (by decide +kernel), List.mem_of_getElem? (i := 769) (by decide +kernel)⟩
theorem lw_p49 : lw_okq (⟨"ClickBench$Run", "take", "(LClickBench$Part;Z)Z"⟩, 6) := ⟨⟨by decide +kernel, by decide +kernel⟩, List.mem_of_getElem? (i := 159) (by decide +kernel), List.mem_of_getElem? (i := 773) (by decide +kernel), List.mem_of_getElem? (i := 774) (by decide +kernel)⟩
theorem lw_p50 : lw_okq (⟨"ClickBench$Run", "keep", "(LClickBench$Part;)V"⟩, 6) := ⟨⟨by decide +kernel, by decide +kernel⟩, List.mem_of_getElem? (i := 159) (by decide +kernel), List.mem_of_getElem? (i := 777) (by decide +kernel), List.mem_of_getElem? (i := 778) (by decide +kernel)⟩
theorem lw_p51 : lw_okq (⟨"ClickBench$Part", "isHarmful", "()Z"⟩, 17) := ⟨⟨by decide +kernel, by decide +kernel⟩, List.mem_of_getElem? (i := 322) (by decide +kernel), List.mem_of_getElem? (i := 781) (by decide +kernel), List.mem_of_getElem? (i := 782) (by decide +kernel)⟩
theorem lw_p52 : lw_okq (⟨"ClickBench$Run", "stop", "(ILClickBench$Part;)Z"⟩, 6) := ⟨⟨by decide +kernel, by decide +kernel⟩, List.mem_of_getElem? (i := 159) (by decide +kernel), List.mem_of_getElem? (i := 785) (by decide +kernel), List.mem_of_getElem? (i := 786) (by decide +kernel)⟩
theorem lw_p53 : lw_okq (⟨"ClickBench$Run", "keptAt", "(I)LClickBench$Part;"⟩, 6) := ⟨⟨by decide +kernel, by decide +kernel⟩, List.mem_of_getElem? (i := 159) (by decide +kernel), List.mem_of_getElem? (i := 798) (by decide +kernel), List.mem_of_getElem? (i := 799) (by decide +kernel)⟩
theorem lw_p54 : lw_okq (⟨"ClickBenchModel", "readPage", "()V"⟩, 57) := ⟨⟨by decide +kernel, by decide +kernel⟩, List.mem_of_getElem? (i := 806) (by decide +kernel), List.mem_of_getElem? (i := 992) (by decide +kernel), List.mem_of_getElem? (i := 993) (by decide +kernel)⟩
theorem lw_p55 : lw_okq (⟨"ClickBenchModel", "next", "()V"⟩, 57) := ⟨⟨by decide +kernel, by decide +kernel⟩, List.mem_of_getElem? (i := 806) (by decide +kernel), List.mem_of_getElem? (i := 996) (by decide +kernel), List.mem_of_getElem? (i := 997) (by decide +kernel)⟩
theorem lw_p56 : lw_okq (⟨"ClickBenchModel", "sign", "(I)I"⟩, 57) := ⟨⟨by decide +kernel, by decide +kernel⟩, List.mem_of_getElem? (i := 806) (by decide +kernel), List.mem_of_getElem? (i := 1000) (by decide +kernel), List.mem_of_getElem? (i := 1001) (by decide +kernel)⟩
theorem lw_p57 : lw_okq (⟨"ClickBenchModel", "readPart", "()V"⟩, 57) := ⟨⟨by decide +kernel, by decide +kernel⟩, List.mem_of_getElem? (i := 806) (by decide +kernel), List.mem_of_getElem? (i := 1007) (by decide +kernel), List.mem_of_getElem? (i := 1008) (by decide +kernel)⟩
theorem lw_p58 : lw_okq (⟨"ClickBenchModel", "wrong", "()V"⟩, 57) := ⟨⟨by decide +kernel, by decide +kernel⟩, List.mem_of_getElem? (i := 806) (by decide +kernel), List.mem_of_getElem? (i := 1011) (by decide +kernel), List.mem_of_getElem? (i := 1012) (by decide +kernel)⟩
theorem lw_p59 : lw_okq (⟨"ClickBenchModel", "fails", "(II)V"⟩, 57) := ⟨⟨by decide +kernel, by decide +kernel⟩, List.mem_of_getElem? (i := 806) (by decide +kernel), List.mem_of_getElem? (i := 1015) (by decide +kernel), List.mem_of_getElem? (i := 1016) (by decide +kernel)⟩
theorem lw_p60 : lw_okq (⟨"ClickBenchModel", "isGood", "()Z"⟩, 57) := ⟨⟨by decide +kernel, by decide +kernel⟩, List.mem_of_getElem? (i := 806) (by decide +kernel), List.mem_of_getElem? (i := 1019) (by decide +kernel), List.mem_of_getElem? (i := 1020) (by decide +kernel)⟩
theorem lw_p61 : lw_okq (⟨"ClickBenchModel", "is", "(I)Z"⟩, 57) := ⟨⟨by decide +kernel, by decide +kernel⟩, List.mem_of_getElem? (i := 806) (by decide +kernel), List.mem_of_getElem? (i := 1026) (by decide +kernel), List.mem_of_getElem? (i := 1027) (by decide +kernel)⟩
theorem lw_p62 : lw_okq (⟨"ClickBenchModel", "measure", "()V"⟩, 57) := ⟨⟨by decide +kernel, by decide +kernel⟩, List.mem_of_getElem? (i := 806) (by decide +kernel), List.mem_of_getElem? (i := 1030) (by decide +kernel), List.mem_of_getElem? (i := 1031) (by decide +kernel)⟩
theorem lw_p63 : lw_okq (⟨"ClickBenchModel", "isUnder", "(III)Z"⟩, 57) := ⟨⟨by decide +kernel, by decide +kernel⟩, List.mem_of_getElem? (i := 806) (by decide +kernel), List.mem_of_getElem? (i := 1034) (by decide +kernel), List.mem_of_getElem? (i := 1035) (by decide +kernel)⟩
def lw_privs_4 : List (MethodName × Nat) := [(⟨"ClickBench", "performRows", "(LClickBench$Loop;ZLClickBench$Page;)Z"⟩, 13), (⟨"ClickBench$Run", "take", "(LClickBench$Part;Z)Z"⟩, 6), (⟨"ClickBench$Run", "keep", "(LClickBench$Part;)V"⟩, 6), (⟨"ClickBench$Part", "isHarmful", "()Z"⟩, 17), (⟨"ClickBench$Run", "stop", "(ILClickBench$Part;)Z"⟩, 6), (⟨"ClickBench$Run", "keptAt", "(I)LClickBench$Part;"⟩, 6), (⟨"ClickBenchModel", "readPage", "()V"⟩, 57), (⟨"ClickBenchModel", "next", "()V"⟩, 57), (⟨"ClickBenchModel", "sign", "(I)I"⟩, 57), (⟨"ClickBenchModel", "readPart", "()V"⟩, 57), (⟨"ClickBenchModel", "wrong", "()V"⟩, 57), (⟨"ClickBenchModel", "fails", "(II)V"⟩, 57), (⟨"ClickBenchModel", "isGood", "()Z"⟩, 57), (⟨"ClickBenchModel", "is", "(I)Z"⟩, 57), (⟨"ClickBenchModel", "measure", "()V"⟩, 57), (⟨"ClickBenchModel", "isUnder", "(III)Z"⟩, 57)]
theorem lw_r4 : ∀ q ∈ lw_privs_4, lw_okq q := List.forall_mem_cons.mpr ⟨lw_p48, List.forall_mem_cons.mpr ⟨lw_p49, List.forall_mem_cons.mpr ⟨lw_p50, List.forall_mem_cons.mpr ⟨lw_p51, List.forall_mem_cons.mpr ⟨lw_p52, List.forall_mem_cons.mpr ⟨lw_p53, List.forall_mem_cons.mpr ⟨lw_p54, List.forall_mem_cons.mpr ⟨lw_p55, List.forall_mem_cons.mpr ⟨lw_p56, List.forall_mem_cons.mpr ⟨lw_p57, List.forall_mem_cons.mpr ⟨lw_p58, List.forall_mem_cons.mpr ⟨lw_p59, List.forall_mem_cons.mpr ⟨lw_p60, List.forall_mem_cons.mpr ⟨lw_p61, List.forall_mem_cons.mpr ⟨lw_p62, List.forall_mem_cons.mpr ⟨lw_p63, fun _ h => absurd h List.not_mem_nil⟩⟩⟩⟩⟩⟩⟩⟩⟩⟩⟩⟩⟩⟩⟩⟩
theorem lw_p64 : lw_okq (⟨"ClickBenchModel", "copyPage", "(II)V"⟩, 57) := ⟨⟨by decide +kernel, by decide +kernel⟩, List.mem_of_getElem? (i := 806) (by decide +kernel), List.mem_of_getElem? (i := 1038) (by decide +kernel), List.mem_of_getElem? (i := 1039) (by decide +kernel)⟩
theorem lw_p65 : lw_okq (⟨"ClickBenchModel", "isPart", "(II)Z"⟩, 57) := ⟨⟨by decide +kernel, by decide +kernel⟩, List.mem_of_getElem? (i := 806) (by decide +kernel), List.mem_of_getElem? (i := 1050) (by decide +kernel), List.mem_of_getElem? (i := 1051) (by decide +kernel)⟩
theorem lw_p66 : lw_okq (⟨"ClickBenchModel", "left", "(II)I"⟩, 57) := ⟨⟨by decide +kernel, by decide +kernel⟩, List.mem_of_getElem? (i := 806) (by decide +kernel), List.mem_of_getElem? (i := 1054) (by decide +kernel), List.mem_of_getElem? (i := 1055) (by decide +kernel)⟩
theorem lw_p67 : lw_okq (⟨"ClickBenchModel", "right", "(II)I"⟩, 57) := ⟨⟨by decide +kernel, by decide +kernel⟩, List.mem_of_getElem? (i := 806) (by decide +kernel), List.mem_of_getElem? (i := 1058) (by decide +kernel), List.mem_of_getElem? (i := 1059) (by decide +kernel)⟩
theorem lw_p68 : lw_okq (⟨"ClickBenchModel", "label", "(II)I"⟩, 57) := ⟨⟨by decide +kernel, by decide +kernel⟩, List.mem_of_getElem? (i := 806) (by decide +kernel), List.mem_of_getElem? (i := 1062) (by decide +kernel), List.mem_of_getElem? (i := 1063) (by decide +kernel)⟩
theorem lw_p69 : lw_okq (⟨"ClickBenchModel", "measureAll", "(II)V"⟩, 57) := ⟨⟨by decide +kernel, by decide +kernel⟩, List.mem_of_getElem? (i := 806) (by decide +kernel), List.mem_of_getElem? (i := 1079) (by decide +kernel), List.mem_of_getElem? (i := 1080) (by decide +kernel)⟩
theorem lw_p70 : lw_okq (⟨"ClickBenchModel", "measureOne", "(IIII)I"⟩, 57) := ⟨⟨by decide +kernel, by decide +kernel⟩, List.mem_of_getElem? (i := 806) (by decide +kernel), List.mem_of_getElem? (i := 1083) (by decide +kernel), List.mem_of_getElem? (i := 1084) (by decide +kernel)⟩
theorem lw_p71 : lw_okq (⟨"ClickBenchModel", "change", "(II)I"⟩, 57) := ⟨⟨by decide +kernel, by decide +kernel⟩, List.mem_of_getElem? (i := 806) (by decide +kernel), List.mem_of_getElem? (i := 1087) (by decide +kernel), List.mem_of_getElem? (i := 1088) (by decide +kernel)⟩
theorem lw_p72 : lw_okq (⟨"ClickBenchModel", "areSameWords", "(II)Z"⟩, 57) := ⟨⟨by decide +kernel, by decide +kernel⟩, List.mem_of_getElem? (i := 806) (by decide +kernel), List.mem_of_getElem? (i := 1091) (by decide +kernel), List.mem_of_getElem? (i := 1092) (by decide +kernel)⟩
theorem lw_p73 : lw_okq (⟨"ClickBenchModel", "costOf", "(IIII)I"⟩, 57) := ⟨⟨by decide +kernel, by decide +kernel⟩, List.mem_of_getElem? (i := 806) (by decide +kernel), List.mem_of_getElem? (i := 1099) (by decide +kernel), List.mem_of_getElem? (i := 1100) (by decide +kernel)⟩
theorem lw_p74 : lw_okq (⟨"ClickBenchModel", "beside", "(IIII)I"⟩, 57) := ⟨⟨by decide +kernel, by decide +kernel⟩, List.mem_of_getElem? (i := 806) (by decide +kernel), List.mem_of_getElem? (i := 1103) (by decide +kernel), List.mem_of_getElem? (i := 1104) (by decide +kernel)⟩
theorem lw_p75 : lw_okq (⟨"ClickBenchModel", "hasPage", "(I)Z"⟩, 57) := ⟨⟨by decide +kernel, by decide +kernel⟩, List.mem_of_getElem? (i := 806) (by decide +kernel), List.mem_of_getElem? (i := 1115) (by decide +kernel), List.mem_of_getElem? (i := 1116) (by decide +kernel)⟩
theorem lw_p76 : lw_okq (⟨"ClickBenchModel", "seek", "(III)I"⟩, 57) := ⟨⟨by decide +kernel, by decide +kernel⟩, List.mem_of_getElem? (i := 806) (by decide +kernel), List.mem_of_getElem? (i := 1119) (by decide +kernel), List.mem_of_getElem? (i := 1120) (by decide +kernel)⟩
theorem lw_p77 : lw_okq (⟨"ClickBenchModel", "alike", "(IIII)I"⟩, 57) := ⟨⟨by decide +kernel, by decide +kernel⟩, List.mem_of_getElem? (i := 806) (by decide +kernel), List.mem_of_getElem? (i := 1131) (by decide +kernel), List.mem_of_getElem? (i := 1132) (by decide +kernel)⟩
theorem lw_p78 : lw_okq (⟨"ClickBenchModel", "kindAbove", "(II)J"⟩, 57) := ⟨⟨by decide +kernel, by decide +kernel⟩, List.mem_of_getElem? (i := 806) (by decide +kernel), List.mem_of_getElem? (i := 1135) (by decide +kernel), List.mem_of_getElem? (i := 1136) (by decide +kernel)⟩
theorem lw_p79 : lw_okq (⟨"ClickBenchModel", "titleAbove", "(II)J"⟩, 57) := ⟨⟨by decide +kernel, by decide +kernel⟩, List.mem_of_getElem? (i := 806) (by decide +kernel), List.mem_of_getElem? (i := 1139) (by decide +kernel), List.mem_of_getElem? (i := 1140) (by decide +kernel)⟩
def lw_privs_5 : List (MethodName × Nat) := [(⟨"ClickBenchModel", "copyPage", "(II)V"⟩, 57), (⟨"ClickBenchModel", "isPart", "(II)Z"⟩, 57), (⟨"ClickBenchModel", "left", "(II)I"⟩, 57), (⟨"ClickBenchModel", "right", "(II)I"⟩, 57), (⟨"ClickBenchModel", "label", "(II)I"⟩, 57), (⟨"ClickBenchModel", "measureAll", "(II)V"⟩, 57), (⟨"ClickBenchModel", "measureOne", "(IIII)I"⟩, 57), (⟨"ClickBenchModel", "change", "(II)I"⟩, 57), (⟨"ClickBenchModel", "areSameWords", "(II)Z"⟩, 57), (⟨"ClickBenchModel", "costOf", "(IIII)I"⟩, 57), (⟨"ClickBenchModel", "beside", "(IIII)I"⟩, 57), (⟨"ClickBenchModel", "hasPage", "(I)Z"⟩, 57), (⟨"ClickBenchModel", "seek", "(III)I"⟩, 57), (⟨"ClickBenchModel", "alike", "(IIII)I"⟩, 57), (⟨"ClickBenchModel", "kindAbove", "(II)J"⟩, 57), (⟨"ClickBenchModel", "titleAbove", "(II)J"⟩, 57)]
theorem lw_r5 : ∀ q ∈ lw_privs_5, lw_okq q := List.forall_mem_cons.mpr ⟨lw_p64, List.forall_mem_cons.mpr ⟨lw_p65, List.forall_mem_cons.mpr ⟨lw_p66, List.forall_mem_cons.mpr ⟨lw_p67, List.forall_mem_cons.mpr ⟨lw_p68, List.forall_mem_cons.mpr ⟨lw_p69, List.forall_mem_cons.mpr ⟨lw_p70, List.forall_mem_cons.mpr ⟨lw_p71, List.forall_mem_cons.mpr ⟨lw_p72, List.forall_mem_cons.mpr ⟨lw_p73, List.forall_mem_cons.mpr ⟨lw_p74, List.forall_mem_cons.mpr ⟨lw_p75, List.forall_mem_cons.mpr ⟨lw_p76, List.forall_mem_cons.mpr ⟨lw_p77, List.forall_mem_cons.mpr ⟨lw_p78, List.forall_mem_cons.mpr ⟨lw_p79, fun _ h => absurd h List.not_mem_nil⟩⟩⟩⟩⟩⟩⟩⟩⟩⟩⟩⟩⟩⟩⟩⟩
theorem lw_p80 : lw_okq (⟨"ClickBenchModel", "areLabels", "(IIII)Z"⟩, 57) := ⟨⟨by decide +kernel, by decide +kernel⟩, List.mem_of_getElem? (i := 806) (by decide +kernel), List.mem_of_getElem? (i := 1143) (by decide +kernel), List.mem_of_getElem? (i := 1144) (by decide +kernel)⟩
theorem lw_p81 : lw_okq (⟨"ClickBenchModel", "arePaths", "(IIII)Z"⟩, 57) := ⟨⟨by decide +kernel, by decide +kernel⟩, List.mem_of_getElem? (i := 806) (by decide +kernel), List.mem_of_getElem? (i := 1147) (by decide +kernel), List.mem_of_getElem? (i := 1148) (by decide +kernel)⟩
theorem lw_p82 : lw_okq (⟨"ClickBenchModel", "lookAtSamples", "()V"⟩, 57) := ⟨⟨by decide +kernel, by decide +kernel⟩, List.mem_of_getElem? (i := 806) (by decide +kernel), List.mem_of_getElem? (i := 1172) (by decide +kernel), List.mem_of_getElem? (i := 1173) (by decide +kernel)⟩
theorem lw_p83 : lw_okq (⟨"ClickBenchModel", "tells", "(I)Z"⟩, 57) := ⟨⟨by decide +kernel, by decide +kernel⟩, List.mem_of_getElem? (i := 806) (by decide +kernel), List.mem_of_getElem? (i := 1179) (by decide +kernel), List.mem_of_getElem? (i := 1180) (by decide +kernel)⟩
theorem lw_p84 : lw_okq (⟨"ClickBenchModel", "lay", "(IIII)Z"⟩, 57) := ⟨⟨by decide +kernel, by decide +kernel⟩, List.mem_of_getElem? (i := 806) (by decide +kernel), List.mem_of_getElem? (i := 1192) (by decide +kernel), List.mem_of_getElem? (i := 1193) (by decide +kernel)⟩
theorem lw_p85 : lw_okq (⟨"ClickBenchModel", "rowsOf", "(II)I"⟩, 57) := ⟨⟨by decide +kernel, by decide +kernel⟩, List.mem_of_getElem? (i := 806) (by decide +kernel), List.mem_of_getElem? (i := 1196) (by decide +kernel), List.mem_of_getElem? (i := 1197) (by decide +kernel)⟩
theorem lw_p86 : lw_okq (⟨"ClickBenchModel", "rowOf", "(III)I"⟩, 57) := ⟨⟨by decide +kernel, by decide +kernel⟩, List.mem_of_getElem? (i := 806) (by decide +kernel), List.mem_of_getElem? (i := 1200) (by decide +kernel), List.mem_of_getElem? (i := 1201) (by decide +kernel)⟩
theorem lw_p87 : lw_okq (⟨"ClickBenchModel", "child", "(IIJI)I"⟩, 57) := ⟨⟨by decide +kernel, by decide +kernel⟩, List.mem_of_getElem? (i := 806) (by decide +kernel), List.mem_of_getElem? (i := 1204) (by decide +kernel), List.mem_of_getElem? (i := 1205) (by decide +kernel)⟩
theorem lw_p88 : lw_okq (⟨"ClickBenchModel", "goes", "(II)Z"⟩, 57) := ⟨⟨by decide +kernel, by decide +kernel⟩, List.mem_of_getElem? (i := 806) (by decide +kernel), List.mem_of_getElem? (i := 1229) (by decide +kernel), List.mem_of_getElem? (i := 1230) (by decide +kernel)⟩
theorem lw_p89 : lw_okq (⟨"ClickBenchModel", "does", "(III)Z"⟩, 57) := ⟨⟨by decide +kernel, by decide +kernel⟩, List.mem_of_getElem? (i := 806) (by decide +kernel), List.mem_of_getElem? (i := 1233) (by decide +kernel), List.mem_of_getElem? (i := 1234) (by decide +kernel)⟩
theorem lw_p90 : lw_okq (⟨"ClickBenchModel", "isInHarm", "(II)Z"⟩, 57) := ⟨⟨by decide +kernel, by decide +kernel⟩, List.mem_of_getElem? (i := 806) (by decide +kernel), List.mem_of_getElem? (i := 1237) (by decide +kernel), List.mem_of_getElem? (i := 1238) (by decide +kernel)⟩
def lw_privs_6 : List (MethodName × Nat) := [(⟨"ClickBenchModel", "areLabels", "(IIII)Z"⟩, 57), (⟨"ClickBenchModel", "arePaths", "(IIII)Z"⟩, 57), (⟨"ClickBenchModel", "lookAtSamples", "()V"⟩, 57), (⟨"ClickBenchModel", "tells", "(I)Z"⟩, 57), (⟨"ClickBenchModel", "lay", "(IIII)Z"⟩, 57), (⟨"ClickBenchModel", "rowsOf", "(II)I"⟩, 57), (⟨"ClickBenchModel", "rowOf", "(III)I"⟩, 57), (⟨"ClickBenchModel", "child", "(IIJI)I"⟩, 57), (⟨"ClickBenchModel", "goes", "(II)Z"⟩, 57), (⟨"ClickBenchModel", "does", "(III)Z"⟩, 57), (⟨"ClickBenchModel", "isInHarm", "(II)Z"⟩, 57)]
theorem lw_r6 : ∀ q ∈ lw_privs_6, lw_okq q := List.forall_mem_cons.mpr ⟨lw_p80, List.forall_mem_cons.mpr ⟨lw_p81, List.forall_mem_cons.mpr ⟨lw_p82, List.forall_mem_cons.mpr ⟨lw_p83, List.forall_mem_cons.mpr ⟨lw_p84, List.forall_mem_cons.mpr ⟨lw_p85, List.forall_mem_cons.mpr ⟨lw_p86, List.forall_mem_cons.mpr ⟨lw_p87, List.forall_mem_cons.mpr ⟨lw_p88, List.forall_mem_cons.mpr ⟨lw_p89, List.forall_mem_cons.mpr ⟨lw_p90, fun _ h => absurd h List.not_mem_nil⟩⟩⟩⟩⟩⟩⟩⟩⟩⟩⟩
def lw_privs : List (MethodName × Nat) := lw_privs_1 ++ (lw_privs_2 ++ (lw_privs_3 ++ (lw_privs_4 ++ (lw_privs_5 ++ (lw_privs_6)))))
def lw_tbl : List Cond := k2_sels lw_privs ++ tables_1
theorem lw_privs_ok : ∀ q ∈ lw_privs, lw_okq q := by
  show ∀ q ∈ lw_privs_1 ++ (lw_privs_2 ++ (lw_privs_3 ++ (lw_privs_4 ++ (lw_privs_5 ++ (lw_privs_6))))), lw_okq q
  exact List.forall_mem_append.mpr ⟨lw_r1, List.forall_mem_append.mpr ⟨lw_r2, List.forall_mem_append.mpr ⟨lw_r3, List.forall_mem_append.mpr ⟨lw_r4, List.forall_mem_append.mpr ⟨lw_r5, lw_r6⟩⟩⟩⟩⟩
def RX0 : String := "ClickBench$Act"
def TX0 : u_T := fun k => match k with
  | 0 => ("ClickBench$Act", "click", "Z", true)
  | 1 => ("ClickBench$Act", "part", "LClickBench$Part;", true)
  | _ => ("ClickBench$Act", "rows", "LClickBench$Loop;", true)
def tyX0 : Nat → FieldType := fun k => match k with
  | 0 => .boolean
  | 1 => .object "ClickBench$Part"
  | _ => .object "ClickBench$Loop"
abbrev wsX00 : List Cond := u_ws RX0 TX0 3
theorem nmX0 : ∀ a, a < 3 → ∀ b, b < 3 → a ≠ b → (TX0 a).2.1 ≠ (TX0 b).2.1 := by decide +kernel
theorem tyX0_ok : ∀ k, k < 3 → parseFieldDescriptor (TX0 k).2.2.1 = some (tyX0 k) := by decide +kernel
abbrev cX0_init : ByteArray := prog_2_method_1_code
def yX0_init : MethodName := ⟨RX0, "<init>", "(ZLClickBench$Part;LClickBench$Loop;)V"⟩
def RX1 : String := "ClickBench$Finding"
def TX1 : u_T := fun k => match k with
  | 0 => ("ClickBench$Finding", "best", "LClickBench$Part;", false)
  | 1 => ("ClickBench$Finding", "next", "LClickBench$Part;", false)
  | 2 => ("ClickBench$Finding", "bestCost", "I", false)
  | _ => ("ClickBench$Finding", "nextCost", "I", false)
def tyX1 : Nat → FieldType := fun k => match k with
  | 0 => .object "ClickBench$Part"
  | 1 => .object "ClickBench$Part"
  | 2 => .int
  | _ => .int
abbrev wsX10 : List Cond := u_ws RX1 TX1 4
theorem nmX1 : ∀ a, a < 4 → ∀ b, b < 4 → a ≠ b → (TX1 a).2.1 ≠ (TX1 b).2.1 := by decide +kernel
theorem tyX1_ok : ∀ k, k < 4 → parseFieldDescriptor (TX1 k).2.2.1 = some (tyX1 k) := by decide +kernel
abbrev cX1_init : ByteArray := prog_3_method_1_code
def yX1_init : MethodName := ⟨RX1, "<init>", "()V"⟩
abbrev cX1_look : ByteArray := prog_3_method_2_code
def yX1_look : MethodName := ⟨RX1, "look", "(LClickBench$Part;LClickBench$Page;LClickBench$Likeness;I)I"⟩
def RX2 : String := "ClickBench$Likeness"
def TX2 : u_T := fun k => match k with
  | 0 => ("ClickBench$Likeness", "forests", "[I", true)
  | 1 => ("ClickBench$Likeness", "fars", "[I", true)
  | 2 => ("ClickBench$Likeness", "known", "[Z", true)
  | 3 => ("ClickBench$Likeness", "from", "LClickBench$Page;", false)
  | _ => ("ClickBench$Likeness", "to", "LClickBench$Page;", false)
def tyX2 : Nat → FieldType := fun k => match k with
  | 0 => .array .int
  | 1 => .array .int
  | 2 => .array .boolean
  | 3 => .object "ClickBench$Page"
  | _ => .object "ClickBench$Page"
abbrev wsX20 : List Cond := u_ws RX2 TX2 5
theorem nmX2 : ∀ a, a < 5 → ∀ b, b < 5 → a ≠ b → (TX2 a).2.1 ≠ (TX2 b).2.1 := by decide +kernel
theorem tyX2_ok : ∀ k, k < 5 → parseFieldDescriptor (TX2 k).2.2.1 = some (tyX2 k) := by decide +kernel
abbrev cX2_init : ByteArray := prog_4_method_1_code
def yX2_init : MethodName := ⟨RX2, "<init>", "([I)V"⟩
abbrev cX2_begin : ByteArray := prog_4_method_2_code
def yX2_begin : MethodName := ⟨RX2, "begin", "(LClickBench$Page;LClickBench$Page;)V"⟩
abbrev cX2_costOf : ByteArray := prog_4_method_3_code
def yX2_costOf : MethodName := ⟨RX2, "costOf", "(LClickBench$Part;LClickBench$Part;)I"⟩
abbrev cX2_farOf : ByteArray := prog_4_method_4_code
def yX2_farOf : MethodName := ⟨RX2, "farOf", "(LClickBench$Part;LClickBench$Part;)I"⟩
abbrev cX2_measure : ByteArray := prog_4_method_5_code
def yX2_measure : MethodName := ⟨RX2, "measure", "(LClickBench$Part;)V"⟩
abbrev cX2_measureKey : ByteArray := prog_4_method_6_code
def yX2_measureKey : MethodName := ⟨RX2, "measureKey", "(LClickBench$Part;)V"⟩
abbrev cX2_measureForests : ByteArray := prog_4_method_7_code
def yX2_measureForests : MethodName := ⟨RX2, "measureForests", "(LClickBench$Part;LClickBench$Part;)V"⟩
abbrev cX2_change : ByteArray := prog_4_method_8_code
def yX2_change : MethodName := ⟨RX2, "change", "(LClickBench$Part;LClickBench$Part;)I"⟩
abbrev cX2_changeAlone : ByteArray := prog_4_method_9_code
def yX2_changeAlone : MethodName := ⟨RX2, "changeAlone", "(LClickBench$Part;LClickBench$Part;)I"⟩
def RX3 : String := "ClickBench$Loop"
def TX3 : u_T := fun k => match k with
  | 0 => ("ClickBench$Loop", "shown", "LClickBench$Part;", true)
  | 1 => ("ClickBench$Loop", "level", "I", true)
  | 2 => ("ClickBench$Loop", "firstTurn", "I", true)
  | _ => ("ClickBench$Loop", "step", "I", true)
def tyX3 : Nat → FieldType := fun k => match k with
  | 0 => .object "ClickBench$Part"
  | 1 => .int
  | 2 => .int
  | _ => .int
abbrev wsX30 : List Cond := u_ws RX3 TX3 4
theorem nmX3 : ∀ a, a < 4 → ∀ b, b < 4 → a ≠ b → (TX3 a).2.1 ≠ (TX3 b).2.1 := by decide +kernel
theorem tyX3_ok : ∀ k, k < 4 → parseFieldDescriptor (TX3 k).2.2.1 = some (tyX3 k) := by decide +kernel
abbrev cX3_init : ByteArray := prog_5_method_1_code
def yX3_init : MethodName := ⟨RX3, "<init>", "(LClickBench$Part;III)V"⟩
abbrev cX3_of : ByteArray := prog_5_method_2_code
def yX3_of : MethodName := ⟨RX3, "of", "(LClickBench$Part;LClickBench$Part;)LClickBench$Loop;"⟩
abbrev cX3_stepOn : ByteArray := prog_5_method_3_code
def yX3_stepOn : MethodName := ⟨RX3, "stepOn", "(LClickBench$Page;I)LClickBench$Part;"⟩
abbrev cX3_countRows : ByteArray := prog_5_method_4_code
def yX3_countRows : MethodName := ⟨RX3, "countRows", "(LClickBench$Page;)I"⟩
abbrev cX3_rowOn : ByteArray := prog_5_method_5_code
def yX3_rowOn : MethodName := ⟨RX3, "rowOn", "(LClickBench$Page;I)LClickBench$Part;"⟩
def RX4 : String := "ClickBench$Page"
def TX4 : u_T := fun k => match k with
  | 0 => ("ClickBench$Page", "parts", "[LClickBench$Part;", true)
  | _ => ("ClickBench$Page", "count", "I", false)
def tyX4 : Nat → FieldType := fun k => match k with
  | 0 => .array (.object "ClickBench$Part")
  | _ => .int
abbrev wsX40 : List Cond := u_ws RX4 TX4 2
theorem nmX4 : ∀ a, a < 2 → ∀ b, b < 2 → a ≠ b → (TX4 a).2.1 ≠ (TX4 b).2.1 := by decide +kernel
theorem tyX4_ok : ∀ k, k < 2 → parseFieldDescriptor (TX4 k).2.2.1 = some (tyX4 k) := by decide +kernel
abbrev cX4_init : ByteArray := prog_6_method_1_code
def yX4_init : MethodName := ⟨RX4, "<init>", "()V"⟩
abbrev cX4_at : ByteArray := prog_6_method_2_code
def yX4_at : MethodName := ⟨RX4, "at", "(I)LClickBench$Part;"⟩
abbrev cX4_add : ByteArray := prog_6_method_3_code
def yX4_add : MethodName := ⟨RX4, "add", "(JLClickBench$Part;LClickBench$Part;)LClickBench$Part;"⟩
abbrev cX4_countFitting : ByteArray := prog_6_method_4_code
def yX4_countFitting : MethodName := ⟨RX4, "countFitting", "(LClickBench$Part;I)I"⟩
abbrev cX4_fitting : ByteArray := prog_6_method_5_code
def yX4_fitting : MethodName := ⟨RX4, "fitting", "(LClickBench$Part;II)LClickBench$Part;"⟩
def RX5 : String := "ClickBench$Part"
def TX5 : u_T := fun k => match k with
  | 0 => ("ClickBench$Part", "page", "LClickBench$Page;", true)
  | 1 => ("ClickBench$Part", "number", "I", true)
  | 2 => ("ClickBench$Part", "kind", "J", true)
  | 3 => ("ClickBench$Part", "parent", "LClickBench$Part;", true)
  | 4 => ("ClickBench$Part", "left", "LClickBench$Part;", true)
  | 5 => ("ClickBench$Part", "label", "LClickBench$Part;", true)
  | 6 => ("ClickBench$Part", "turn", "I", true)
  | 7 => ("ClickBench$Part", "above", "I", true)
  | 8 => ("ClickBench$Part", "right", "LClickBench$Part;", false)
  | 9 => ("ClickBench$Part", "under", "I", false)
  | 10 => ("ClickBench$Part", "name", "J", false)
  | 11 => ("ClickBench$Part", "textHead", "J", false)
  | 12 => ("ClickBench$Part", "textTail", "J", false)
  | 13 => ("ClickBench$Part", "textLength", "I", false)
  | 14 => ("ClickBench$Part", "harm", "Z", false)
  | 15 => ("ClickBench$Part", "clicks", "I", false)
  | _ => ("ClickBench$Part", "clickedInRun", "I", false)
def tyX5 : Nat → FieldType := fun k => match k with
  | 0 => .object "ClickBench$Page"
  | 1 => .int
  | 2 => .long
  | 3 => .object "ClickBench$Part"
  | 4 => .object "ClickBench$Part"
  | 5 => .object "ClickBench$Part"
  | 6 => .int
  | 7 => .int
  | 8 => .object "ClickBench$Part"
  | 9 => .int
  | 10 => .long
  | 11 => .long
  | 12 => .long
  | 13 => .int
  | 14 => .boolean
  | 15 => .int
  | _ => .int
abbrev wsX50 : List Cond := u_ws RX5 TX5 17
theorem nmX5 : ∀ a, a < 17 → ∀ b, b < 17 → a ≠ b → (TX5 a).2.1 ≠ (TX5 b).2.1 := by decide +kernel
theorem tyX5_ok : ∀ k, k < 17 → parseFieldDescriptor (TX5 k).2.2.1 = some (tyX5 k) := by decide +kernel
abbrev cX5_init : ByteArray := prog_7_method_1_code
def yX5_init : MethodName := ⟨RX5, "<init>", "(LClickBench$Page;JLClickBench$Part;LClickBench$Part;)V"⟩
abbrev cX5_labelBehind : ByteArray := prog_7_method_2_code
def yX5_labelBehind : MethodName := ⟨RX5, "labelBehind", "(LClickBench$Part;)LClickBench$Part;"⟩
abbrev cX5_turnBehind : ByteArray := prog_7_method_3_code
def yX5_turnBehind : MethodName := ⟨RX5, "turnBehind", "(LClickBench$Part;J)I"⟩
abbrev cX5_textByte : ByteArray := prog_7_method_4_code
def yX5_textByte : MethodName := ⟨RX5, "textByte", "(I)I"⟩
abbrev cX5_isHarmful : ByteArray := prog_7_method_5_code
def yX5_isHarmful : MethodName := ⟨RX5, "isHarmful", "()Z"⟩
abbrev cX5_hasTextOf : ByteArray := prog_7_method_6_code
def yX5_hasTextOf : MethodName := ⟨RX5, "hasTextOf", "(LClickBench$Part;)Z"⟩
abbrev cX5_hasPathOf : ByteArray := prog_7_method_7_code
def yX5_hasPathOf : MethodName := ⟨RX5, "hasPathOf", "(LClickBench$Part;II)Z"⟩
abbrev cX5_marksSharedWith : ByteArray := prog_7_method_8_code
def yX5_marksSharedWith : MethodName := ⟨RX5, "marksSharedWith", "(LClickBench$Part;)I"⟩
abbrev cX5_fitsMarksOf : ByteArray := prog_7_method_9_code
def yX5_fitsMarksOf : MethodName := ⟨RX5, "fitsMarksOf", "(LClickBench$Part;I)Z"⟩
abbrev cX5_kindOf : ByteArray := prog_7_method_10_code
def yX5_kindOf : MethodName := ⟨RX5, "kindOf", "(LClickBench$Part;)J"⟩
abbrev cX5_nameOf : ByteArray := prog_7_method_11_code
def yX5_nameOf : MethodName := ⟨RX5, "nameOf", "(LClickBench$Part;)J"⟩
abbrev cX5_sameLabel : ByteArray := prog_7_method_12_code
def yX5_sameLabel : MethodName := ⟨RX5, "sameLabel", "(LClickBench$Part;LClickBench$Part;)Z"⟩
def RX6 : String := "ClickBench$Reader"
def TX6 : u_T := fun k => match k with
  | 0 => ("ClickBench$Reader", "tokens", "LClickBench$Tokens;", true)
  | 1 => ("ClickBench$Reader", "faultKind", "I", false)
  | 2 => ("ClickBench$Reader", "faultPlace", "I", false)
  | 3 => ("ClickBench$Reader", "stage", "I", false)
  | 4 => ("ClickBench$Reader", "open", "LClickBench$Part;", false)
  | _ => ("ClickBench$Reader", "latest", "LClickBench$Part;", false)
def tyX6 : Nat → FieldType := fun k => match k with
  | 0 => .object "ClickBench$Tokens"
  | 1 => .int
  | 2 => .int
  | 3 => .int
  | 4 => .object "ClickBench$Part"
  | _ => .object "ClickBench$Part"
abbrev wsX60 : List Cond := u_ws RX6 TX6 6
theorem nmX6 : ∀ a, a < 6 → ∀ b, b < 6 → a ≠ b → (TX6 a).2.1 ≠ (TX6 b).2.1 := by decide +kernel
theorem tyX6_ok : ∀ k, k < 6 → parseFieldDescriptor (TX6 k).2.2.1 = some (tyX6 k) := by decide +kernel
abbrev cX6_init : ByteArray := prog_8_method_1_code
def yX6_init : MethodName := ⟨RX6, "<init>", "(LClickBench$Tape;)V"⟩
abbrev cX6_readPage : ByteArray := prog_8_method_2_code
def yX6_readPage : MethodName := ⟨RX6, "readPage", "()LClickBench$Page;"⟩
abbrev cX6_takeToken : ByteArray := prog_8_method_3_code
def yX6_takeToken : MethodName := ⟨RX6, "takeToken", "(LClickBench$Page;)Z"⟩
abbrev cX6_move : ByteArray := prog_8_method_4_code
def yX6_move : MethodName := ⟨RX6, "move", "(II)Z"⟩
abbrev cX6_takeKind : ByteArray := prog_8_method_5_code
def yX6_takeKind : MethodName := ⟨RX6, "takeKind", "(LClickBench$Page;)Z"⟩
abbrev cX6_takeName : ByteArray := prog_8_method_6_code
def yX6_takeName : MethodName := ⟨RX6, "takeName", "()Z"⟩
abbrev cX6_takeText : ByteArray := prog_8_method_7_code
def yX6_takeText : MethodName := ⟨RX6, "takeText", "()Z"⟩
abbrev cX6_takeHarm : ByteArray := prog_8_method_8_code
def yX6_takeHarm : MethodName := ⟨RX6, "takeHarm", "()Z"⟩
abbrev cX6_goDown : ByteArray := prog_8_method_9_code
def yX6_goDown : MethodName := ⟨RX6, "goDown", "()Z"⟩
abbrev cX6_goUp : ByteArray := prog_8_method_10_code
def yX6_goUp : MethodName := ⟨RX6, "goUp", "()Z"⟩
def RX7 : String := "ClickBench$Run"
def TX7 : u_T := fun k => match k with
  | 0 => ("ClickBench$Run", "kept", "[LClickBench$Part;", true)
  | 1 => ("ClickBench$Run", "serial", "I", false)
  | 2 => ("ClickBench$Run", "reason", "I", false)
  | 3 => ("ClickBench$Run", "stoppedAt", "LClickBench$Part;", false)
  | 4 => ("ClickBench$Run", "clicks", "I", false)
  | _ => ("ClickBench$Run", "reads", "I", false)
def tyX7 : Nat → FieldType := fun k => match k with
  | 0 => .array (.object "ClickBench$Part")
  | 1 => .int
  | 2 => .int
  | 3 => .object "ClickBench$Part"
  | 4 => .int
  | _ => .int
abbrev wsX70 : List Cond := u_ws RX7 TX7 6
theorem nmX7 : ∀ a, a < 6 → ∀ b, b < 6 → a ≠ b → (TX7 a).2.1 ≠ (TX7 b).2.1 := by decide +kernel
theorem tyX7_ok : ∀ k, k < 6 → parseFieldDescriptor (TX7 k).2.2.1 = some (tyX7 k) := by decide +kernel
abbrev cX7_init : ByteArray := prog_9_method_1_code
def yX7_init : MethodName := ⟨RX7, "<init>", "()V"⟩
abbrev cX7_begin : ByteArray := prog_9_method_2_code
def yX7_begin : MethodName := ⟨RX7, "begin", "()V"⟩
abbrev cX7_stop : ByteArray := prog_9_method_3_code
def yX7_stop : MethodName := ⟨RX7, "stop", "(ILClickBench$Part;)Z"⟩
abbrev cX7_take : ByteArray := prog_9_method_4_code
def yX7_take : MethodName := ⟨RX7, "take", "(LClickBench$Part;Z)Z"⟩
abbrev cX7_keep : ByteArray := prog_9_method_5_code
def yX7_keep : MethodName := ⟨RX7, "keep", "(LClickBench$Part;)V"⟩
abbrev cX7_keptAt : ByteArray := prog_9_method_6_code
def yX7_keptAt : MethodName := ⟨RX7, "keptAt", "(I)LClickBench$Part;"⟩
def RX8 : String := "ClickBench$Samples"
def TX8 : u_T := fun k => match k with
  | 0 => ("ClickBench$Samples", "told", "[LClickBench$Part;", true)
  | 1 => ("ClickBench$Samples", "shared", "[Z", true)
  | 2 => ("ClickBench$Samples", "count", "I", false)
  | _ => ("ClickBench$Samples", "steadyMarks", "I", false)
def tyX8 : Nat → FieldType := fun k => match k with
  | 0 => .array (.object "ClickBench$Part")
  | 1 => .array .boolean
  | 2 => .int
  | _ => .int
abbrev wsX80 : List Cond := u_ws RX8 TX8 4
theorem nmX8 : ∀ a, a < 4 → ∀ b, b < 4 → a ≠ b → (TX8 a).2.1 ≠ (TX8 b).2.1 := by decide +kernel
theorem tyX8_ok : ∀ k, k < 4 → parseFieldDescriptor (TX8 k).2.2.1 = some (tyX8 k) := by decide +kernel
abbrev cX8_init : ByteArray := prog_10_method_1_code
def yX8_init : MethodName := ⟨RX8, "<init>", "()V"⟩
abbrev cX8_first : ByteArray := prog_10_method_2_code
def yX8_first : MethodName := ⟨RX8, "first", "()LClickBench$Part;"⟩
abbrev cX8_add : ByteArray := prog_10_method_3_code
def yX8_add : MethodName := ⟨RX8, "add", "(LClickBench$Part;)V"⟩
abbrev cX8_noteShared : ByteArray := prog_10_method_4_code
def yX8_noteShared : MethodName := ⟨RX8, "noteShared", "(I)V"⟩
abbrev cX8_dropAll : ByteArray := prog_10_method_5_code
def yX8_dropAll : MethodName := ⟨RX8, "dropAll", "()V"⟩
abbrev cX8_leastMarks : ByteArray := prog_10_method_6_code
def yX8_leastMarks : MethodName := ⟨RX8, "leastMarks", "()I"⟩
def RX9 : String := "ClickBench$Tape"
def TX9 : u_T := fun k => match k with
  | 0 => ("ClickBench$Tape", "bytes", "[B", true)
  | _ => ("ClickBench$Tape", "length", "I", false)
def tyX9 : Nat → FieldType := fun k => match k with
  | 0 => .array .byte
  | _ => .int
abbrev wsX90 : List Cond := u_ws RX9 TX9 2
theorem nmX9 : ∀ a, a < 2 → ∀ b, b < 2 → a ≠ b → (TX9 a).2.1 ≠ (TX9 b).2.1 := by decide +kernel
theorem tyX9_ok : ∀ k, k < 2 → parseFieldDescriptor (TX9 k).2.2.1 = some (tyX9 k) := by decide +kernel
abbrev cX9_init : ByteArray := prog_11_method_1_code
def yX9_init : MethodName := ⟨RX9, "<init>", "()V"⟩
abbrev cX9_append : ByteArray := prog_11_method_2_code
def yX9_append : MethodName := ⟨RX9, "append", "(I)V"⟩
abbrev cX9_byteAt : ByteArray := prog_11_method_3_code
def yX9_byteAt : MethodName := ⟨RX9, "byteAt", "(I)I"⟩
def RX10 : String := "ClickBench$Tokens"
def TX10 : u_T := fun k => match k with
  | 0 => ("ClickBench$Tokens", "tape", "LClickBench$Tape;", true)
  | 1 => ("ClickBench$Tokens", "at", "I", false)
  | 2 => ("ClickBench$Tokens", "token", "I", false)
  | 3 => ("ClickBench$Tokens", "place", "I", false)
  | 4 => ("ClickBench$Tokens", "word", "J", false)
  | 5 => ("ClickBench$Tokens", "textHead", "J", false)
  | 6 => ("ClickBench$Tokens", "textTail", "J", false)
  | _ => ("ClickBench$Tokens", "textLength", "I", false)
def tyX10 : Nat → FieldType := fun k => match k with
  | 0 => .object "ClickBench$Tape"
  | 1 => .int
  | 2 => .int
  | 3 => .int
  | 4 => .long
  | 5 => .long
  | 6 => .long
  | _ => .int
abbrev wsX100 : List Cond := u_ws RX10 TX10 8
theorem nmX10 : ∀ a, a < 8 → ∀ b, b < 8 → a ≠ b → (TX10 a).2.1 ≠ (TX10 b).2.1 := by decide +kernel
theorem tyX10_ok : ∀ k, k < 8 → parseFieldDescriptor (TX10 k).2.2.1 = some (tyX10 k) := by decide +kernel
abbrev cX10_init : ByteArray := prog_12_method_1_code
def yX10_init : MethodName := ⟨RX10, "<init>", "(LClickBench$Tape;)V"⟩
abbrev cX10_rewind : ByteArray := prog_12_method_2_code
def yX10_rewind : MethodName := ⟨RX10, "rewind", "()V"⟩
abbrev cX10_advance : ByteArray := prog_12_method_3_code
def yX10_advance : MethodName := ⟨RX10, "advance", "()V"⟩
abbrev cX10_takeWord : ByteArray := prog_12_method_4_code
def yX10_takeWord : MethodName := ⟨RX10, "takeWord", "()V"⟩
abbrev cX10_takeText : ByteArray := prog_12_method_5_code
def yX10_takeText : MethodName := ⟨RX10, "takeText", "()V"⟩
abbrev cX10_putTextByte : ByteArray := prog_12_method_6_code
def yX10_putTextByte : MethodName := ⟨RX10, "putTextByte", "(I)V"⟩
abbrev cX10_signToken : ByteArray := prog_12_method_7_code
def yX10_signToken : MethodName := ⟨RX10, "signToken", "(I)I"⟩
abbrev cX10_isBlank : ByteArray := prog_12_method_8_code
def yX10_isBlank : MethodName := ⟨RX10, "isBlank", "(I)Z"⟩
abbrev cX10_isLetter : ByteArray := prog_12_method_9_code
def yX10_isLetter : MethodName := ⟨RX10, "isLetter", "(I)Z"⟩
abbrev cX10_isTextByte : ByteArray := prog_12_method_10_code
def yX10_isTextByte : MethodName := ⟨RX10, "isTextByte", "(I)Z"⟩
def RX11 : String := "ClickBench"
def TX11 : u_T := fun k => match k with
  | 0 => ("ClickBench", "tape", "LClickBench$Tape;", true)
  | 1 => ("ClickBench", "reader", "LClickBench$Reader;", true)
  | 2 => ("ClickBench", "shelves", "[LClickBench$Page;", true)
  | 3 => ("ClickBench", "likenesses", "[LClickBench$Likeness;", true)
  | 4 => ("ClickBench", "forests", "[I", true)
  | 5 => ("ClickBench", "latestFind", "LClickBench$Finding;", true)
  | 6 => ("ClickBench", "findingOfRun", "LClickBench$Finding;", true)
  | 7 => ("ClickBench", "samples", "LClickBench$Samples;", true)
  | 8 => ("ClickBench", "acts", "[LClickBench$Act;", true)
  | 9 => ("ClickBench", "latestRun", "LClickBench$Run;", true)
  | 10 => ("ClickBench", "actCount", "I", false)
  | 11 => ("ClickBench", "oldestLikeness", "I", false)
  | _ => ("ClickBench", "leastGap", "I", false)
def tyX11 : Nat → FieldType := fun k => match k with
  | 0 => .object "ClickBench$Tape"
  | 1 => .object "ClickBench$Reader"
  | 2 => .array (.object "ClickBench$Page")
  | 3 => .array (.object "ClickBench$Likeness")
  | 4 => .array .int
  | 5 => .object "ClickBench$Finding"
  | 6 => .object "ClickBench$Finding"
  | 7 => .object "ClickBench$Samples"
  | 8 => .array (.object "ClickBench$Act")
  | 9 => .object "ClickBench$Run"
  | 10 => .int
  | 11 => .int
  | _ => .int
abbrev wsX110 : List Cond := u_ws RX11 TX11 13
theorem nmX11 : ∀ a, a < 13 → ∀ b, b < 13 → a ≠ b → (TX11 a).2.1 ≠ (TX11 b).2.1 := by decide +kernel
theorem tyX11_ok : ∀ k, k < 13 → parseFieldDescriptor (TX11 k).2.2.1 = some (tyX11 k) := by decide +kernel
abbrev cX11_init : ByteArray := prog_1_method_1_code
def yX11_init : MethodName := ⟨RX11, "<init>", "()V"⟩
abbrev cX11_feed : ByteArray := prog_1_method_2_code
def yX11_feed : MethodName := ⟨RX11, "feed", "(IIIII)I"⟩
abbrev cX11_end : ByteArray := prog_1_method_3_code
def yX11_end : MethodName := ⟨RX11, "end", "(I)I"⟩
abbrev cX11_page : ByteArray := prog_1_method_4_code
def yX11_page : MethodName := ⟨RX11, "page", "(I)I"⟩
abbrev cX11_fault : ByteArray := prog_1_method_5_code
def yX11_fault : MethodName := ⟨RX11, "fault", "(I)I"⟩
abbrev cX11_part : ByteArray := prog_1_method_6_code
def yX11_part : MethodName := ⟨RX11, "part", "(III)I"⟩
abbrev cX11_text : ByteArray := prog_1_method_7_code
def yX11_text : MethodName := ⟨RX11, "text", "(IIII)I"⟩
abbrev cX11_far : ByteArray := prog_1_method_8_code
def yX11_far : MethodName := ⟨RX11, "far", "(IIII)I"⟩
abbrev cX11_cost : ByteArray := prog_1_method_9_code
def yX11_cost : MethodName := ⟨RX11, "cost", "(IIII)I"⟩
abbrev cX11_gap : ByteArray := prog_1_method_10_code
def yX11_gap : MethodName := ⟨RX11, "gap", "(I)Z"⟩
abbrev cX11_find : ByteArray := prog_1_method_11_code
def yX11_find : MethodName := ⟨RX11, "find", "(III)I"⟩
abbrev cX11_found : ByteArray := prog_1_method_12_code
def yX11_found : MethodName := ⟨RX11, "found", "(I)I"⟩
abbrev cX11_fits : ByteArray := prog_1_method_13_code
def yX11_fits : MethodName := ⟨RX11, "fits", "(IIII)I"⟩
abbrev cX11_fit : ByteArray := prog_1_method_14_code
def yX11_fit : MethodName := ⟨RX11, "fit", "(IIIII)I"⟩
abbrev cX11_sample : ByteArray := prog_1_method_15_code
def yX11_sample : MethodName := ⟨RX11, "sample", "(II)I"⟩
abbrev cX11_forget : ByteArray := prog_1_method_16_code
def yX11_forget : MethodName := ⟨RX11, "forget", "()I"⟩
abbrev cX11_stays : ByteArray := prog_1_method_17_code
def yX11_stays : MethodName := ⟨RX11, "stays", "()I"⟩
abbrev cX11_learnt : ByteArray := prog_1_method_18_code
def yX11_learnt : MethodName := ⟨RX11, "learnt", "()I"⟩
abbrev cX11_seen : ByteArray := prog_1_method_19_code
def yX11_seen : MethodName := ⟨RX11, "seen", "(I)I"⟩
abbrev cX11_rows : ByteArray := prog_1_method_20_code
def yX11_rows : MethodName := ⟨RX11, "rows", "(IIII)I"⟩
abbrev cX11_row : ByteArray := prog_1_method_21_code
def yX11_row : MethodName := ⟨RX11, "row", "(IIIII)I"⟩
abbrev cX11_act : ByteArray := prog_1_method_22_code
def yX11_act : MethodName := ⟨RX11, "act", "(ZII)I"⟩
abbrev cX11_loop : ByteArray := prog_1_method_23_code
def yX11_loop : MethodName := ⟨RX11, "loop", "(ZIII)I"⟩
abbrev cX11_clear : ByteArray := prog_1_method_24_code
def yX11_clear : MethodName := ⟨RX11, "clear", "()I"⟩
abbrev cX11_run : ByteArray := prog_1_method_25_code
def yX11_run : MethodName := ⟨RX11, "run", "(I)I"⟩
abbrev cX11_ran : ByteArray := prog_1_method_26_code
def yX11_ran : MethodName := ⟨RX11, "ran", "(I)I"⟩
abbrev cX11_read : ByteArray := prog_1_method_27_code
def yX11_read : MethodName := ⟨RX11, "read", "(II)I"⟩
abbrev cX11_about : ByteArray := prog_1_method_28_code
def yX11_about : MethodName := ⟨RX11, "about", "(I)I"⟩
abbrev cX11_pageOn : ByteArray := prog_1_method_29_code
def yX11_pageOn : MethodName := ⟨RX11, "pageOn", "(I)LClickBench$Page;"⟩
abbrev cX11_partOn : ByteArray := prog_1_method_30_code
def yX11_partOn : MethodName := ⟨RX11, "partOn", "(II)LClickBench$Part;"⟩
abbrev cX11_loopOn : ByteArray := prog_1_method_31_code
def yX11_loopOn : MethodName := ⟨RX11, "loopOn", "(III)LClickBench$Loop;"⟩
abbrev cX11_likenessFor : ByteArray := prog_1_method_32_code
def yX11_likenessFor : MethodName := ⟨RX11, "likenessFor", "(LClickBench$Part;LClickBench$Page;)LClickBench$Likeness;"⟩
abbrev cX11_oldestTable : ByteArray := prog_1_method_33_code
def yX11_oldestTable : MethodName := ⟨RX11, "oldestTable", "()LClickBench$Likeness;"⟩
abbrev cX11_tell : ByteArray := prog_1_method_34_code
def yX11_tell : MethodName := ⟨RX11, "tell", "(ZLClickBench$Part;LClickBench$Loop;)I"⟩
abbrev cX11_perform : ByteArray := prog_1_method_35_code
def yX11_perform : MethodName := ⟨RX11, "perform", "(LClickBench$Act;LClickBench$Page;)Z"⟩
abbrev cX11_performRows : ByteArray := prog_1_method_36_code
def yX11_performRows : MethodName := ⟨RX11, "performRows", "(LClickBench$Loop;ZLClickBench$Page;)Z"⟩
abbrev cX11_areMarks : ByteArray := prog_1_method_37_code
def yX11_areMarks : MethodName := ⟨RX11, "areMarks", "(I)Z"⟩
abbrev cX11_numberOf : ByteArray := prog_1_method_38_code
def yX11_numberOf : MethodName := ⟨RX11, "numberOf", "(LClickBench$Part;)I"⟩
abbrev cX11_letterOf : ByteArray := prog_1_method_39_code
def yX11_letterOf : MethodName := ⟨RX11, "letterOf", "(JI)I"⟩
def RX12 : String := "ClickBenchModel"
def TX12 : u_T := fun k => match k with
  | 0 => ("ClickBenchModel", "tape", "[B", true)
  | 1 => ("ClickBenchModel", "text", "[B", true)
  | 2 => ("ClickBenchModel", "taped", "I", false)
  | 3 => ("ClickBenchModel", "size", "I", false)
  | 4 => ("ClickBenchModel", "faultKind", "I", false)
  | 5 => ("ClickBenchModel", "faultPlace", "I", false)
  | 6 => ("ClickBenchModel", "at", "I", false)
  | 7 => ("ClickBenchModel", "end", "I", false)
  | 8 => ("ClickBenchModel", "token", "I", false)
  | 9 => ("ClickBenchModel", "name", "J", false)
  | 10 => ("ClickBenchModel", "many", "[I", true)
  | 11 => ("ClickBenchModel", "parent", "[I", true)
  | 12 => ("ClickBenchModel", "all", "[I", true)
  | 13 => ("ClickBenchModel", "turn", "[I", true)
  | 14 => ("ClickBenchModel", "deep", "[I", true)
  | 15 => ("ClickBenchModel", "words", "[I", true)
  | 16 => ("ClickBenchModel", "clicks", "[I", true)
  | 17 => ("ClickBenchModel", "kind", "[J", true)
  | 18 => ("ClickBenchModel", "title", "[J", true)
  | 19 => ("ClickBenchModel", "isHarm", "[Z", true)
  | 20 => ("ClickBenchModel", "letters", "[B", true)
  | 21 => ("ClickBenchModel", "open", "[I", true)
  | 22 => ("ClickBenchModel", "opened", "I", false)
  | 23 => ("ClickBenchModel", "trees", "[I", true)
  | 24 => ("ClickBenchModel", "behind", "[I", true)
  | 25 => ("ClickBenchModel", "gap", "I", false)
  | 26 => ("ClickBenchModel", "best", "I", false)
  | 27 => ("ClickBenchModel", "following", "I", false)
  | 28 => ("ClickBenchModel", "bestCost", "I", false)
  | 29 => ("ClickBenchModel", "followingCost", "I", false)
  | 30 => ("ClickBenchModel", "hasFound", "Z", false)
  | 31 => ("ClickBenchModel", "toldBest", "I", false)
  | 32 => ("ClickBenchModel", "toldNext", "I", false)
  | 33 => ("ClickBenchModel", "toldCost", "I", false)
  | 34 => ("ClickBenchModel", "toldNextCost", "I", false)
  | 35 => ("ClickBenchModel", "samplePart", "[I", true)
  | 36 => ("ClickBenchModel", "samples", "I", false)
  | 37 => ("ClickBenchModel", "others", "[I", true)
  | 38 => ("ClickBenchModel", "otherMany", "I", false)
  | 39 => ("ClickBenchModel", "pathKind", "[J", true)
  | 40 => ("ClickBenchModel", "pathTurn", "[I", true)
  | 41 => ("ClickBenchModel", "pathSize", "[I", true)
  | 42 => ("ClickBenchModel", "pathPlace", "[I", true)
  | 43 => ("ClickBenchModel", "pathFrom", "[I", true)
  | 44 => ("ClickBenchModel", "pathStep", "[I", true)
  | 45 => ("ClickBenchModel", "isClick", "[Z", true)
  | 46 => ("ClickBenchModel", "isLoop", "[Z", true)
  | 47 => ("ClickBenchModel", "wasClicked", "[Z", true)
  | 48 => ("ClickBenchModel", "actPart", "[I", true)
  | 49 => ("ClickBenchModel", "readSize", "[I", true)
  | 50 => ("ClickBenchModel", "readLetters", "[B", true)
  | 51 => ("ClickBenchModel", "acts", "I", false)
  | 52 => ("ClickBenchModel", "why", "I", false)
  | 53 => ("ClickBenchModel", "stopped", "I", false)
  | 54 => ("ClickBenchModel", "clicksMade", "I", false)
  | 55 => ("ClickBenchModel", "reads", "I", false)
  | _ => ("ClickBenchModel", "hasRun", "Z", false)
def tyX12 : Nat → FieldType := fun k => match k with
  | 0 => .array .byte
  | 1 => .array .byte
  | 2 => .int
  | 3 => .int
  | 4 => .int
  | 5 => .int
  | 6 => .int
  | 7 => .int
  | 8 => .int
  | 9 => .long
  | 10 => .array .int
  | 11 => .array .int
  | 12 => .array .int
  | 13 => .array .int
  | 14 => .array .int
  | 15 => .array .int
  | 16 => .array .int
  | 17 => .array .long
  | 18 => .array .long
  | 19 => .array .boolean
  | 20 => .array .byte
  | 21 => .array .int
  | 22 => .int
  | 23 => .array .int
  | 24 => .array .int
  | 25 => .int
  | 26 => .int
  | 27 => .int
  | 28 => .int
  | 29 => .int
  | 30 => .boolean
  | 31 => .int
  | 32 => .int
  | 33 => .int
  | 34 => .int
  | 35 => .array .int
  | 36 => .int
  | 37 => .array .int
  | 38 => .int
  | 39 => .array .long
  | 40 => .array .int
  | 41 => .array .int
  | 42 => .array .int
  | 43 => .array .int
  | 44 => .array .int
  | 45 => .array .boolean
  | 46 => .array .boolean
  | 47 => .array .boolean
  | 48 => .array .int
  | 49 => .array .int
  | 50 => .array .byte
  | 51 => .int
  | 52 => .int
  | 53 => .int
  | 54 => .int
  | 55 => .int
  | _ => .boolean
abbrev wsX120 : List Cond := u_ws RX12 TX12 57
theorem nmX12 : ∀ a, a < 57 → ∀ b, b < 57 → a ≠ b → (TX12 a).2.1 ≠ (TX12 b).2.1 := by decide +kernel
theorem tyX12_ok : ∀ k, k < 57 → parseFieldDescriptor (TX12 k).2.2.1 = some (tyX12 k) := by decide +kernel
abbrev cX12_init : ByteArray := prog_14_method_1_code
def yX12_init : MethodName := ⟨RX12, "<init>", "()V"⟩
abbrev cX12_sign : ByteArray := prog_14_method_2_code
def yX12_sign : MethodName := ⟨RX12, "sign", "(I)I"⟩
abbrev cX12_isLetter : ByteArray := prog_14_method_3_code
def yX12_isLetter : MethodName := ⟨RX12, "isLetter", "(I)Z"⟩
abbrev cX12_fails : ByteArray := prog_14_method_4_code
def yX12_fails : MethodName := ⟨RX12, "fails", "(II)V"⟩
abbrev cX12_isGood : ByteArray := prog_14_method_5_code
def yX12_isGood : MethodName := ⟨RX12, "isGood", "()Z"⟩
abbrev cX12_next : ByteArray := prog_14_method_6_code
def yX12_next : MethodName := ⟨RX12, "next", "()V"⟩
abbrev cX12_is : ByteArray := prog_14_method_7_code
def yX12_is : MethodName := ⟨RX12, "is", "(I)Z"⟩
abbrev cX12_wrong : ByteArray := prog_14_method_8_code
def yX12_wrong : MethodName := ⟨RX12, "wrong", "()V"⟩
abbrev cX12_spot : ByteArray := prog_14_method_9_code
def yX12_spot : MethodName := ⟨RX12, "spot", "(II)I"⟩
abbrev cX12_readPart : ByteArray := prog_14_method_10_code
def yX12_readPart : MethodName := ⟨RX12, "readPart", "()V"⟩
abbrev cX12_readPage : ByteArray := prog_14_method_11_code
def yX12_readPage : MethodName := ⟨RX12, "readPage", "()V"⟩
abbrev cX12_measure : ByteArray := prog_14_method_12_code
def yX12_measure : MethodName := ⟨RX12, "measure", "()V"⟩
abbrev cX12_isUnder : ByteArray := prog_14_method_13_code
def yX12_isUnder : MethodName := ⟨RX12, "isUnder", "(III)Z"⟩
abbrev cX12_copyPage : ByteArray := prog_14_method_14_code
def yX12_copyPage : MethodName := ⟨RX12, "copyPage", "(II)V"⟩
abbrev cX12_isShelf : ByteArray := prog_14_method_15_code
def yX12_isShelf : MethodName := ⟨RX12, "isShelf", "(I)Z"⟩
abbrev cX12_page : ByteArray := prog_14_method_16_code
def yX12_page : MethodName := ⟨RX12, "page", "(I)I"⟩
abbrev cX12_fault : ByteArray := prog_14_method_17_code
def yX12_fault : MethodName := ⟨RX12, "fault", "(I)I"⟩
abbrev cX12_isPart : ByteArray := prog_14_method_18_code
def yX12_isPart : MethodName := ⟨RX12, "isPart", "(II)Z"⟩
abbrev cX12_hasPage : ByteArray := prog_14_method_19_code
def yX12_hasPage : MethodName := ⟨RX12, "hasPage", "(I)Z"⟩
abbrev cX12_left : ByteArray := prog_14_method_20_code
def yX12_left : MethodName := ⟨RX12, "left", "(II)I"⟩
abbrev cX12_right : ByteArray := prog_14_method_21_code
def yX12_right : MethodName := ⟨RX12, "right", "(II)I"⟩
abbrev cX12_label : ByteArray := prog_14_method_22_code
def yX12_label : MethodName := ⟨RX12, "label", "(II)I"⟩
abbrev cX12_part : ByteArray := prog_14_method_23_code
def yX12_part : MethodName := ⟨RX12, "part", "(III)I"⟩
abbrev cX12_sizeOf : ByteArray := prog_14_method_24_code
def yX12_sizeOf : MethodName := ⟨RX12, "sizeOf", "(J)I"⟩
abbrev cX12_text : ByteArray := prog_14_method_25_code
def yX12_text : MethodName := ⟨RX12, "text", "(IIII)I"⟩
abbrev cX12_areSameWords : ByteArray := prog_14_method_26_code
def yX12_areSameWords : MethodName := ⟨RX12, "areSameWords", "(II)Z"⟩
abbrev cX12_change : ByteArray := prog_14_method_27_code
def yX12_change : MethodName := ⟨RX12, "change", "(II)I"⟩
abbrev cX12_measureAll : ByteArray := prog_14_method_28_code
def yX12_measureAll : MethodName := ⟨RX12, "measureAll", "(II)V"⟩
abbrev cX12_measureOne : ByteArray := prog_14_method_29_code
def yX12_measureOne : MethodName := ⟨RX12, "measureOne", "(IIII)I"⟩
abbrev cX12_far : ByteArray := prog_14_method_30_code
def yX12_far : MethodName := ⟨RX12, "far", "(IIII)I"⟩
abbrev cX12_beside : ByteArray := prog_14_method_31_code
def yX12_beside : MethodName := ⟨RX12, "beside", "(IIII)I"⟩
abbrev cX12_costOf : ByteArray := prog_14_method_32_code
def yX12_costOf : MethodName := ⟨RX12, "costOf", "(IIII)I"⟩
abbrev cX12_cost : ByteArray := prog_14_method_33_code
def yX12_cost : MethodName := ⟨RX12, "cost", "(IIII)I"⟩
abbrev cX12_gap : ByteArray := prog_14_method_34_code
def yX12_gap : MethodName := ⟨RX12, "gap", "(I)Z"⟩
abbrev cX12_seek : ByteArray := prog_14_method_35_code
def yX12_seek : MethodName := ⟨RX12, "seek", "(III)I"⟩
abbrev cX12_find : ByteArray := prog_14_method_36_code
def yX12_find : MethodName := ⟨RX12, "find", "(III)I"⟩
abbrev cX12_found : ByteArray := prog_14_method_37_code
def yX12_found : MethodName := ⟨RX12, "found", "(I)I"⟩
abbrev cX12_arePaths : ByteArray := prog_14_method_38_code
def yX12_arePaths : MethodName := ⟨RX12, "arePaths", "(IIII)Z"⟩
abbrev cX12_areLabels : ByteArray := prog_14_method_39_code
def yX12_areLabels : MethodName := ⟨RX12, "areLabels", "(IIII)Z"⟩
abbrev cX12_kindAbove : ByteArray := prog_14_method_40_code
def yX12_kindAbove : MethodName := ⟨RX12, "kindAbove", "(II)J"⟩
abbrev cX12_titleAbove : ByteArray := prog_14_method_41_code
def yX12_titleAbove : MethodName := ⟨RX12, "titleAbove", "(II)J"⟩
abbrev cX12_alike : ByteArray := prog_14_method_42_code
def yX12_alike : MethodName := ⟨RX12, "alike", "(IIII)I"⟩
abbrev cX12_fits : ByteArray := prog_14_method_43_code
def yX12_fits : MethodName := ⟨RX12, "fits", "(IIII)I"⟩
abbrev cX12_fit : ByteArray := prog_14_method_44_code
def yX12_fit : MethodName := ⟨RX12, "fit", "(IIIII)I"⟩
abbrev cX12_sample : ByteArray := prog_14_method_45_code
def yX12_sample : MethodName := ⟨RX12, "sample", "(II)I"⟩
abbrev cX12_forget : ByteArray := prog_14_method_46_code
def yX12_forget : MethodName := ⟨RX12, "forget", "()I"⟩
abbrev cX12_stays : ByteArray := prog_14_method_47_code
def yX12_stays : MethodName := ⟨RX12, "stays", "()I"⟩
abbrev cX12_bitsOf : ByteArray := prog_14_method_48_code
def yX12_bitsOf : MethodName := ⟨RX12, "bitsOf", "(I)I"⟩
abbrev cX12_lookAtSamples : ByteArray := prog_14_method_49_code
def yX12_lookAtSamples : MethodName := ⟨RX12, "lookAtSamples", "()V"⟩
abbrev cX12_tells : ByteArray := prog_14_method_50_code
def yX12_tells : MethodName := ⟨RX12, "tells", "(I)Z"⟩
abbrev cX12_learnt : ByteArray := prog_14_method_51_code
def yX12_learnt : MethodName := ⟨RX12, "learnt", "()I"⟩
abbrev cX12_seen : ByteArray := prog_14_method_52_code
def yX12_seen : MethodName := ⟨RX12, "seen", "(I)I"⟩
abbrev cX12_lay : ByteArray := prog_14_method_53_code
def yX12_lay : MethodName := ⟨RX12, "lay", "(IIII)Z"⟩
abbrev cX12_rowOf : ByteArray := prog_14_method_54_code
def yX12_rowOf : MethodName := ⟨RX12, "rowOf", "(III)I"⟩
abbrev cX12_child : ByteArray := prog_14_method_55_code
def yX12_child : MethodName := ⟨RX12, "child", "(IIJI)I"⟩
abbrev cX12_rowsOf : ByteArray := prog_14_method_56_code
def yX12_rowsOf : MethodName := ⟨RX12, "rowsOf", "(II)I"⟩
abbrev cX12_rows : ByteArray := prog_14_method_57_code
def yX12_rows : MethodName := ⟨RX12, "rows", "(IIII)I"⟩
abbrev cX12_row : ByteArray := prog_14_method_58_code
def yX12_row : MethodName := ⟨RX12, "row", "(IIIII)I"⟩
abbrev cX12_act : ByteArray := prog_14_method_59_code
def yX12_act : MethodName := ⟨RX12, "act", "(ZII)I"⟩
abbrev cX12_loop : ByteArray := prog_14_method_60_code
def yX12_loop : MethodName := ⟨RX12, "loop", "(ZIII)I"⟩
abbrev cX12_clear : ByteArray := prog_14_method_61_code
def yX12_clear : MethodName := ⟨RX12, "clear", "()I"⟩
abbrev cX12_isInHarm : ByteArray := prog_14_method_62_code
def yX12_isInHarm : MethodName := ⟨RX12, "isInHarm", "(II)Z"⟩
abbrev cX12_does : ByteArray := prog_14_method_63_code
def yX12_does : MethodName := ⟨RX12, "does", "(III)Z"⟩
abbrev cX12_goes : ByteArray := prog_14_method_64_code
def yX12_goes : MethodName := ⟨RX12, "goes", "(II)Z"⟩
abbrev cX12_run : ByteArray := prog_14_method_65_code
def yX12_run : MethodName := ⟨RX12, "run", "(I)I"⟩
abbrev cX12_ran : ByteArray := prog_14_method_66_code
def yX12_ran : MethodName := ⟨RX12, "ran", "(I)I"⟩
abbrev cX12_read : ByteArray := prog_14_method_67_code
def yX12_read : MethodName := ⟨RX12, "read", "(II)I"⟩
abbrev cX12_about : ByteArray := prog_14_method_68_code
def yX12_about : MethodName := ⟨RX12, "about", "(I)I"⟩
abbrev cX12_feed : ByteArray := prog_14_method_69_code
def yX12_feed : MethodName := ⟨RX12, "feed", "(IIIII)I"⟩
abbrev cX12_end : ByteArray := prog_14_method_70_code
def yX12_end : MethodName := ⟨RX12, "end", "(I)I"⟩
def RJ6 : String := "java/lang/Integer"
abbrev cJ6_bitCount_0f7a4 : ByteArray := prog_15_method_49_code
def yJ6_bitCount_0f7a4 : MethodName := ⟨RJ6, "bitCount", "(I)I"⟩
def RJ9 : String := "java/lang/Math"
abbrev cJ9_abs_0f7a4 : ByteArray := prog_16_method_59_code
def yJ9_abs_0f7a4 : MethodName := ⟨RJ9, "abs", "(I)I"⟩
abbrev cJ9_min_7cf53 : ByteArray := prog_16_method_69_code
def yJ9_min_7cf53 : MethodName := ⟨RJ9, "min", "(II)I"⟩
def RL : String := "ClickBenchLaw"
abbrev cL_law : ByteArray := code
def yL_law : MethodName := ⟨RL, "law", "([I)Z"⟩
abbrev vwCl : List vw_C := [(RX0, TX0, 3), (RX1, TX1, 4), (RX2, TX2, 5), (RX3, TX3, 4), (RX4, TX4, 2), (RX5, TX5, 17), (RX6, TX6, 6), (RX7, TX7, 6), (RX8, TX8, 4), (RX9, TX9, 2), (RX10, TX10, 8), (RX11, TX11, 13), (RX12, TX12, 57)]
