section
-- ===== PART A: goes FIRST, ahead of the names: the tables' words, and 'selects' of the private methods out of them =====
/-- a private method of a class that the tables say can be made, by its rows of tables_1 -/
def lw_okq (q : MethodName × Nat) : Prop := (q.1.cls ≠ "java/lang/invoke/MethodHandle" ∧ q.1.cls ≠ "java/lang/invoke/VarHandle") ∧ Cond.instantiable q.1.cls q.2 ∈ tables_1 ∧ Cond.privateMethod q.1 ∈ tables_1 ∧ Cond.instanceMethod q.1 ∈ tables_1
theorem lw_p0 : lw_okq (⟨"ClickBench$Tape", "append", "(I)V"⟩, 2) := ⟨⟨by decide +kernel, by decide +kernel⟩, List.mem_of_getElem? (i := 25) (by decide +kernel), List.mem_of_getElem? (i := 234) (by decide +kernel), List.mem_of_getElem? (i := 235) (by decide +kernel)⟩
theorem lw_p1 : lw_okq (⟨"ClickBench$Reader", "readPage", "()LClickBench$Page;"⟩, 6) := ⟨⟨by decide +kernel, by decide +kernel⟩, List.mem_of_getElem? (i := 41) (by decide +kernel), List.mem_of_getElem? (i := 246) (by decide +kernel), List.mem_of_getElem? (i := 247) (by decide +kernel)⟩
theorem lw_p2 : lw_okq (⟨"ClickBench$Tokens", "rewind", "()V"⟩, 8) := ⟨⟨by decide +kernel, by decide +kernel⟩, List.mem_of_getElem? (i := 47) (by decide +kernel), List.mem_of_getElem? (i := 271) (by decide +kernel), List.mem_of_getElem? (i := 272) (by decide +kernel)⟩
theorem lw_p3 : lw_okq (⟨"ClickBench$Tokens", "advance", "()V"⟩, 8) := ⟨⟨by decide +kernel, by decide +kernel⟩, List.mem_of_getElem? (i := 47) (by decide +kernel), List.mem_of_getElem? (i := 275) (by decide +kernel), List.mem_of_getElem? (i := 276) (by decide +kernel)⟩
theorem lw_p4 : lw_okq (⟨"ClickBench$Tape", "byteAt", "(I)I"⟩, 2) := ⟨⟨by decide +kernel, by decide +kernel⟩, List.mem_of_getElem? (i := 25) (by decide +kernel), List.mem_of_getElem? (i := 279) (by decide +kernel), List.mem_of_getElem? (i := 280) (by decide +kernel)⟩
theorem lw_p5 : lw_okq (⟨"ClickBench$Tokens", "takeWord", "()V"⟩, 8) := ⟨⟨by decide +kernel, by decide +kernel⟩, List.mem_of_getElem? (i := 47) (by decide +kernel), List.mem_of_getElem? (i := 289) (by decide +kernel), List.mem_of_getElem? (i := 290) (by decide +kernel)⟩
theorem lw_p6 : lw_okq (⟨"ClickBench$Tokens", "takeText", "()V"⟩, 8) := ⟨⟨by decide +kernel, by decide +kernel⟩, List.mem_of_getElem? (i := 47) (by decide +kernel), List.mem_of_getElem? (i := 293) (by decide +kernel), List.mem_of_getElem? (i := 294) (by decide +kernel)⟩
theorem lw_p7 : lw_okq (⟨"ClickBench$Tokens", "putTextByte", "(I)V"⟩, 8) := ⟨⟨by decide +kernel, by decide +kernel⟩, List.mem_of_getElem? (i := 47) (by decide +kernel), List.mem_of_getElem? (i := 300) (by decide +kernel), List.mem_of_getElem? (i := 301) (by decide +kernel)⟩
theorem lw_p8 : lw_okq (⟨"ClickBench$Reader", "takeToken", "(LClickBench$Page;)Z"⟩, 6) := ⟨⟨by decide +kernel, by decide +kernel⟩, List.mem_of_getElem? (i := 41) (by decide +kernel), List.mem_of_getElem? (i := 307) (by decide +kernel), List.mem_of_getElem? (i := 308) (by decide +kernel)⟩
theorem lw_p9 : lw_okq (⟨"ClickBench$Reader", "takeName", "()Z"⟩, 6) := ⟨⟨by decide +kernel, by decide +kernel⟩, List.mem_of_getElem? (i := 41) (by decide +kernel), List.mem_of_getElem? (i := 311) (by decide +kernel), List.mem_of_getElem? (i := 312) (by decide +kernel)⟩
theorem lw_p10 : lw_okq (⟨"ClickBench$Reader", "takeKind", "(LClickBench$Page;)Z"⟩, 6) := ⟨⟨by decide +kernel, by decide +kernel⟩, List.mem_of_getElem? (i := 41) (by decide +kernel), List.mem_of_getElem? (i := 315) (by decide +kernel), List.mem_of_getElem? (i := 316) (by decide +kernel)⟩
theorem lw_p11 : lw_okq (⟨"ClickBench$Page", "add", "(JLClickBench$Part;LClickBench$Part;)LClickBench$Part;"⟩, 2) := ⟨⟨by decide +kernel, by decide +kernel⟩, List.mem_of_getElem? (i := 250) (by decide +kernel), List.mem_of_getElem? (i := 319) (by decide +kernel), List.mem_of_getElem? (i := 320) (by decide +kernel)⟩
theorem lw_p12 : lw_okq (⟨"ClickBench$Page", "at", "(I)LClickBench$Part;"⟩, 2) := ⟨⟨by decide +kernel, by decide +kernel⟩, List.mem_of_getElem? (i := 250) (by decide +kernel), List.mem_of_getElem? (i := 328) (by decide +kernel), List.mem_of_getElem? (i := 329) (by decide +kernel)⟩
theorem lw_p13 : lw_okq (⟨"ClickBench$Reader", "move", "(II)Z"⟩, 6) := ⟨⟨by decide +kernel, by decide +kernel⟩, List.mem_of_getElem? (i := 41) (by decide +kernel), List.mem_of_getElem? (i := 431) (by decide +kernel), List.mem_of_getElem? (i := 432) (by decide +kernel)⟩
theorem lw_p14 : lw_okq (⟨"ClickBench$Reader", "takeText", "()Z"⟩, 6) := ⟨⟨by decide +kernel, by decide +kernel⟩, List.mem_of_getElem? (i := 41) (by decide +kernel), List.mem_of_getElem? (i := 435) (by decide +kernel), List.mem_of_getElem? (i := 436) (by decide +kernel)⟩
theorem lw_p15 : lw_okq (⟨"ClickBench$Reader", "takeHarm", "()Z"⟩, 6) := ⟨⟨by decide +kernel, by decide +kernel⟩, List.mem_of_getElem? (i := 41) (by decide +kernel), List.mem_of_getElem? (i := 439) (by decide +kernel), List.mem_of_getElem? (i := 440) (by decide +kernel)⟩
def lw_privs_1 : List (MethodName × Nat) := [(⟨"ClickBench$Tape", "append", "(I)V"⟩, 2), (⟨"ClickBench$Reader", "readPage", "()LClickBench$Page;"⟩, 6), (⟨"ClickBench$Tokens", "rewind", "()V"⟩, 8), (⟨"ClickBench$Tokens", "advance", "()V"⟩, 8), (⟨"ClickBench$Tape", "byteAt", "(I)I"⟩, 2), (⟨"ClickBench$Tokens", "takeWord", "()V"⟩, 8), (⟨"ClickBench$Tokens", "takeText", "()V"⟩, 8), (⟨"ClickBench$Tokens", "putTextByte", "(I)V"⟩, 8), (⟨"ClickBench$Reader", "takeToken", "(LClickBench$Page;)Z"⟩, 6), (⟨"ClickBench$Reader", "takeName", "()Z"⟩, 6), (⟨"ClickBench$Reader", "takeKind", "(LClickBench$Page;)Z"⟩, 6), (⟨"ClickBench$Page", "add", "(JLClickBench$Part;LClickBench$Part;)LClickBench$Part;"⟩, 2), (⟨"ClickBench$Page", "at", "(I)LClickBench$Part;"⟩, 2), (⟨"ClickBench$Reader", "move", "(II)Z"⟩, 6), (⟨"ClickBench$Reader", "takeText", "()Z"⟩, 6), (⟨"ClickBench$Reader", "takeHarm", "()Z"⟩, 6)]
theorem lw_r1 : ∀ q ∈ lw_privs_1, lw_okq q := List.forall_mem_cons.mpr ⟨lw_p0, List.forall_mem_cons.mpr ⟨lw_p1, List.forall_mem_cons.mpr ⟨lw_p2, List.forall_mem_cons.mpr ⟨lw_p3, List.forall_mem_cons.mpr ⟨lw_p4, List.forall_mem_cons.mpr ⟨lw_p5, List.forall_mem_cons.mpr ⟨lw_p6, List.forall_mem_cons.mpr ⟨lw_p7, List.forall_mem_cons.mpr ⟨lw_p8, List.forall_mem_cons.mpr ⟨lw_p9, List.forall_mem_cons.mpr ⟨lw_p10, List.forall_mem_cons.mpr ⟨lw_p11, List.forall_mem_cons.mpr ⟨lw_p12, List.forall_mem_cons.mpr ⟨lw_p13, List.forall_mem_cons.mpr ⟨lw_p14, List.forall_mem_cons.mpr ⟨lw_p15, fun _ h => absurd h List.not_mem_nil⟩⟩⟩⟩⟩⟩⟩⟩⟩⟩⟩⟩⟩⟩⟩⟩
theorem lw_p16 : lw_okq (⟨"ClickBench$Reader", "goDown", "()Z"⟩, 6) := ⟨⟨by decide +kernel, by decide +kernel⟩, List.mem_of_getElem? (i := 41) (by decide +kernel), List.mem_of_getElem? (i := 443) (by decide +kernel), List.mem_of_getElem? (i := 444) (by decide +kernel)⟩
theorem lw_p17 : lw_okq (⟨"ClickBench$Reader", "goUp", "()Z"⟩, 6) := ⟨⟨by decide +kernel, by decide +kernel⟩, List.mem_of_getElem? (i := 41) (by decide +kernel), List.mem_of_getElem? (i := 447) (by decide +kernel), List.mem_of_getElem? (i := 448) (by decide +kernel)⟩
theorem lw_p18 : lw_okq (⟨"ClickBench", "partOn", "(II)LClickBench$Part;"⟩, 13) := ⟨⟨by decide +kernel, by decide +kernel⟩, List.mem_of_getElem? (i := 17) (by decide +kernel), List.mem_of_getElem? (i := 459) (by decide +kernel), List.mem_of_getElem? (i := 460) (by decide +kernel)⟩
theorem lw_p19 : lw_okq (⟨"ClickBench", "pageOn", "(I)LClickBench$Page;"⟩, 13) := ⟨⟨by decide +kernel, by decide +kernel⟩, List.mem_of_getElem? (i := 17) (by decide +kernel), List.mem_of_getElem? (i := 463) (by decide +kernel), List.mem_of_getElem? (i := 464) (by decide +kernel)⟩
theorem lw_p20 : lw_okq (⟨"ClickBench$Part", "textByte", "(I)I"⟩, 17) := ⟨⟨by decide +kernel, by decide +kernel⟩, List.mem_of_getElem? (i := 322) (by decide +kernel), List.mem_of_getElem? (i := 478) (by decide +kernel), List.mem_of_getElem? (i := 479) (by decide +kernel)⟩
theorem lw_p21 : lw_okq (⟨"ClickBench", "likenessFor", "(LClickBench$Part;LClickBench$Page;)LClickBench$Likeness;"⟩, 13) := ⟨⟨by decide +kernel, by decide +kernel⟩, List.mem_of_getElem? (i := 17) (by decide +kernel), List.mem_of_getElem? (i := 486) (by decide +kernel), List.mem_of_getElem? (i := 487) (by decide +kernel)⟩
theorem lw_p22 : lw_okq (⟨"ClickBench", "oldestTable", "()LClickBench$Likeness;"⟩, 13) := ⟨⟨by decide +kernel, by decide +kernel⟩, List.mem_of_getElem? (i := 17) (by decide +kernel), List.mem_of_getElem? (i := 490) (by decide +kernel), List.mem_of_getElem? (i := 491) (by decide +kernel)⟩
theorem lw_p23 : lw_okq (⟨"ClickBench$Likeness", "begin", "(LClickBench$Page;LClickBench$Page;)V"⟩, 5) := ⟨⟨by decide +kernel, by decide +kernel⟩, List.mem_of_getElem? (i := 493) (by decide +kernel), List.mem_of_getElem? (i := 517) (by decide +kernel), List.mem_of_getElem? (i := 518) (by decide +kernel)⟩
theorem lw_p24 : lw_okq (⟨"ClickBench$Likeness", "measure", "(LClickBench$Part;)V"⟩, 5) := ⟨⟨by decide +kernel, by decide +kernel⟩, List.mem_of_getElem? (i := 493) (by decide +kernel), List.mem_of_getElem? (i := 521) (by decide +kernel), List.mem_of_getElem? (i := 522) (by decide +kernel)⟩
theorem lw_p25 : lw_okq (⟨"ClickBench$Likeness", "measureKey", "(LClickBench$Part;)V"⟩, 5) := ⟨⟨by decide +kernel, by decide +kernel⟩, List.mem_of_getElem? (i := 493) (by decide +kernel), List.mem_of_getElem? (i := 526) (by decide +kernel), List.mem_of_getElem? (i := 527) (by decide +kernel)⟩
theorem lw_p26 : lw_okq (⟨"ClickBench$Likeness", "measureForests", "(LClickBench$Part;LClickBench$Part;)V"⟩, 5) := ⟨⟨by decide +kernel, by decide +kernel⟩, List.mem_of_getElem? (i := 493) (by decide +kernel), List.mem_of_getElem? (i := 530) (by decide +kernel), List.mem_of_getElem? (i := 531) (by decide +kernel)⟩
theorem lw_p27 : lw_okq (⟨"ClickBench$Part", "hasTextOf", "(LClickBench$Part;)Z"⟩, 17) := ⟨⟨by decide +kernel, by decide +kernel⟩, List.mem_of_getElem? (i := 322) (by decide +kernel), List.mem_of_getElem? (i := 540) (by decide +kernel), List.mem_of_getElem? (i := 541) (by decide +kernel)⟩
theorem lw_p28 : lw_okq (⟨"ClickBench$Likeness", "farOf", "(LClickBench$Part;LClickBench$Part;)I"⟩, 5) := ⟨⟨by decide +kernel, by decide +kernel⟩, List.mem_of_getElem? (i := 493) (by decide +kernel), List.mem_of_getElem? (i := 544) (by decide +kernel), List.mem_of_getElem? (i := 545) (by decide +kernel)⟩
theorem lw_p29 : lw_okq (⟨"ClickBench$Likeness", "costOf", "(LClickBench$Part;LClickBench$Part;)I"⟩, 5) := ⟨⟨by decide +kernel, by decide +kernel⟩, List.mem_of_getElem? (i := 493) (by decide +kernel), List.mem_of_getElem? (i := 552) (by decide +kernel), List.mem_of_getElem? (i := 553) (by decide +kernel)⟩
theorem lw_p30 : lw_okq (⟨"ClickBench$Finding", "look", "(LClickBench$Part;LClickBench$Page;LClickBench$Likeness;I)I"⟩, 4) := ⟨⟨by decide +kernel, by decide +kernel⟩, List.mem_of_getElem? (i := 109) (by decide +kernel), List.mem_of_getElem? (i := 568) (by decide +kernel), List.mem_of_getElem? (i := 569) (by decide +kernel)⟩
theorem lw_p31 : lw_okq (⟨"ClickBench$Page", "countFitting", "(LClickBench$Part;I)I"⟩, 2) := ⟨⟨by decide +kernel, by decide +kernel⟩, List.mem_of_getElem? (i := 250) (by decide +kernel), List.mem_of_getElem? (i := 585) (by decide +kernel), List.mem_of_getElem? (i := 586) (by decide +kernel)⟩
def lw_privs_2 : List (MethodName × Nat) := [(⟨"ClickBench$Reader", "goDown", "()Z"⟩, 6), (⟨"ClickBench$Reader", "goUp", "()Z"⟩, 6), (⟨"ClickBench", "partOn", "(II)LClickBench$Part;"⟩, 13), (⟨"ClickBench", "pageOn", "(I)LClickBench$Page;"⟩, 13), (⟨"ClickBench$Part", "textByte", "(I)I"⟩, 17), (⟨"ClickBench", "likenessFor", "(LClickBench$Part;LClickBench$Page;)LClickBench$Likeness;"⟩, 13), (⟨"ClickBench", "oldestTable", "()LClickBench$Likeness;"⟩, 13), (⟨"ClickBench$Likeness", "begin", "(LClickBench$Page;LClickBench$Page;)V"⟩, 5), (⟨"ClickBench$Likeness", "measure", "(LClickBench$Part;)V"⟩, 5), (⟨"ClickBench$Likeness", "measureKey", "(LClickBench$Part;)V"⟩, 5), (⟨"ClickBench$Likeness", "measureForests", "(LClickBench$Part;LClickBench$Part;)V"⟩, 5), (⟨"ClickBench$Part", "hasTextOf", "(LClickBench$Part;)Z"⟩, 17), (⟨"ClickBench$Likeness", "farOf", "(LClickBench$Part;LClickBench$Part;)I"⟩, 5), (⟨"ClickBench$Likeness", "costOf", "(LClickBench$Part;LClickBench$Part;)I"⟩, 5), (⟨"ClickBench$Finding", "look", "(LClickBench$Part;LClickBench$Page;LClickBench$Likeness;I)I"⟩, 4), (⟨"ClickBench$Page", "countFitting", "(LClickBench$Part;I)I"⟩, 2)]
theorem lw_r2 : ∀ q ∈ lw_privs_2, lw_okq q := List.forall_mem_cons.mpr ⟨lw_p16, List.forall_mem_cons.mpr ⟨lw_p17, List.forall_mem_cons.mpr ⟨lw_p18, List.forall_mem_cons.mpr ⟨lw_p19, List.forall_mem_cons.mpr ⟨lw_p20, List.forall_mem_cons.mpr ⟨lw_p21, List.forall_mem_cons.mpr ⟨lw_p22, List.forall_mem_cons.mpr ⟨lw_p23, List.forall_mem_cons.mpr ⟨lw_p24, List.forall_mem_cons.mpr ⟨lw_p25, List.forall_mem_cons.mpr ⟨lw_p26, List.forall_mem_cons.mpr ⟨lw_p27, List.forall_mem_cons.mpr ⟨lw_p28, List.forall_mem_cons.mpr ⟨lw_p29, List.forall_mem_cons.mpr ⟨lw_p30, List.forall_mem_cons.mpr ⟨lw_p31, fun _ h => absurd h List.not_mem_nil⟩⟩⟩⟩⟩⟩⟩⟩⟩⟩⟩⟩⟩⟩⟩⟩
theorem lw_p32 : lw_okq (⟨"ClickBench$Part", "fitsMarksOf", "(LClickBench$Part;I)Z"⟩, 17) := ⟨⟨by decide +kernel, by decide +kernel⟩, List.mem_of_getElem? (i := 322) (by decide +kernel), List.mem_of_getElem? (i := 590) (by decide +kernel), List.mem_of_getElem? (i := 591) (by decide +kernel)⟩
theorem lw_p33 : lw_okq (⟨"ClickBench$Part", "marksSharedWith", "(LClickBench$Part;)I"⟩, 17) := ⟨⟨by decide +kernel, by decide +kernel⟩, List.mem_of_getElem? (i := 322) (by decide +kernel), List.mem_of_getElem? (i := 594) (by decide +kernel), List.mem_of_getElem? (i := 595) (by decide +kernel)⟩
theorem lw_p34 : lw_okq (⟨"ClickBench$Part", "hasPathOf", "(LClickBench$Part;II)Z"⟩, 17) := ⟨⟨by decide +kernel, by decide +kernel⟩, List.mem_of_getElem? (i := 322) (by decide +kernel), List.mem_of_getElem? (i := 608) (by decide +kernel), List.mem_of_getElem? (i := 609) (by decide +kernel)⟩
theorem lw_p35 : lw_okq (⟨"ClickBench$Page", "fitting", "(LClickBench$Part;II)LClickBench$Part;"⟩, 2) := ⟨⟨by decide +kernel, by decide +kernel⟩, List.mem_of_getElem? (i := 250) (by decide +kernel), List.mem_of_getElem? (i := 616) (by decide +kernel), List.mem_of_getElem? (i := 617) (by decide +kernel)⟩
theorem lw_p36 : lw_okq (⟨"ClickBench$Samples", "add", "(LClickBench$Part;)V"⟩, 4) := ⟨⟨by decide +kernel, by decide +kernel⟩, List.mem_of_getElem? (i := 133) (by decide +kernel), List.mem_of_getElem? (i := 624) (by decide +kernel), List.mem_of_getElem? (i := 625) (by decide +kernel)⟩
theorem lw_p37 : lw_okq (⟨"ClickBench$Samples", "first", "()LClickBench$Part;"⟩, 4) := ⟨⟨by decide +kernel, by decide +kernel⟩, List.mem_of_getElem? (i := 133) (by decide +kernel), List.mem_of_getElem? (i := 628) (by decide +kernel), List.mem_of_getElem? (i := 629) (by decide +kernel)⟩
theorem lw_p38 : lw_okq (⟨"ClickBench$Samples", "noteShared", "(I)V"⟩, 4) := ⟨⟨by decide +kernel, by decide +kernel⟩, List.mem_of_getElem? (i := 133) (by decide +kernel), List.mem_of_getElem? (i := 634) (by decide +kernel), List.mem_of_getElem? (i := 635) (by decide +kernel)⟩
theorem lw_p39 : lw_okq (⟨"ClickBench$Samples", "dropAll", "()V"⟩, 4) := ⟨⟨by decide +kernel, by decide +kernel⟩, List.mem_of_getElem? (i := 133) (by decide +kernel), List.mem_of_getElem? (i := 642) (by decide +kernel), List.mem_of_getElem? (i := 643) (by decide +kernel)⟩
theorem lw_p40 : lw_okq (⟨"ClickBench$Samples", "leastMarks", "()I"⟩, 4) := ⟨⟨by decide +kernel, by decide +kernel⟩, List.mem_of_getElem? (i := 133) (by decide +kernel), List.mem_of_getElem? (i := 654) (by decide +kernel), List.mem_of_getElem? (i := 655) (by decide +kernel)⟩
theorem lw_p41 : lw_okq (⟨"ClickBench", "loopOn", "(III)LClickBench$Loop;"⟩, 13) := ⟨⟨by decide +kernel, by decide +kernel⟩, List.mem_of_getElem? (i := 17) (by decide +kernel), List.mem_of_getElem? (i := 673) (by decide +kernel), List.mem_of_getElem? (i := 674) (by decide +kernel)⟩
theorem lw_p42 : lw_okq (⟨"ClickBench$Loop", "countRows", "(LClickBench$Page;)I"⟩, 4) := ⟨⟨by decide +kernel, by decide +kernel⟩, List.mem_of_getElem? (i := 681) (by decide +kernel), List.mem_of_getElem? (i := 704) (by decide +kernel), List.mem_of_getElem? (i := 705) (by decide +kernel)⟩
theorem lw_p43 : lw_okq (⟨"ClickBench$Loop", "stepOn", "(LClickBench$Page;I)LClickBench$Part;"⟩, 4) := ⟨⟨by decide +kernel, by decide +kernel⟩, List.mem_of_getElem? (i := 681) (by decide +kernel), List.mem_of_getElem? (i := 708) (by decide +kernel), List.mem_of_getElem? (i := 709) (by decide +kernel)⟩
theorem lw_p44 : lw_okq (⟨"ClickBench$Loop", "rowOn", "(LClickBench$Page;I)LClickBench$Part;"⟩, 4) := ⟨⟨by decide +kernel, by decide +kernel⟩, List.mem_of_getElem? (i := 681) (by decide +kernel), List.mem_of_getElem? (i := 718) (by decide +kernel), List.mem_of_getElem? (i := 719) (by decide +kernel)⟩
theorem lw_p45 : lw_okq (⟨"ClickBench", "tell", "(ZLClickBench$Part;LClickBench$Loop;)I"⟩, 13) := ⟨⟨by decide +kernel, by decide +kernel⟩, List.mem_of_getElem? (i := 17) (by decide +kernel), List.mem_of_getElem? (i := 726) (by decide +kernel), List.mem_of_getElem? (i := 727) (by decide +kernel)⟩
theorem lw_p46 : lw_okq (⟨"ClickBench$Run", "begin", "()V"⟩, 6) := ⟨⟨by decide +kernel, by decide +kernel⟩, List.mem_of_getElem? (i := 159) (by decide +kernel), List.mem_of_getElem? (i := 760) (by decide +kernel), List.mem_of_getElem? (i := 761) (by decide +kernel)⟩
theorem lw_p47 : lw_okq (⟨"ClickBench", "perform", "(LClickBench$Act;LClickBench$Page;)Z"⟩, 13) := ⟨⟨by decide +kernel, by decide +kernel⟩, List.mem_of_getElem? (i := 17) (by decide +kernel), List.mem_of_getElem? (i := 764) (by decide +kernel), List.mem_of_getElem? (i := 765) (by decide +kernel)⟩
def lw_privs_3 : List (MethodName × Nat) := [(⟨"ClickBench$Part", "fitsMarksOf", "(LClickBench$Part;I)Z"⟩, 17), (⟨"ClickBench$Part", "marksSharedWith", "(LClickBench$Part;)I"⟩, 17), (⟨"ClickBench$Part", "hasPathOf", "(LClickBench$Part;II)Z"⟩, 17), (⟨"ClickBench$Page", "fitting", "(LClickBench$Part;II)LClickBench$Part;"⟩, 2), (⟨"ClickBench$Samples", "add", "(LClickBench$Part;)V"⟩, 4), (⟨"ClickBench$Samples", "first", "()LClickBench$Part;"⟩, 4), (⟨"ClickBench$Samples", "noteShared", "(I)V"⟩, 4), (⟨"ClickBench$Samples", "dropAll", "()V"⟩, 4), (⟨"ClickBench$Samples", "leastMarks", "()I"⟩, 4), (⟨"ClickBench", "loopOn", "(III)LClickBench$Loop;"⟩, 13), (⟨"ClickBench$Loop", "countRows", "(LClickBench$Page;)I"⟩, 4), (⟨"ClickBench$Loop", "stepOn", "(LClickBench$Page;I)LClickBench$Part;"⟩, 4), (⟨"ClickBench$Loop", "rowOn", "(LClickBench$Page;I)LClickBench$Part;"⟩, 4), (⟨"ClickBench", "tell", "(ZLClickBench$Part;LClickBench$Loop;)I"⟩, 13), (⟨"ClickBench$Run", "begin", "()V"⟩, 6), (⟨"ClickBench", "perform", "(LClickBench$Act;LClickBench$Page;)Z"⟩, 13)]
theorem lw_r3 : ∀ q ∈ lw_privs_3, lw_okq q := List.forall_mem_cons.mpr ⟨lw_p32, List.forall_mem_cons.mpr ⟨lw_p33, List.forall_mem_cons.mpr ⟨lw_p34, List.forall_mem_cons.mpr ⟨lw_p35, List.forall_mem_cons.mpr ⟨lw_p36, List.forall_mem_cons.mpr ⟨lw_p37, List.forall_mem_cons.mpr ⟨lw_p38, List.forall_mem_cons.mpr ⟨lw_p39, List.forall_mem_cons.mpr ⟨lw_p40, List.forall_mem_cons.mpr ⟨lw_p41, List.forall_mem_cons.mpr ⟨lw_p42, List.forall_mem_cons.mpr ⟨lw_p43, List.forall_mem_cons.mpr ⟨lw_p44, List.forall_mem_cons.mpr ⟨lw_p45, List.forall_mem_cons.mpr ⟨lw_p46, List.forall_mem_cons.mpr ⟨lw_p47, fun _ h => absurd h List.not_mem_nil⟩⟩⟩⟩⟩⟩⟩⟩⟩⟩⟩⟩⟩⟩⟩⟩
theorem lw_p48 : lw_okq (⟨"ClickBench", "performRows", "(LClickBench$Loop;ZLClickBench$Page;)Z"⟩, 13) := ⟨⟨by decide +kernel, by decide +kernel⟩, List.mem_of_getElem? (i := 17) (by decide +kernel), List.mem_of_getElem? (i := 768) (by decide +kernel), List.mem_of_getElem? (i := 769) (by decide +kernel)⟩
theorem lw_p49 : lw_okq (⟨"ClickBench$Run", "take", "(LClickBench$Part;Z)Z"⟩, 6) := ⟨⟨by decide +kernel, by decide +kernel⟩, List.mem_of_getElem? (i := 159) (by decide +kernel), List.mem_of_getElem? (i := 773) (by decide +kernel), List.mem_of_getElem? (i := 774) (by decide +kernel)⟩
theorem lw_p50 : lw_okq (⟨"ClickBench$Run", "keep", "(LClickBench$Part;)V"⟩, 6) := ⟨⟨by decide +kernel, by decide +kernel⟩, List.mem_of_getElem? (i := 159) (by decide +kernel), List.mem_of_getElem? (i := 777) (by decide +kernel), List.mem_of_getElem? (i := 778) (by decide +kernel)⟩
theorem lw_p51 : lw_okq (⟨"ClickBench$Part", "isHarmful", "()Z"⟩, 17) := ⟨⟨by decide +kernel, by decide +kernel⟩, List.mem_of_getElem? (i := 322) (by decide +kernel), List.mem_of_getElem? (i := 781) (by decide +kernel), List.mem_of_getElem? (i := 782) (by decide +kernel)⟩
theorem lw_p52 : lw_okq (⟨"ClickBench$Run", "stop", "(ILClickBench$Part;)Z"⟩, 6) := ⟨⟨by decide +kernel, by decide +kernel⟩, List.mem_of_getElem? (i := 159) (by decide +kernel), List.mem_of_getElem? (i := 785) (by decide +kernel), List.mem_of_getElem? (i := 786) (by decide +kernel)⟩
theorem lw_p53 : lw_okq (⟨"ClickBench$Run", "keptAt", "(I)LClickBench$Part;"⟩, 6) := ⟨⟨by decide +kernel, by decide +kernel⟩, List.mem_of_getElem? (i := 159) (by decide +kernel), List.mem_of_getElem? (i := 798) (by decide +kernel), List.mem_of_getElem? (i := 799) (by decide +kernel)⟩
theorem lw_p54 : lw_okq (⟨"ClickBenchModel", "readPage", "()V"⟩, 57) := ⟨⟨by decide +kernel, by decide +kernel⟩, List.mem_of_getElem? (i := 806) (by decide +kernel), List.mem_of_getElem? (i := 992) (by decide +kernel), List.mem_of_getElem? (i := 993) (by decide +kernel)⟩
theorem lw_p55 : lw_okq (⟨"ClickBenchModel", "next", "()V"⟩, 57) := ⟨⟨by decide +kernel, by decide +kernel⟩, List.mem_of_getElem? (i := 806) (by decide +kernel), List.mem_of_getElem? (i := 996) (by decide +kernel), List.mem_of_getElem? (i := 997) (by decide +kernel)⟩
theorem lw_p56 : lw_okq (⟨"ClickBenchModel", "sign", "(I)I"⟩, 57) := ⟨⟨by decide +kernel, by decide +kernel⟩, List.mem_of_getElem? (i := 806) (by decide +kernel), List.mem_of_getElem? (i := 1000) (by decide +kernel), List.mem_of_getElem? (i := 1001) (by decide +kernel)⟩
theorem lw_p57 : lw_okq (⟨"ClickBenchModel", "readPart", "()V"⟩, 57) := ⟨⟨by decide +kernel, by decide +kernel⟩, List.mem_of_getElem? (i := 806) (by decide +kernel), List.mem_of_getElem? (i := 1007) (by decide +kernel), List.mem_of_getElem? (i := 1008) (by decide +kernel)⟩
theorem lw_p58 : lw_okq (⟨"ClickBenchModel", "wrong", "()V"⟩, 57) := ⟨⟨by decide +kernel, by decide +kernel⟩, List.mem_of_getElem? (i := 806) (by decide +kernel), List.mem_of_getElem? (i := 1011) (by decide +kernel), List.mem_of_getElem? (i := 1012) (by decide +kernel)⟩
theorem lw_p59 : lw_okq (⟨"ClickBenchModel", "fails", "(II)V"⟩, 57) := ⟨⟨by decide +kernel, by decide +kernel⟩, List.mem_of_getElem? (i := 806) (by decide +kernel), List.mem_of_getElem? (i := 1015) (by decide +kernel), List.mem_of_getElem? (i := 1016) (by decide +kernel)⟩
theorem lw_p60 : lw_okq (⟨"ClickBenchModel", "isGood", "()Z"⟩, 57) := ⟨⟨by decide +kernel, by decide +kernel⟩, List.mem_of_getElem? (i := 806) (by decide +kernel), List.mem_of_getElem? (i := 1019) (by decide +kernel), List.mem_of_getElem? (i := 1020) (by decide +kernel)⟩
theorem lw_p61 : lw_okq (⟨"ClickBenchModel", "is", "(I)Z"⟩, 57) := ⟨⟨by decide +kernel, by decide +kernel⟩, List.mem_of_getElem? (i := 806) (by decide +kernel), List.mem_of_getElem? (i := 1026) (by decide +kernel), List.mem_of_getElem? (i := 1027) (by decide +kernel)⟩
theorem lw_p62 : lw_okq (⟨"ClickBenchModel", "measure", "()V"⟩, 57) := ⟨⟨by decide +kernel, by decide +kernel⟩, List.mem_of_getElem? (i := 806) (by decide +kernel), List.mem_of_getElem? (i := 1030) (by decide +kernel), List.mem_of_getElem? (i := 1031) (by decide +kernel)⟩
theorem lw_p63 : lw_okq (⟨"ClickBenchModel", "isUnder", "(III)Z"⟩, 57) := ⟨⟨by decide +kernel, by decide +kernel⟩, List.mem_of_getElem? (i := 806) (by decide +kernel), List.mem_of_getElem? (i := 1034) (by decide +kernel), List.mem_of_getElem? (i := 1035) (by decide +kernel)⟩
def lw_privs_4 : List (MethodName × Nat) := [(⟨"ClickBench", "performRows", "(LClickBench$Loop;ZLClickBench$Page;)Z"⟩, 13), (⟨"ClickBench$Run", "take", "(LClickBench$Part;Z)Z"⟩, 6), (⟨"ClickBench$Run", "keep", "(LClickBench$Part;)V"⟩, 6), (⟨"ClickBench$Part", "isHarmful", "()Z"⟩, 17), (⟨"ClickBench$Run", "stop", "(ILClickBench$Part;)Z"⟩, 6), (⟨"ClickBench$Run", "keptAt", "(I)LClickBench$Part;"⟩, 6), (⟨"ClickBenchModel", "readPage", "()V"⟩, 57), (⟨"ClickBenchModel", "next", "()V"⟩, 57), (⟨"ClickBenchModel", "sign", "(I)I"⟩, 57), (⟨"ClickBenchModel", "readPart", "()V"⟩, 57), (⟨"ClickBenchModel", "wrong", "()V"⟩, 57), (⟨"ClickBenchModel", "fails", "(II)V"⟩, 57), (⟨"ClickBenchModel", "isGood", "()Z"⟩, 57), (⟨"ClickBenchModel", "is", "(I)Z"⟩, 57), (⟨"ClickBenchModel", "measure", "()V"⟩, 57), (⟨"ClickBenchModel", "isUnder", "(III)Z"⟩, 57)]
theorem lw_r4 : ∀ q ∈ lw_privs_4, lw_okq q := List.forall_mem_cons.mpr ⟨lw_p48, List.forall_mem_cons.mpr ⟨lw_p49, List.forall_mem_cons.mpr ⟨lw_p50, List.forall_mem_cons.mpr ⟨lw_p51, List.forall_mem_cons.mpr ⟨lw_p52, List.forall_mem_cons.mpr ⟨lw_p53, List.forall_mem_cons.mpr ⟨lw_p54, List.forall_mem_cons.mpr ⟨lw_p55, List.forall_mem_cons.mpr ⟨lw_p56, List.forall_mem_cons.mpr ⟨lw_p57, List.forall_mem_cons.mpr ⟨lw_p58, List.forall_mem_cons.mpr ⟨lw_p59, List.forall_mem_cons.mpr ⟨lw_p60, List.forall_mem_cons.mpr ⟨lw_p61, List.forall_mem_cons.mpr ⟨lw_p62, List.forall_mem_cons.mpr ⟨lw_p63, fun _ h => absurd h List.not_mem_nil⟩⟩⟩⟩⟩⟩⟩⟩⟩⟩⟩⟩⟩⟩⟩⟩
theorem lw_p64 : lw_okq (⟨"ClickBenchModel", "copyPage", "(II)V"⟩, 57) := ⟨⟨by decide +kernel, by decide +kernel⟩, List.mem_of_getElem? (i := 806) (by decide +kernel), List.mem_of_getElem? (i := 1038) (by decide +kernel), List.mem_of_getElem? (i := 1039) (by decide +kernel)⟩
theorem lw_p65 : lw_okq (⟨"ClickBenchModel", "isPart", "(II)Z"⟩, 57) := ⟨⟨by decide +kernel, by decide +kernel⟩, List.mem_of_getElem? (i := 806) (by decide +kernel), List.mem_of_getElem? (i := 1050) (by decide +kernel), List.mem_of_getElem? (i := 1051) (by decide +kernel)⟩
theorem lw_p66 : lw_okq (⟨"ClickBenchModel", "left", "(II)I"⟩, 57) := ⟨⟨by decide +kernel, by decide +kernel⟩, List.mem_of_getElem? (i := 806) (by decide +kernel), List.mem_of_getElem? (i := 1054) (by decide +kernel), List.mem_of_getElem? (i := 1055) (by decide +kernel)⟩
theorem lw_p67 : lw_okq (⟨"ClickBenchModel", "right", "(II)I"⟩, 57) := ⟨⟨by decide +kernel, by decide +kernel⟩, List.mem_of_getElem? (i := 806) (by decide +kernel), List.mem_of_getElem? (i := 1058) (by decide +kernel), List.mem_of_getElem? (i := 1059) (by decide +kernel)⟩
theorem lw_p68 : lw_okq (⟨"ClickBenchModel", "label", "(II)I"⟩, 57) := ⟨⟨by decide +kernel, by decide +kernel⟩, List.mem_of_getElem? (i := 806) (by decide +kernel), List.mem_of_getElem? (i := 1062) (by decide +kernel), List.mem_of_getElem? (i := 1063) (by decide +kernel)⟩
theorem lw_p69 : lw_okq (⟨"ClickBenchModel", "measureAll", "(II)V"⟩, 57) := ⟨⟨by decide +kernel, by decide +kernel⟩, List.mem_of_getElem? (i := 806) (by decide +kernel), List.mem_of_getElem? (i := 1079) (by decide +kernel), List.mem_of_getElem? (i := 1080) (by decide +kernel)⟩
theorem lw_p70 : lw_okq (⟨"ClickBenchModel", "measureOne", "(IIII)I"⟩, 57) := ⟨⟨by decide +kernel, by decide +kernel⟩, List.mem_of_getElem? (i := 806) (by decide +kernel), List.mem_of_getElem? (i := 1083) (by decide +kernel), List.mem_of_getElem? (i := 1084) (by decide +kernel)⟩
theorem lw_p71 : lw_okq (⟨"ClickBenchModel", "change", "(II)I"⟩, 57) := ⟨⟨by decide +kernel, by decide +kernel⟩, List.mem_of_getElem? (i := 806) (by decide +kernel), List.mem_of_getElem? (i := 1087) (by decide +kernel), List.mem_of_getElem? (i := 1088) (by decide +kernel)⟩
theorem lw_p72 : lw_okq (⟨"ClickBenchModel", "areSameWords", "(II)Z"⟩, 57) := ⟨⟨by decide +kernel, by decide +kernel⟩, List.mem_of_getElem? (i := 806) (by decide +kernel), List.mem_of_getElem? (i := 1091) (by decide +kernel), List.mem_of_getElem? (i := 1092) (by decide +kernel)⟩
theorem lw_p73 : lw_okq (⟨"ClickBenchModel", "costOf", "(IIII)I"⟩, 57) := ⟨⟨by decide +kernel, by decide +kernel⟩, List.mem_of_getElem? (i := 806) (by decide +kernel), List.mem_of_getElem? (i := 1099) (by decide +kernel), List.mem_of_getElem? (i := 1100) (by decide +kernel)⟩
theorem lw_p74 : lw_okq (⟨"ClickBenchModel", "beside", "(IIII)I"⟩, 57) := ⟨⟨by decide +kernel, by decide +kernel⟩, List.mem_of_getElem? (i := 806) (by decide +kernel), List.mem_of_getElem? (i := 1103) (by decide +kernel), List.mem_of_getElem? (i := 1104) (by decide +kernel)⟩
theorem lw_p75 : lw_okq (⟨"ClickBenchModel", "hasPage", "(I)Z"⟩, 57) := ⟨⟨by decide +kernel, by decide +kernel⟩, List.mem_of_getElem? (i := 806) (by decide +kernel), List.mem_of_getElem? (i := 1115) (by decide +kernel), List.mem_of_getElem? (i := 1116) (by decide +kernel)⟩
theorem lw_p76 : lw_okq (⟨"ClickBenchModel", "seek", "(III)I"⟩, 57) := ⟨⟨by decide +kernel, by decide +kernel⟩, List.mem_of_getElem? (i := 806) (by decide +kernel), List.mem_of_getElem? (i := 1119) (by decide +kernel), List.mem_of_getElem? (i := 1120) (by decide +kernel)⟩
theorem lw_p77 : lw_okq (⟨"ClickBenchModel", "alike", "(IIII)I"⟩, 57) := ⟨⟨by decide +kernel, by decide +kernel⟩, List.mem_of_getElem? (i := 806) (by decide +kernel), List.mem_of_getElem? (i := 1131) (by decide +kernel), List.mem_of_getElem? (i := 1132) (by decide +kernel)⟩
theorem lw_p78 : lw_okq (⟨"ClickBenchModel", "kindAbove", "(II)J"⟩, 57) := ⟨⟨by decide +kernel, by decide +kernel⟩, List.mem_of_getElem? (i := 806) (by decide +kernel), List.mem_of_getElem? (i := 1135) (by decide +kernel), List.mem_of_getElem? (i := 1136) (by decide +kernel)⟩
theorem lw_p79 : lw_okq (⟨"ClickBenchModel", "titleAbove", "(II)J"⟩, 57) := ⟨⟨by decide +kernel, by decide +kernel⟩, List.mem_of_getElem? (i := 806) (by decide +kernel), List.mem_of_getElem? (i := 1139) (by decide +kernel), List.mem_of_getElem? (i := 1140) (by decide +kernel)⟩
def lw_privs_5 : List (MethodName × Nat) := [(⟨"ClickBenchModel", "copyPage", "(II)V"⟩, 57), (⟨"ClickBenchModel", "isPart", "(II)Z"⟩, 57), (⟨"ClickBenchModel", "left", "(II)I"⟩, 57), (⟨"ClickBenchModel", "right", "(II)I"⟩, 57), (⟨"ClickBenchModel", "label", "(II)I"⟩, 57), (⟨"ClickBenchModel", "measureAll", "(II)V"⟩, 57), (⟨"ClickBenchModel", "measureOne", "(IIII)I"⟩, 57), (⟨"ClickBenchModel", "change", "(II)I"⟩, 57), (⟨"ClickBenchModel", "areSameWords", "(II)Z"⟩, 57), (⟨"ClickBenchModel", "costOf", "(IIII)I"⟩, 57), (⟨"ClickBenchModel", "beside", "(IIII)I"⟩, 57), (⟨"ClickBenchModel", "hasPage", "(I)Z"⟩, 57), (⟨"ClickBenchModel", "seek", "(III)I"⟩, 57), (⟨"ClickBenchModel", "alike", "(IIII)I"⟩, 57), (⟨"ClickBenchModel", "kindAbove", "(II)J"⟩, 57), (⟨"ClickBenchModel", "titleAbove", "(II)J"⟩, 57)]
theorem lw_r5 : ∀ q ∈ lw_privs_5, lw_okq q := List.forall_mem_cons.mpr ⟨lw_p64, List.forall_mem_cons.mpr ⟨lw_p65, List.forall_mem_cons.mpr ⟨lw_p66, List.forall_mem_cons.mpr ⟨lw_p67, List.forall_mem_cons.mpr ⟨lw_p68, List.forall_mem_cons.mpr ⟨lw_p69, List.forall_mem_cons.mpr ⟨lw_p70, List.forall_mem_cons.mpr ⟨lw_p71, List.forall_mem_cons.mpr ⟨lw_p72, List.forall_mem_cons.mpr ⟨lw_p73, List.forall_mem_cons.mpr ⟨lw_p74, List.forall_mem_cons.mpr ⟨lw_p75, List.forall_mem_cons.mpr ⟨lw_p76, List.forall_mem_cons.mpr ⟨lw_p77, List.forall_mem_cons.mpr ⟨lw_p78, List.forall_mem_cons.mpr ⟨lw_p79, fun _ h => absurd h List.not_mem_nil⟩⟩⟩⟩⟩⟩⟩⟩⟩⟩⟩⟩⟩⟩⟩⟩
theorem lw_p80 : lw_okq (⟨"ClickBenchModel", "areLabels", "(IIII)Z"⟩, 57) := ⟨⟨by decide +kernel, by decide +kernel⟩, List.mem_of_getElem? (i := 806) (by decide +kernel), List.mem_of_getElem? (i := 1143) (by decide +kernel), List.mem_of_getElem? (i := 1144) (by decide +kernel)⟩
theorem lw_p81 : lw_okq (⟨"ClickBenchModel", "arePaths", "(IIII)Z"⟩, 57) := ⟨⟨by decide +kernel, by decide +kernel⟩, List.mem_of_getElem? (i := 806) (by decide +kernel), List.mem_of_getElem? (i := 1147) (by decide +kernel), List.mem_of_getElem? (i := 1148) (by decide +kernel)⟩
theorem lw_p82 : lw_okq (⟨"ClickBenchModel", "lookAtSamples", "()V"⟩, 57) := ⟨⟨by decide +kernel, by decide +kernel⟩, List.mem_of_getElem? (i := 806) (by decide +kernel), List.mem_of_getElem? (i := 1172) (by decide +kernel), List.mem_of_getElem? (i := 1173) (by decide +kernel)⟩
theorem lw_p83 : lw_okq (⟨"ClickBenchModel", "tells", "(I)Z"⟩, 57) := ⟨⟨by decide +kernel, by decide +kernel⟩, List.mem_of_getElem? (i := 806) (by decide +kernel), List.mem_of_getElem? (i := 1179) (by decide +kernel), List.mem_of_getElem? (i := 1180) (by decide +kernel)⟩
theorem lw_p84 : lw_okq (⟨"ClickBenchModel", "lay", "(IIII)Z"⟩, 57) := ⟨⟨by decide +kernel, by decide +kernel⟩, List.mem_of_getElem? (i := 806) (by decide +kernel), List.mem_of_getElem? (i := 1192) (by decide +kernel), List.mem_of_getElem? (i := 1193) (by decide +kernel)⟩
theorem lw_p85 : lw_okq (⟨"ClickBenchModel", "rowsOf", "(II)I"⟩, 57) := ⟨⟨by decide +kernel, by decide +kernel⟩, List.mem_of_getElem? (i := 806) (by decide +kernel), List.mem_of_getElem? (i := 1196) (by decide +kernel), List.mem_of_getElem? (i := 1197) (by decide +kernel)⟩
theorem lw_p86 : lw_okq (⟨"ClickBenchModel", "rowOf", "(III)I"⟩, 57) := ⟨⟨by decide +kernel, by decide +kernel⟩, List.mem_of_getElem? (i := 806) (by decide +kernel), List.mem_of_getElem? (i := 1200) (by decide +kernel), List.mem_of_getElem? (i := 1201) (by decide +kernel)⟩
theorem lw_p87 : lw_okq (⟨"ClickBenchModel", "child", "(IIJI)I"⟩, 57) := ⟨⟨by decide +kernel, by decide +kernel⟩, List.mem_of_getElem? (i := 806) (by decide +kernel), List.mem_of_getElem? (i := 1204) (by decide +kernel), List.mem_of_getElem? (i := 1205) (by decide +kernel)⟩
theorem lw_p88 : lw_okq (⟨"ClickBenchModel", "goes", "(II)Z"⟩, 57) := ⟨⟨by decide +kernel, by decide +kernel⟩, List.mem_of_getElem? (i := 806) (by decide +kernel), List.mem_of_getElem? (i := 1229) (by decide +kernel), List.mem_of_getElem? (i := 1230) (by decide +kernel)⟩
theorem lw_p89 : lw_okq (⟨"ClickBenchModel", "does", "(III)Z"⟩, 57) := ⟨⟨by decide +kernel, by decide +kernel⟩, List.mem_of_getElem? (i := 806) (by decide +kernel), List.mem_of_getElem? (i := 1233) (by decide +kernel), List.mem_of_getElem? (i := 1234) (by decide +kernel)⟩
theorem lw_p90 : lw_okq (⟨"ClickBenchModel", "isInHarm", "(II)Z"⟩, 57) := ⟨⟨by decide +kernel, by decide +kernel⟩, List.mem_of_getElem? (i := 806) (by decide +kernel), List.mem_of_getElem? (i := 1237) (by decide +kernel), List.mem_of_getElem? (i := 1238) (by decide +kernel)⟩
def lw_privs_6 : List (MethodName × Nat) := [(⟨"ClickBenchModel", "areLabels", "(IIII)Z"⟩, 57), (⟨"ClickBenchModel", "arePaths", "(IIII)Z"⟩, 57), (⟨"ClickBenchModel", "lookAtSamples", "()V"⟩, 57), (⟨"ClickBenchModel", "tells", "(I)Z"⟩, 57), (⟨"ClickBenchModel", "lay", "(IIII)Z"⟩, 57), (⟨"ClickBenchModel", "rowsOf", "(II)I"⟩, 57), (⟨"ClickBenchModel", "rowOf", "(III)I"⟩, 57), (⟨"ClickBenchModel", "child", "(IIJI)I"⟩, 57), (⟨"ClickBenchModel", "goes", "(II)Z"⟩, 57), (⟨"ClickBenchModel", "does", "(III)Z"⟩, 57), (⟨"ClickBenchModel", "isInHarm", "(II)Z"⟩, 57)]
theorem lw_r6 : ∀ q ∈ lw_privs_6, lw_okq q := List.forall_mem_cons.mpr ⟨lw_p80, List.forall_mem_cons.mpr ⟨lw_p81, List.forall_mem_cons.mpr ⟨lw_p82, List.forall_mem_cons.mpr ⟨lw_p83, List.forall_mem_cons.mpr ⟨lw_p84, List.forall_mem_cons.mpr ⟨lw_p85, List.forall_mem_cons.mpr ⟨lw_p86, List.forall_mem_cons.mpr ⟨lw_p87, List.forall_mem_cons.mpr ⟨lw_p88, List.forall_mem_cons.mpr ⟨lw_p89, List.forall_mem_cons.mpr ⟨lw_p90, fun _ h => absurd h List.not_mem_nil⟩⟩⟩⟩⟩⟩⟩⟩⟩⟩⟩
def lw_privs : List (MethodName × Nat) := lw_privs_1 ++ (lw_privs_2 ++ (lw_privs_3 ++ (lw_privs_4 ++ (lw_privs_5 ++ (lw_privs_6)))))
def lw_tbl : List Cond := k2_sels lw_privs ++ tables_1
theorem lw_privs_ok : ∀ q ∈ lw_privs, lw_okq q := by
  show ∀ q ∈ lw_privs_1 ++ (lw_privs_2 ++ (lw_privs_3 ++ (lw_privs_4 ++ (lw_privs_5 ++ (lw_privs_6))))), lw_okq q
  exact List.forall_mem_append.mpr ⟨lw_r1, List.forall_mem_append.mpr ⟨lw_r2, List.forall_mem_append.mpr ⟨lw_r3, List.forall_mem_append.mpr ⟨lw_r4, List.forall_mem_append.mpr ⟨lw_r5, lw_r6⟩⟩⟩⟩⟩
def RX0 : String := "ClickBench$Act"
def TX0 : u_T := fun k => match k with
  | 0 => ("ClickBench$Act", "click", "Z", true)
  | 1 => ("ClickBench$Act", "part", "LClickBench$Part;", true)
  | _ => ("ClickBench$Act", "rows", "LClickBench$Loop;", true)
def tyX0 : Nat → FieldType := fun k => match k with
  | 0 => .boolean
  | 1 => .object "ClickBench$Part"
  | _ => .object "ClickBench$Loop"
abbrev wsX00 : List Cond := u_ws RX0 TX0 3
theorem nmX0 : ∀ a, a < 3 → ∀ b, b < 3 → a ≠ b → (TX0 a).2.1 ≠ (TX0 b).2.1 := by decide +kernel
theorem tyX0_ok : ∀ k, k < 3 → parseFieldDescriptor (TX0 k).2.2.1 = some (tyX0 k) := by decide +kernel
abbrev cX0_init : ByteArray := prog_2_method_1_code
def yX0_init : MethodName := ⟨RX0, "<init>", "(ZLClickBench$Part;LClickBench$Loop;)V"⟩
def RX1 : String := "ClickBench$Finding"
def TX1 : u_T := fun k => match k with
  | 0 => ("ClickBench$Finding", "best", "LClickBench$Part;", false)
  | 1 => ("ClickBench$Finding", "next", "LClickBench$Part;", false)
  | 2 => ("ClickBench$Finding", "bestCost", "I", false)
  | _ => ("ClickBench$Finding", "nextCost", "I", false)
def tyX1 : Nat → FieldType := fun k => match k with
  | 0 => .object "ClickBench$Part"
  | 1 => .object "ClickBench$Part"
  | 2 => .int
  | _ => .int
abbrev wsX10 : List Cond := u_ws RX1 TX1 4
theorem nmX1 : ∀ a, a < 4 → ∀ b, b < 4 → a ≠ b → (TX1 a).2.1 ≠ (TX1 b).2.1 := by decide +kernel
theorem tyX1_ok : ∀ k, k < 4 → parseFieldDescriptor (TX1 k).2.2.1 = some (tyX1 k) := by decide +kernel
abbrev cX1_init : ByteArray := prog_3_method_1_code
def yX1_init : MethodName := ⟨RX1, "<init>", "()V"⟩
abbrev cX1_look : ByteArray := prog_3_method_2_code
def yX1_look : MethodName := ⟨RX1, "look", "(LClickBench$Part;LClickBench$Page;LClickBench$Likeness;I)I"⟩
def RX2 : String := "ClickBench$Likeness"
def TX2 : u_T := fun k => match k with
  | 0 => ("ClickBench$Likeness", "forests", "[I", true)
  | 1 => ("ClickBench$Likeness", "fars", "[I", true)
  | 2 => ("ClickBench$Likeness", "known", "[Z", true)
  | 3 => ("ClickBench$Likeness", "from", "LClickBench$Page;", false)
  | _ => ("ClickBench$Likeness", "to", "LClickBench$Page;", false)
def tyX2 : Nat → FieldType := fun k => match k with
  | 0 => .array .int
  | 1 => .array .int
  | 2 => .array .boolean
  | 3 => .object "ClickBench$Page"
  | _ => .object "ClickBench$Page"
abbrev wsX20 : List Cond := u_ws RX2 TX2 5
theorem nmX2 : ∀ a, a < 5 → ∀ b, b < 5 → a ≠ b → (TX2 a).2.1 ≠ (TX2 b).2.1 := by decide +kernel
theorem tyX2_ok : ∀ k, k < 5 → parseFieldDescriptor (TX2 k).2.2.1 = some (tyX2 k) := by decide +kernel
abbrev cX2_init : ByteArray := prog_4_method_1_code
def yX2_init : MethodName := ⟨RX2, "<init>", "([I)V"⟩
abbrev cX2_begin : ByteArray := prog_4_method_2_code
def yX2_begin : MethodName := ⟨RX2, "begin", "(LClickBench$Page;LClickBench$Page;)V"⟩
abbrev cX2_costOf : ByteArray := prog_4_method_3_code
def yX2_costOf : MethodName := ⟨RX2, "costOf", "(LClickBench$Part;LClickBench$Part;)I"⟩
abbrev cX2_farOf : ByteArray := prog_4_method_4_code
def yX2_farOf : MethodName := ⟨RX2, "farOf", "(LClickBench$Part;LClickBench$Part;)I"⟩
abbrev cX2_measure : ByteArray := prog_4_method_5_code
def yX2_measure : MethodName := ⟨RX2, "measure", "(LClickBench$Part;)V"⟩
abbrev cX2_measureKey : ByteArray := prog_4_method_6_code
def yX2_measureKey : MethodName := ⟨RX2, "measureKey", "(LClickBench$Part;)V"⟩
abbrev cX2_measureForests : ByteArray := prog_4_method_7_code
def yX2_measureForests : MethodName := ⟨RX2, "measureForests", "(LClickBench$Part;LClickBench$Part;)V"⟩
abbrev cX2_change : ByteArray := prog_4_method_8_code
def yX2_change : MethodName := ⟨RX2, "change", "(LClickBench$Part;LClickBench$Part;)I"⟩
abbrev cX2_changeAlone : ByteArray := prog_4_method_9_code
def yX2_changeAlone : MethodName := ⟨RX2, "changeAlone", "(LClickBench$Part;LClickBench$Part;)I"⟩
def RX3 : String := "ClickBench$Loop"
def TX3 : u_T := fun k => match k with
  | 0 => ("ClickBench$Loop", "shown", "LClickBench$Part;", true)
  | 1 => ("ClickBench$Loop", "level", "I", true)
  | 2 => ("ClickBench$Loop", "firstTurn", "I", true)
  | _ => ("ClickBench$Loop", "step", "I", true)
def tyX3 : Nat → FieldType := fun k => match k with
  | 0 => .object "ClickBench$Part"
  | 1 => .int
  | 2 => .int
  | _ => .int
abbrev wsX30 : List Cond := u_ws RX3 TX3 4
theorem nmX3 : ∀ a, a < 4 → ∀ b, b < 4 → a ≠ b → (TX3 a).2.1 ≠ (TX3 b).2.1 := by decide +kernel
theorem tyX3_ok : ∀ k, k < 4 → parseFieldDescriptor (TX3 k).2.2.1 = some (tyX3 k) := by decide +kernel
abbrev cX3_init : ByteArray := prog_5_method_1_code
def yX3_init : MethodName := ⟨RX3, "<init>", "(LClickBench$Part;III)V"⟩
abbrev cX3_of : ByteArray := prog_5_method_2_code
def yX3_of : MethodName := ⟨RX3, "of", "(LClickBench$Part;LClickBench$Part;)LClickBench$Loop;"⟩
abbrev cX3_stepOn : ByteArray := prog_5_method_3_code
def yX3_stepOn : MethodName := ⟨RX3, "stepOn", "(LClickBench$Page;I)LClickBench$Part;"⟩
abbrev cX3_countRows : ByteArray := prog_5_method_4_code
def yX3_countRows : MethodName := ⟨RX3, "countRows", "(LClickBench$Page;)I"⟩
abbrev cX3_rowOn : ByteArray := prog_5_method_5_code
def yX3_rowOn : MethodName := ⟨RX3, "rowOn", "(LClickBench$Page;I)LClickBench$Part;"⟩
def RX4 : String := "ClickBench$Page"
def TX4 : u_T := fun k => match k with
  | 0 => ("ClickBench$Page", "parts", "[LClickBench$Part;", true)
  | _ => ("ClickBench$Page", "count", "I", false)
def tyX4 : Nat → FieldType := fun k => match k with
  | 0 => .array (.object "ClickBench$Part")
  | _ => .int
abbrev wsX40 : List Cond := u_ws RX4 TX4 2
theorem nmX4 : ∀ a, a < 2 → ∀ b, b < 2 → a ≠ b → (TX4 a).2.1 ≠ (TX4 b).2.1 := by decide +kernel
theorem tyX4_ok : ∀ k, k < 2 → parseFieldDescriptor (TX4 k).2.2.1 = some (tyX4 k) := by decide +kernel
abbrev cX4_init : ByteArray := prog_6_method_1_code
def yX4_init : MethodName := ⟨RX4, "<init>", "()V"⟩
abbrev cX4_at : ByteArray := prog_6_method_2_code
def yX4_at : MethodName := ⟨RX4, "at", "(I)LClickBench$Part;"⟩
abbrev cX4_add : ByteArray := prog_6_method_3_code
def yX4_add : MethodName := ⟨RX4, "add", "(JLClickBench$Part;LClickBench$Part;)LClickBench$Part;"⟩
abbrev cX4_countFitting : ByteArray := prog_6_method_4_code
def yX4_countFitting : MethodName := ⟨RX4, "countFitting", "(LClickBench$Part;I)I"⟩
abbrev cX4_fitting : ByteArray := prog_6_method_5_code
def yX4_fitting : MethodName := ⟨RX4, "fitting", "(LClickBench$Part;II)LClickBench$Part;"⟩
def RX5 : String := "ClickBench$Part"
def TX5 : u_T := fun k => match k with
  | 0 => ("ClickBench$Part", "page", "LClickBench$Page;", true)
  | 1 => ("ClickBench$Part", "number", "I", true)
  | 2 => ("ClickBench$Part", "kind", "J", true)
  | 3 => ("ClickBench$Part", "parent", "LClickBench$Part;", true)
  | 4 => ("ClickBench$Part", "left", "LClickBench$Part;", true)
  | 5 => ("ClickBench$Part", "label", "LClickBench$Part;", true)
  | 6 => ("ClickBench$Part", "turn", "I", true)
  | 7 => ("ClickBench$Part", "above", "I", true)
  | 8 => ("ClickBench$Part", "right", "LClickBench$Part;", false)
  | 9 => ("ClickBench$Part", "under", "I", false)
  | 10 => ("ClickBench$Part", "name", "J", false)
  | 11 => ("ClickBench$Part", "textHead", "J", false)
  | 12 => ("ClickBench$Part", "textTail", "J", false)
  | 13 => ("ClickBench$Part", "textLength", "I", false)
  | 14 => ("ClickBench$Part", "harm", "Z", false)
  | 15 => ("ClickBench$Part", "clicks", "I", false)
  | _ => ("ClickBench$Part", "clickedInRun", "I", false)
def tyX5 : Nat → FieldType := fun k => match k with
  | 0 => .object "ClickBench$Page"
  | 1 => .int
  | 2 => .long
  | 3 => .object "ClickBench$Part"
  | 4 => .object "ClickBench$Part"
  | 5 => .object "ClickBench$Part"
  | 6 => .int
  | 7 => .int
  | 8 => .object "ClickBench$Part"
  | 9 => .int
  | 10 => .long
  | 11 => .long
  | 12 => .long
  | 13 => .int
  | 14 => .boolean
  | 15 => .int
  | _ => .int
abbrev wsX50 : List Cond := u_ws RX5 TX5 17
theorem nmX5 : ∀ a, a < 17 → ∀ b, b < 17 → a ≠ b → (TX5 a).2.1 ≠ (TX5 b).2.1 := by decide +kernel
theorem tyX5_ok : ∀ k, k < 17 → parseFieldDescriptor (TX5 k).2.2.1 = some (tyX5 k) := by decide +kernel
abbrev cX5_init : ByteArray := prog_7_method_1_code
def yX5_init : MethodName := ⟨RX5, "<init>", "(LClickBench$Page;JLClickBench$Part;LClickBench$Part;)V"⟩
abbrev cX5_labelBehind : ByteArray := prog_7_method_2_code
def yX5_labelBehind : MethodName := ⟨RX5, "labelBehind", "(LClickBench$Part;)LClickBench$Part;"⟩
abbrev cX5_turnBehind : ByteArray := prog_7_method_3_code
def yX5_turnBehind : MethodName := ⟨RX5, "turnBehind", "(LClickBench$Part;J)I"⟩
abbrev cX5_textByte : ByteArray := prog_7_method_4_code
def yX5_textByte : MethodName := ⟨RX5, "textByte", "(I)I"⟩
abbrev cX5_isHarmful : ByteArray := prog_7_method_5_code
def yX5_isHarmful : MethodName := ⟨RX5, "isHarmful", "()Z"⟩
abbrev cX5_hasTextOf : ByteArray := prog_7_method_6_code
def yX5_hasTextOf : MethodName := ⟨RX5, "hasTextOf", "(LClickBench$Part;)Z"⟩
abbrev cX5_hasPathOf : ByteArray := prog_7_method_7_code
def yX5_hasPathOf : MethodName := ⟨RX5, "hasPathOf", "(LClickBench$Part;II)Z"⟩
abbrev cX5_marksSharedWith : ByteArray := prog_7_method_8_code
def yX5_marksSharedWith : MethodName := ⟨RX5, "marksSharedWith", "(LClickBench$Part;)I"⟩
abbrev cX5_fitsMarksOf : ByteArray := prog_7_method_9_code
def yX5_fitsMarksOf : MethodName := ⟨RX5, "fitsMarksOf", "(LClickBench$Part;I)Z"⟩
abbrev cX5_kindOf : ByteArray := prog_7_method_10_code
def yX5_kindOf : MethodName := ⟨RX5, "kindOf", "(LClickBench$Part;)J"⟩
abbrev cX5_nameOf : ByteArray := prog_7_method_11_code
def yX5_nameOf : MethodName := ⟨RX5, "nameOf", "(LClickBench$Part;)J"⟩
abbrev cX5_sameLabel : ByteArray := prog_7_method_12_code
def yX5_sameLabel : MethodName := ⟨RX5, "sameLabel", "(LClickBench$Part;LClickBench$Part;)Z"⟩
def RX6 : String := "ClickBench$Reader"
def TX6 : u_T := fun k => match k with
  | 0 => ("ClickBench$Reader", "tokens", "LClickBench$Tokens;", true)
  | 1 => ("ClickBench$Reader", "faultKind", "I", false)
  | 2 => ("ClickBench$Reader", "faultPlace", "I", false)
  | 3 => ("ClickBench$Reader", "stage", "I", false)
  | 4 => ("ClickBench$Reader", "open", "LClickBench$Part;", false)
  | _ => ("ClickBench$Reader", "latest", "LClickBench$Part;", false)
def tyX6 : Nat → FieldType := fun k => match k with
  | 0 => .object "ClickBench$Tokens"
  | 1 => .int
  | 2 => .int
  | 3 => .int
  | 4 => .object "ClickBench$Part"
  | _ => .object "ClickBench$Part"
abbrev wsX60 : List Cond := u_ws RX6 TX6 6
theorem nmX6 : ∀ a, a < 6 → ∀ b, b < 6 → a ≠ b → (TX6 a).2.1 ≠ (TX6 b).2.1 := by decide +kernel
theorem tyX6_ok : ∀ k, k < 6 → parseFieldDescriptor (TX6 k).2.2.1 = some (tyX6 k) := by decide +kernel
abbrev cX6_init : ByteArray := prog_8_method_1_code
def yX6_init : MethodName := ⟨RX6, "<init>", "(LClickBench$Tape;)V"⟩
abbrev cX6_readPage : ByteArray := prog_8_method_2_code
def yX6_readPage : MethodName := ⟨RX6, "readPage", "()LClickBench$Page;"⟩
abbrev cX6_takeToken : ByteArray := prog_8_method_3_code
def yX6_takeToken : MethodName := ⟨RX6, "takeToken", "(LClickBench$Page;)Z"⟩
abbrev cX6_move : ByteArray := prog_8_method_4_code
def yX6_move : MethodName := ⟨RX6, "move", "(II)Z"⟩
abbrev cX6_takeKind : ByteArray := prog_8_method_5_code
def yX6_takeKind : MethodName := ⟨RX6, "takeKind", "(LClickBench$Page;)Z"⟩
abbrev cX6_takeName : ByteArray := prog_8_method_6_code
def yX6_takeName : MethodName := ⟨RX6, "takeName", "()Z"⟩
abbrev cX6_takeText : ByteArray := prog_8_method_7_code
def yX6_takeText : MethodName := ⟨RX6, "takeText", "()Z"⟩
abbrev cX6_takeHarm : ByteArray := prog_8_method_8_code
def yX6_takeHarm : MethodName := ⟨RX6, "takeHarm", "()Z"⟩
abbrev cX6_goDown : ByteArray := prog_8_method_9_code
def yX6_goDown : MethodName := ⟨RX6, "goDown", "()Z"⟩
abbrev cX6_goUp : ByteArray := prog_8_method_10_code
def yX6_goUp : MethodName := ⟨RX6, "goUp", "()Z"⟩
def RX7 : String := "ClickBench$Run"
def TX7 : u_T := fun k => match k with
  | 0 => ("ClickBench$Run", "kept", "[LClickBench$Part;", true)
  | 1 => ("ClickBench$Run", "serial", "I", false)
  | 2 => ("ClickBench$Run", "reason", "I", false)
  | 3 => ("ClickBench$Run", "stoppedAt", "LClickBench$Part;", false)
  | 4 => ("ClickBench$Run", "clicks", "I", false)
  | _ => ("ClickBench$Run", "reads", "I", false)
def tyX7 : Nat → FieldType := fun k => match k with
  | 0 => .array (.object "ClickBench$Part")
  | 1 => .int
  | 2 => .int
  | 3 => .object "ClickBench$Part"
  | 4 => .int
  | _ => .int
abbrev wsX70 : List Cond := u_ws RX7 TX7 6
theorem nmX7 : ∀ a, a < 6 → ∀ b, b < 6 → a ≠ b → (TX7 a).2.1 ≠ (TX7 b).2.1 := by decide +kernel
theorem tyX7_ok : ∀ k, k < 6 → parseFieldDescriptor (TX7 k).2.2.1 = some (tyX7 k) := by decide +kernel
abbrev cX7_init : ByteArray := prog_9_method_1_code
def yX7_init : MethodName := ⟨RX7, "<init>", "()V"⟩
abbrev cX7_begin : ByteArray := prog_9_method_2_code
def yX7_begin : MethodName := ⟨RX7, "begin", "()V"⟩
abbrev cX7_stop : ByteArray := prog_9_method_3_code
def yX7_stop : MethodName := ⟨RX7, "stop", "(ILClickBench$Part;)Z"⟩
abbrev cX7_take : ByteArray := prog_9_method_4_code
def yX7_take : MethodName := ⟨RX7, "take", "(LClickBench$Part;Z)Z"⟩
abbrev cX7_keep : ByteArray := prog_9_method_5_code
def yX7_keep : MethodName := ⟨RX7, "keep", "(LClickBench$Part;)V"⟩
abbrev cX7_keptAt : ByteArray := prog_9_method_6_code
def yX7_keptAt : MethodName := ⟨RX7, "keptAt", "(I)LClickBench$Part;"⟩
def RX8 : String := "ClickBench$Samples"
def TX8 : u_T := fun k => match k with
  | 0 => ("ClickBench$Samples", "told", "[LClickBench$Part;", true)
  | 1 => ("ClickBench$Samples", "shared", "[Z", true)
  | 2 => ("ClickBench$Samples", "count", "I", false)
  | _ => ("ClickBench$Samples", "steadyMarks", "I", false)
def tyX8 : Nat → FieldType := fun k => match k with
  | 0 => .array (.object "ClickBench$Part")
  | 1 => .array .boolean
  | 2 => .int
  | _ => .int
abbrev wsX80 : List Cond := u_ws RX8 TX8 4
theorem nmX8 : ∀ a, a < 4 → ∀ b, b < 4 → a ≠ b → (TX8 a).2.1 ≠ (TX8 b).2.1 := by decide +kernel
theorem tyX8_ok : ∀ k, k < 4 → parseFieldDescriptor (TX8 k).2.2.1 = some (tyX8 k) := by decide +kernel
abbrev cX8_init : ByteArray := prog_10_method_1_code
def yX8_init : MethodName := ⟨RX8, "<init>", "()V"⟩
abbrev cX8_first : ByteArray := prog_10_method_2_code
def yX8_first : MethodName := ⟨RX8, "first", "()LClickBench$Part;"⟩
abbrev cX8_add : ByteArray := prog_10_method_3_code
def yX8_add : MethodName := ⟨RX8, "add", "(LClickBench$Part;)V"⟩
abbrev cX8_noteShared : ByteArray := prog_10_method_4_code
def yX8_noteShared : MethodName := ⟨RX8, "noteShared", "(I)V"⟩
abbrev cX8_dropAll : ByteArray := prog_10_method_5_code
def yX8_dropAll : MethodName := ⟨RX8, "dropAll", "()V"⟩
abbrev cX8_leastMarks : ByteArray := prog_10_method_6_code
def yX8_leastMarks : MethodName := ⟨RX8, "leastMarks", "()I"⟩
def RX9 : String := "ClickBench$Tape"
def TX9 : u_T := fun k => match k with
  | 0 => ("ClickBench$Tape", "bytes", "[B", true)
  | _ => ("ClickBench$Tape", "length", "I", false)
def tyX9 : Nat → FieldType := fun k => match k with
  | 0 => .array .byte
  | _ => .int
abbrev wsX90 : List Cond := u_ws RX9 TX9 2
theorem nmX9 : ∀ a, a < 2 → ∀ b, b < 2 → a ≠ b → (TX9 a).2.1 ≠ (TX9 b).2.1 := by decide +kernel
theorem tyX9_ok : ∀ k, k < 2 → parseFieldDescriptor (TX9 k).2.2.1 = some (tyX9 k) := by decide +kernel
abbrev cX9_init : ByteArray := prog_11_method_1_code
def yX9_init : MethodName := ⟨RX9, "<init>", "()V"⟩
abbrev cX9_append : ByteArray := prog_11_method_2_code
def yX9_append : MethodName := ⟨RX9, "append", "(I)V"⟩
abbrev cX9_byteAt : ByteArray := prog_11_method_3_code
def yX9_byteAt : MethodName := ⟨RX9, "byteAt", "(I)I"⟩
def RX10 : String := "ClickBench$Tokens"
def TX10 : u_T := fun k => match k with
  | 0 => ("ClickBench$Tokens", "tape", "LClickBench$Tape;", true)
  | 1 => ("ClickBench$Tokens", "at", "I", false)
  | 2 => ("ClickBench$Tokens", "token", "I", false)
  | 3 => ("ClickBench$Tokens", "place", "I", false)
  | 4 => ("ClickBench$Tokens", "word", "J", false)
  | 5 => ("ClickBench$Tokens", "textHead", "J", false)
  | 6 => ("ClickBench$Tokens", "textTail", "J", false)
  | _ => ("ClickBench$Tokens", "textLength", "I", false)
def tyX10 : Nat → FieldType := fun k => match k with
  | 0 => .object "ClickBench$Tape"
  | 1 => .int
  | 2 => .int
  | 3 => .int
  | 4 => .long
  | 5 => .long
  | 6 => .long
  | _ => .int
abbrev wsX100 : List Cond := u_ws RX10 TX10 8
theorem nmX10 : ∀ a, a < 8 → ∀ b, b < 8 → a ≠ b → (TX10 a).2.1 ≠ (TX10 b).2.1 := by decide +kernel
theorem tyX10_ok : ∀ k, k < 8 → parseFieldDescriptor (TX10 k).2.2.1 = some (tyX10 k) := by decide +kernel
abbrev cX10_init : ByteArray := prog_12_method_1_code
def yX10_init : MethodName := ⟨RX10, "<init>", "(LClickBench$Tape;)V"⟩
abbrev cX10_rewind : ByteArray := prog_12_method_2_code
def yX10_rewind : MethodName := ⟨RX10, "rewind", "()V"⟩
abbrev cX10_advance : ByteArray := prog_12_method_3_code
def yX10_advance : MethodName := ⟨RX10, "advance", "()V"⟩
abbrev cX10_takeWord : ByteArray := prog_12_method_4_code
def yX10_takeWord : MethodName := ⟨RX10, "takeWord", "()V"⟩
abbrev cX10_takeText : ByteArray := prog_12_method_5_code
def yX10_takeText : MethodName := ⟨RX10, "takeText", "()V"⟩
abbrev cX10_putTextByte : ByteArray := prog_12_method_6_code
def yX10_putTextByte : MethodName := ⟨RX10, "putTextByte", "(I)V"⟩
abbrev cX10_signToken : ByteArray := prog_12_method_7_code
def yX10_signToken : MethodName := ⟨RX10, "signToken", "(I)I"⟩
abbrev cX10_isBlank : ByteArray := prog_12_method_8_code
def yX10_isBlank : MethodName := ⟨RX10, "isBlank", "(I)Z"⟩
abbrev cX10_isLetter : ByteArray := prog_12_method_9_code
def yX10_isLetter : MethodName := ⟨RX10, "isLetter", "(I)Z"⟩
abbrev cX10_isTextByte : ByteArray := prog_12_method_10_code
def yX10_isTextByte : MethodName := ⟨RX10, "isTextByte", "(I)Z"⟩
def RX11 : String := "ClickBench"
def TX11 : u_T := fun k => match k with
  | 0 => ("ClickBench", "tape", "LClickBench$Tape;", true)
  | 1 => ("ClickBench", "reader", "LClickBench$Reader;", true)
  | 2 => ("ClickBench", "shelves", "[LClickBench$Page;", true)
  | 3 => ("ClickBench", "likenesses", "[LClickBench$Likeness;", true)
  | 4 => ("ClickBench", "forests", "[I", true)
  | 5 => ("ClickBench", "latestFind", "LClickBench$Finding;", true)
  | 6 => ("ClickBench", "findingOfRun", "LClickBench$Finding;", true)
  | 7 => ("ClickBench", "samples", "LClickBench$Samples;", true)
  | 8 => ("ClickBench", "acts", "[LClickBench$Act;", true)
  | 9 => ("ClickBench", "latestRun", "LClickBench$Run;", true)
  | 10 => ("ClickBench", "actCount", "I", false)
  | 11 => ("ClickBench", "oldestLikeness", "I", false)
  | _ => ("ClickBench", "leastGap", "I", false)
def tyX11 : Nat → FieldType := fun k => match k with
  | 0 => .object "ClickBench$Tape"
  | 1 => .object "ClickBench$Reader"
  | 2 => .array (.object "ClickBench$Page")
  | 3 => .array (.object "ClickBench$Likeness")
  | 4 => .array .int
  | 5 => .object "ClickBench$Finding"
  | 6 => .object "ClickBench$Finding"
  | 7 => .object "ClickBench$Samples"
  | 8 => .array (.object "ClickBench$Act")
  | 9 => .object "ClickBench$Run"
  | 10 => .int
  | 11 => .int
  | _ => .int
abbrev wsX110 : List Cond := u_ws RX11 TX11 13
theorem nmX11 : ∀ a, a < 13 → ∀ b, b < 13 → a ≠ b → (TX11 a).2.1 ≠ (TX11 b).2.1 := by decide +kernel
theorem tyX11_ok : ∀ k, k < 13 → parseFieldDescriptor (TX11 k).2.2.1 = some (tyX11 k) := by decide +kernel
abbrev cX11_init : ByteArray := prog_1_method_1_code
def yX11_init : MethodName := ⟨RX11, "<init>", "()V"⟩
abbrev cX11_feed : ByteArray := prog_1_method_2_code
def yX11_feed : MethodName := ⟨RX11, "feed", "(IIIII)I"⟩
abbrev cX11_end : ByteArray := prog_1_method_3_code
def yX11_end : MethodName := ⟨RX11, "end", "(I)I"⟩
abbrev cX11_page : ByteArray := prog_1_method_4_code
def yX11_page : MethodName := ⟨RX11, "page", "(I)I"⟩
abbrev cX11_fault : ByteArray := prog_1_method_5_code
def yX11_fault : MethodName := ⟨RX11, "fault", "(I)I"⟩
abbrev cX11_part : ByteArray := prog_1_method_6_code
def yX11_part : MethodName := ⟨RX11, "part", "(III)I"⟩
abbrev cX11_text : ByteArray := prog_1_method_7_code
def yX11_text : MethodName := ⟨RX11, "text", "(IIII)I"⟩
abbrev cX11_far : ByteArray := prog_1_method_8_code
def yX11_far : MethodName := ⟨RX11, "far", "(IIII)I"⟩
abbrev cX11_cost : ByteArray := prog_1_method_9_code
def yX11_cost : MethodName := ⟨RX11, "cost", "(IIII)I"⟩
abbrev cX11_gap : ByteArray := prog_1_method_10_code
def yX11_gap : MethodName := ⟨RX11, "gap", "(I)Z"⟩
abbrev cX11_find : ByteArray := prog_1_method_11_code
def yX11_find : MethodName := ⟨RX11, "find", "(III)I"⟩
abbrev cX11_found : ByteArray := prog_1_method_12_code
def yX11_found : MethodName := ⟨RX11, "found", "(I)I"⟩
abbrev cX11_fits : ByteArray := prog_1_method_13_code
def yX11_fits : MethodName := ⟨RX11, "fits", "(IIII)I"⟩
abbrev cX11_fit : ByteArray := prog_1_method_14_code
def yX11_fit : MethodName := ⟨RX11, "fit", "(IIIII)I"⟩
abbrev cX11_sample : ByteArray := prog_1_method_15_code
def yX11_sample : MethodName := ⟨RX11, "sample", "(II)I"⟩
abbrev cX11_forget : ByteArray := prog_1_method_16_code
def yX11_forget : MethodName := ⟨RX11, "forget", "()I"⟩
abbrev cX11_stays : ByteArray := prog_1_method_17_code
def yX11_stays : MethodName := ⟨RX11, "stays", "()I"⟩
abbrev cX11_learnt : ByteArray := prog_1_method_18_code
def yX11_learnt : MethodName := ⟨RX11, "learnt", "()I"⟩
abbrev cX11_seen : ByteArray := prog_1_method_19_code
def yX11_seen : MethodName := ⟨RX11, "seen", "(I)I"⟩
abbrev cX11_rows : ByteArray := prog_1_method_20_code
def yX11_rows : MethodName := ⟨RX11, "rows", "(IIII)I"⟩
abbrev cX11_row : ByteArray := prog_1_method_21_code
def yX11_row : MethodName := ⟨RX11, "row", "(IIIII)I"⟩
abbrev cX11_act : ByteArray := prog_1_method_22_code
def yX11_act : MethodName := ⟨RX11, "act", "(ZII)I"⟩
abbrev cX11_loop : ByteArray := prog_1_method_23_code
def yX11_loop : MethodName := ⟨RX11, "loop", "(ZIII)I"⟩
abbrev cX11_clear : ByteArray := prog_1_method_24_code
def yX11_clear : MethodName := ⟨RX11, "clear", "()I"⟩
abbrev cX11_run : ByteArray := prog_1_method_25_code
def yX11_run : MethodName := ⟨RX11, "run", "(I)I"⟩
abbrev cX11_ran : ByteArray := prog_1_method_26_code
def yX11_ran : MethodName := ⟨RX11, "ran", "(I)I"⟩
abbrev cX11_read : ByteArray := prog_1_method_27_code
def yX11_read : MethodName := ⟨RX11, "read", "(II)I"⟩
abbrev cX11_about : ByteArray := prog_1_method_28_code
def yX11_about : MethodName := ⟨RX11, "about", "(I)I"⟩
abbrev cX11_pageOn : ByteArray := prog_1_method_29_code
def yX11_pageOn : MethodName := ⟨RX11, "pageOn", "(I)LClickBench$Page;"⟩
abbrev cX11_partOn : ByteArray := prog_1_method_30_code
def yX11_partOn : MethodName := ⟨RX11, "partOn", "(II)LClickBench$Part;"⟩
abbrev cX11_loopOn : ByteArray := prog_1_method_31_code
def yX11_loopOn : MethodName := ⟨RX11, "loopOn", "(III)LClickBench$Loop;"⟩
abbrev cX11_likenessFor : ByteArray := prog_1_method_32_code
def yX11_likenessFor : MethodName := ⟨RX11, "likenessFor", "(LClickBench$Part;LClickBench$Page;)LClickBench$Likeness;"⟩
abbrev cX11_oldestTable : ByteArray := prog_1_method_33_code
def yX11_oldestTable : MethodName := ⟨RX11, "oldestTable", "()LClickBench$Likeness;"⟩
abbrev cX11_tell : ByteArray := prog_1_method_34_code
def yX11_tell : MethodName := ⟨RX11, "tell", "(ZLClickBench$Part;LClickBench$Loop;)I"⟩
abbrev cX11_perform : ByteArray := prog_1_method_35_code
def yX11_perform : MethodName := ⟨RX11, "perform", "(LClickBench$Act;LClickBench$Page;)Z"⟩
abbrev cX11_performRows : ByteArray := prog_1_method_36_code
def yX11_performRows : MethodName := ⟨RX11, "performRows", "(LClickBench$Loop;ZLClickBench$Page;)Z"⟩
abbrev cX11_areMarks : ByteArray := prog_1_method_37_code
def yX11_areMarks : MethodName := ⟨RX11, "areMarks", "(I)Z"⟩
abbrev cX11_numberOf : ByteArray := prog_1_method_38_code
def yX11_numberOf : MethodName := ⟨RX11, "numberOf", "(LClickBench$Part;)I"⟩
abbrev cX11_letterOf : ByteArray := prog_1_method_39_code
def yX11_letterOf : MethodName := ⟨RX11, "letterOf", "(JI)I"⟩
def RX12 : String := "ClickBenchModel"
def TX12 : u_T := fun k => match k with
  | 0 => ("ClickBenchModel", "tape", "[B", true)
  | 1 => ("ClickBenchModel", "text", "[B", true)
  | 2 => ("ClickBenchModel", "taped", "I", false)
  | 3 => ("ClickBenchModel", "size", "I", false)
  | 4 => ("ClickBenchModel", "faultKind", "I", false)
  | 5 => ("ClickBenchModel", "faultPlace", "I", false)
  | 6 => ("ClickBenchModel", "at", "I", false)
  | 7 => ("ClickBenchModel", "end", "I", false)
  | 8 => ("ClickBenchModel", "token", "I", false)
  | 9 => ("ClickBenchModel", "name", "J", false)
  | 10 => ("ClickBenchModel", "many", "[I", true)
  | 11 => ("ClickBenchModel", "parent", "[I", true)
  | 12 => ("ClickBenchModel", "all", "[I", true)
  | 13 => ("ClickBenchModel", "turn", "[I", true)
  | 14 => ("ClickBenchModel", "deep", "[I", true)
  | 15 => ("ClickBenchModel", "words", "[I", true)
  | 16 => ("ClickBenchModel", "clicks", "[I", true)
  | 17 => ("ClickBenchModel", "kind", "[J", true)
  | 18 => ("ClickBenchModel", "title", "[J", true)
  | 19 => ("ClickBenchModel", "isHarm", "[Z", true)
  | 20 => ("ClickBenchModel", "letters", "[B", true)
  | 21 => ("ClickBenchModel", "open", "[I", true)
  | 22 => ("ClickBenchModel", "opened", "I", false)
  | 23 => ("ClickBenchModel", "trees", "[I", true)
  | 24 => ("ClickBenchModel", "behind", "[I", true)
  | 25 => ("ClickBenchModel", "gap", "I", false)
  | 26 => ("ClickBenchModel", "best", "I", false)
  | 27 => ("ClickBenchModel", "following", "I", false)
  | 28 => ("ClickBenchModel", "bestCost", "I", false)
  | 29 => ("ClickBenchModel", "followingCost", "I", false)
  | 30 => ("ClickBenchModel", "hasFound", "Z", false)
  | 31 => ("ClickBenchModel", "toldBest", "I", false)
  | 32 => ("ClickBenchModel", "toldNext", "I", false)
  | 33 => ("ClickBenchModel", "toldCost", "I", false)
  | 34 => ("ClickBenchModel", "toldNextCost", "I", false)
  | 35 => ("ClickBenchModel", "samplePart", "[I", true)
  | 36 => ("ClickBenchModel", "samples", "I", false)
  | 37 => ("ClickBenchModel", "others", "[I", true)
  | 38 => ("ClickBenchModel", "otherMany", "I", false)
  | 39 => ("ClickBenchModel", "pathKind", "[J", true)
  | 40 => ("ClickBenchModel", "pathTurn", "[I", true)
  | 41 => ("ClickBenchModel", "pathSize", "[I", true)
  | 42 => ("ClickBenchModel", "pathPlace", "[I", true)
  | 43 => ("ClickBenchModel", "pathFrom", "[I", true)
  | 44 => ("ClickBenchModel", "pathStep", "[I", true)
  | 45 => ("ClickBenchModel", "isClick", "[Z", true)
  | 46 => ("ClickBenchModel", "isLoop", "[Z", true)
  | 47 => ("ClickBenchModel", "wasClicked", "[Z", true)
  | 48 => ("ClickBenchModel", "actPart", "[I", true)
  | 49 => ("ClickBenchModel", "readSize", "[I", true)
  | 50 => ("ClickBenchModel", "readLetters", "[B", true)
  | 51 => ("ClickBenchModel", "acts", "I", false)
  | 52 => ("ClickBenchModel", "why", "I", false)
  | 53 => ("ClickBenchModel", "stopped", "I", false)
  | 54 => ("ClickBenchModel", "clicksMade", "I", false)
  | 55 => ("ClickBenchModel", "reads", "I", false)
  | _ => ("ClickBenchModel", "hasRun", "Z", false)
def tyX12 : Nat → FieldType := fun k => match k with
  | 0 => .array .byte
  | 1 => .array .byte
  | 2 => .int
  | 3 => .int
  | 4 => .int
  | 5 => .int
  | 6 => .int
  | 7 => .int
  | 8 => .int
  | 9 => .long
  | 10 => .array .int
  | 11 => .array .int
  | 12 => .array .int
  | 13 => .array .int
  | 14 => .array .int
  | 15 => .array .int
  | 16 => .array .int
  | 17 => .array .long
  | 18 => .array .long
  | 19 => .array .boolean
  | 20 => .array .byte
  | 21 => .array .int
  | 22 => .int
  | 23 => .array .int
  | 24 => .array .int
  | 25 => .int
  | 26 => .int
  | 27 => .int
  | 28 => .int
  | 29 => .int
  | 30 => .boolean
  | 31 => .int
  | 32 => .int
  | 33 => .int
  | 34 => .int
  | 35 => .array .int
  | 36 => .int
  | 37 => .array .int
  | 38 => .int
  | 39 => .array .long
  | 40 => .array .int
  | 41 => .array .int
  | 42 => .array .int
  | 43 => .array .int
  | 44 => .array .int
  | 45 => .array .boolean
  | 46 => .array .boolean
  | 47 => .array .boolean
  | 48 => .array .int
  | 49 => .array .int
  | 50 => .array .byte
  | 51 => .int
  | 52 => .int
  | 53 => .int
  | 54 => .int
  | 55 => .int
  | _ => .boolean
abbrev wsX120 : List Cond := u_ws RX12 TX12 57
theorem nmX12 : ∀ a, a < 57 → ∀ b, b < 57 → a ≠ b → (TX12 a).2.1 ≠ (TX12 b).2.1 := by decide +kernel
theorem tyX12_ok : ∀ k, k < 57 → parseFieldDescriptor (TX12 k).2.2.1 = some (tyX12 k) := by decide +kernel
abbrev cX12_init : ByteArray := prog_14_method_1_code
def yX12_init : MethodName := ⟨RX12, "<init>", "()V"⟩
abbrev cX12_sign : ByteArray := prog_14_method_2_code
def yX12_sign : MethodName := ⟨RX12, "sign", "(I)I"⟩
abbrev cX12_isLetter : ByteArray := prog_14_method_3_code
def yX12_isLetter : MethodName := ⟨RX12, "isLetter", "(I)Z"⟩
abbrev cX12_fails : ByteArray := prog_14_method_4_code
def yX12_fails : MethodName := ⟨RX12, "fails", "(II)V"⟩
abbrev cX12_isGood : ByteArray := prog_14_method_5_code
def yX12_isGood : MethodName := ⟨RX12, "isGood", "()Z"⟩
abbrev cX12_next : ByteArray := prog_14_method_6_code
def yX12_next : MethodName := ⟨RX12, "next", "()V"⟩
abbrev cX12_is : ByteArray := prog_14_method_7_code
def yX12_is : MethodName := ⟨RX12, "is", "(I)Z"⟩
abbrev cX12_wrong : ByteArray := prog_14_method_8_code
def yX12_wrong : MethodName := ⟨RX12, "wrong", "()V"⟩
abbrev cX12_spot : ByteArray := prog_14_method_9_code
def yX12_spot : MethodName := ⟨RX12, "spot", "(II)I"⟩
abbrev cX12_readPart : ByteArray := prog_14_method_10_code
def yX12_readPart : MethodName := ⟨RX12, "readPart", "()V"⟩
abbrev cX12_readPage : ByteArray := prog_14_method_11_code
def yX12_readPage : MethodName := ⟨RX12, "readPage", "()V"⟩
abbrev cX12_measure : ByteArray := prog_14_method_12_code
def yX12_measure : MethodName := ⟨RX12, "measure", "()V"⟩
abbrev cX12_isUnder : ByteArray := prog_14_method_13_code
def yX12_isUnder : MethodName := ⟨RX12, "isUnder", "(III)Z"⟩
abbrev cX12_copyPage : ByteArray := prog_14_method_14_code
def yX12_copyPage : MethodName := ⟨RX12, "copyPage", "(II)V"⟩
abbrev cX12_isShelf : ByteArray := prog_14_method_15_code
def yX12_isShelf : MethodName := ⟨RX12, "isShelf", "(I)Z"⟩
abbrev cX12_page : ByteArray := prog_14_method_16_code
def yX12_page : MethodName := ⟨RX12, "page", "(I)I"⟩
abbrev cX12_fault : ByteArray := prog_14_method_17_code
def yX12_fault : MethodName := ⟨RX12, "fault", "(I)I"⟩
abbrev cX12_isPart : ByteArray := prog_14_method_18_code
def yX12_isPart : MethodName := ⟨RX12, "isPart", "(II)Z"⟩
abbrev cX12_hasPage : ByteArray := prog_14_method_19_code
def yX12_hasPage : MethodName := ⟨RX12, "hasPage", "(I)Z"⟩
abbrev cX12_left : ByteArray := prog_14_method_20_code
def yX12_left : MethodName := ⟨RX12, "left", "(II)I"⟩
abbrev cX12_right : ByteArray := prog_14_method_21_code
def yX12_right : MethodName := ⟨RX12, "right", "(II)I"⟩
abbrev cX12_label : ByteArray := prog_14_method_22_code
def yX12_label : MethodName := ⟨RX12, "label", "(II)I"⟩
abbrev cX12_part : ByteArray := prog_14_method_23_code
def yX12_part : MethodName := ⟨RX12, "part", "(III)I"⟩
abbrev cX12_sizeOf : ByteArray := prog_14_method_24_code
def yX12_sizeOf : MethodName := ⟨RX12, "sizeOf", "(J)I"⟩
abbrev cX12_text : ByteArray := prog_14_method_25_code
def yX12_text : MethodName := ⟨RX12, "text", "(IIII)I"⟩
abbrev cX12_areSameWords : ByteArray := prog_14_method_26_code
def yX12_areSameWords : MethodName := ⟨RX12, "areSameWords", "(II)Z"⟩
abbrev cX12_change : ByteArray := prog_14_method_27_code
def yX12_change : MethodName := ⟨RX12, "change", "(II)I"⟩
abbrev cX12_measureAll : ByteArray := prog_14_method_28_code
def yX12_measureAll : MethodName := ⟨RX12, "measureAll", "(II)V"⟩
abbrev cX12_measureOne : ByteArray := prog_14_method_29_code
def yX12_measureOne : MethodName := ⟨RX12, "measureOne", "(IIII)I"⟩
abbrev cX12_far : ByteArray := prog_14_method_30_code
def yX12_far : MethodName := ⟨RX12, "far", "(IIII)I"⟩
abbrev cX12_beside : ByteArray := prog_14_method_31_code
def yX12_beside : MethodName := ⟨RX12, "beside", "(IIII)I"⟩
abbrev cX12_costOf : ByteArray := prog_14_method_32_code
def yX12_costOf : MethodName := ⟨RX12, "costOf", "(IIII)I"⟩
abbrev cX12_cost : ByteArray := prog_14_method_33_code
def yX12_cost : MethodName := ⟨RX12, "cost", "(IIII)I"⟩
abbrev cX12_gap : ByteArray := prog_14_method_34_code
def yX12_gap : MethodName := ⟨RX12, "gap", "(I)Z"⟩
abbrev cX12_seek : ByteArray := prog_14_method_35_code
def yX12_seek : MethodName := ⟨RX12, "seek", "(III)I"⟩
abbrev cX12_find : ByteArray := prog_14_method_36_code
def yX12_find : MethodName := ⟨RX12, "find", "(III)I"⟩
abbrev cX12_found : ByteArray := prog_14_method_37_code
def yX12_found : MethodName := ⟨RX12, "found", "(I)I"⟩
abbrev cX12_arePaths : ByteArray := prog_14_method_38_code
def yX12_arePaths : MethodName := ⟨RX12, "arePaths", "(IIII)Z"⟩
abbrev cX12_areLabels : ByteArray := prog_14_method_39_code
def yX12_areLabels : MethodName := ⟨RX12, "areLabels", "(IIII)Z"⟩
abbrev cX12_kindAbove : ByteArray := prog_14_method_40_code
def yX12_kindAbove : MethodName := ⟨RX12, "kindAbove", "(II)J"⟩
abbrev cX12_titleAbove : ByteArray := prog_14_method_41_code
def yX12_titleAbove : MethodName := ⟨RX12, "titleAbove", "(II)J"⟩
abbrev cX12_alike : ByteArray := prog_14_method_42_code
def yX12_alike : MethodName := ⟨RX12, "alike", "(IIII)I"⟩
abbrev cX12_fits : ByteArray := prog_14_method_43_code
def yX12_fits : MethodName := ⟨RX12, "fits", "(IIII)I"⟩
abbrev cX12_fit : ByteArray := prog_14_method_44_code
def yX12_fit : MethodName := ⟨RX12, "fit", "(IIIII)I"⟩
abbrev cX12_sample : ByteArray := prog_14_method_45_code
def yX12_sample : MethodName := ⟨RX12, "sample", "(II)I"⟩
abbrev cX12_forget : ByteArray := prog_14_method_46_code
def yX12_forget : MethodName := ⟨RX12, "forget", "()I"⟩
abbrev cX12_stays : ByteArray := prog_14_method_47_code
def yX12_stays : MethodName := ⟨RX12, "stays", "()I"⟩
abbrev cX12_bitsOf : ByteArray := prog_14_method_48_code
def yX12_bitsOf : MethodName := ⟨RX12, "bitsOf", "(I)I"⟩
abbrev cX12_lookAtSamples : ByteArray := prog_14_method_49_code
def yX12_lookAtSamples : MethodName := ⟨RX12, "lookAtSamples", "()V"⟩
abbrev cX12_tells : ByteArray := prog_14_method_50_code
def yX12_tells : MethodName := ⟨RX12, "tells", "(I)Z"⟩
abbrev cX12_learnt : ByteArray := prog_14_method_51_code
def yX12_learnt : MethodName := ⟨RX12, "learnt", "()I"⟩
abbrev cX12_seen : ByteArray := prog_14_method_52_code
def yX12_seen : MethodName := ⟨RX12, "seen", "(I)I"⟩
abbrev cX12_lay : ByteArray := prog_14_method_53_code
def yX12_lay : MethodName := ⟨RX12, "lay", "(IIII)Z"⟩
abbrev cX12_rowOf : ByteArray := prog_14_method_54_code
def yX12_rowOf : MethodName := ⟨RX12, "rowOf", "(III)I"⟩
abbrev cX12_child : ByteArray := prog_14_method_55_code
def yX12_child : MethodName := ⟨RX12, "child", "(IIJI)I"⟩
abbrev cX12_rowsOf : ByteArray := prog_14_method_56_code
def yX12_rowsOf : MethodName := ⟨RX12, "rowsOf", "(II)I"⟩
abbrev cX12_rows : ByteArray := prog_14_method_57_code
def yX12_rows : MethodName := ⟨RX12, "rows", "(IIII)I"⟩
abbrev cX12_row : ByteArray := prog_14_method_58_code
def yX12_row : MethodName := ⟨RX12, "row", "(IIIII)I"⟩
abbrev cX12_act : ByteArray := prog_14_method_59_code
def yX12_act : MethodName := ⟨RX12, "act", "(ZII)I"⟩
abbrev cX12_loop : ByteArray := prog_14_method_60_code
def yX12_loop : MethodName := ⟨RX12, "loop", "(ZIII)I"⟩
abbrev cX12_clear : ByteArray := prog_14_method_61_code
def yX12_clear : MethodName := ⟨RX12, "clear", "()I"⟩
abbrev cX12_isInHarm : ByteArray := prog_14_method_62_code
def yX12_isInHarm : MethodName := ⟨RX12, "isInHarm", "(II)Z"⟩
abbrev cX12_does : ByteArray := prog_14_method_63_code
def yX12_does : MethodName := ⟨RX12, "does", "(III)Z"⟩
abbrev cX12_goes : ByteArray := prog_14_method_64_code
def yX12_goes : MethodName := ⟨RX12, "goes", "(II)Z"⟩
abbrev cX12_run : ByteArray := prog_14_method_65_code
def yX12_run : MethodName := ⟨RX12, "run", "(I)I"⟩
abbrev cX12_ran : ByteArray := prog_14_method_66_code
def yX12_ran : MethodName := ⟨RX12, "ran", "(I)I"⟩
abbrev cX12_read : ByteArray := prog_14_method_67_code
def yX12_read : MethodName := ⟨RX12, "read", "(II)I"⟩
abbrev cX12_about : ByteArray := prog_14_method_68_code
def yX12_about : MethodName := ⟨RX12, "about", "(I)I"⟩
abbrev cX12_feed : ByteArray := prog_14_method_69_code
def yX12_feed : MethodName := ⟨RX12, "feed", "(IIIII)I"⟩
abbrev cX12_end : ByteArray := prog_14_method_70_code
def yX12_end : MethodName := ⟨RX12, "end", "(I)I"⟩
def RJ6 : String := "java/lang/Integer"
abbrev cJ6_bitCount_0f7a4 : ByteArray := prog_15_method_49_code
def yJ6_bitCount_0f7a4 : MethodName := ⟨RJ6, "bitCount", "(I)I"⟩
def RJ9 : String := "java/lang/Math"
abbrev cJ9_abs_0f7a4 : ByteArray := prog_16_method_59_code
def yJ9_abs_0f7a4 : MethodName := ⟨RJ9, "abs", "(I)I"⟩
abbrev cJ9_min_7cf53 : ByteArray := prog_16_method_69_code
def yJ9_min_7cf53 : MethodName := ⟨RJ9, "min", "(II)I"⟩
def RL : String := "ClickBenchLaw"
abbrev cL_law : ByteArray := code
def yL_law : MethodName := ⟨RL, "law", "([I)Z"⟩
abbrev vwCl : List vw_C := [(RX0, TX0, 3), (RX1, TX1, 4), (RX2, TX2, 5), (RX3, TX3, 4), (RX4, TX4, 2), (RX5, TX5, 17), (RX6, TX6, 6), (RX7, TX7, 6), (RX8, TX8, 4), (RX9, TX9, 2), (RX10, TX10, 8), (RX11, TX11, 13), (RX12, TX12, 57)]
end
section
/-! ===== the words that may be carried into every method ===== -/
def gT : List Cond := lw_tbl.filter goodWord
theorem gT_good : GoodIn gT gT := fun w h => ⟨h, good_of_word (List.mem_filter.mp h).2⟩
theorem gT_of {w : Cond} (h : w ∈ tables_1) (hg : goodWord w = true) : w ∈ gT := List.mem_filter.mpr ⟨List.mem_append_right _ h, hg⟩
theorem gT_p {q : MethodName × Nat} (h : q ∈ lw_privs) : Cond.selects q.1.cls q.1 q.1 ∈ gT := List.mem_filter.mpr ⟨List.mem_append_left _ (List.mem_map.mpr ⟨q, h, rfl⟩), rfl⟩
theorem tm1 {w : Cond} (i : Nat) (h : tables_1_1[i]? = some w) : w ∈ tables_1 := List.mem_append_left _ (List.mem_of_getElem? h)
theorem tm2 {w : Cond} (i : Nat) (h : tables_1_2[i]? = some w) : w ∈ tables_1 := List.mem_append_right _ (List.mem_append_left _ (List.mem_of_getElem? h))
theorem tm3 {w : Cond} (i : Nat) (h : tables_1_3[i]? = some w) : w ∈ tables_1 := List.mem_append_right _ (List.mem_append_right _ (List.mem_append_left _ (List.mem_of_getElem? h)))
theorem tm4 {w : Cond} (i : Nat) (h : tables_1_4[i]? = some w) : w ∈ tables_1 := List.mem_append_right _ (List.mem_append_right _ (List.mem_append_right _ (List.mem_append_left _ (List.mem_of_getElem? h))))
theorem tm5 {w : Cond} (i : Nat) (h : tables_1_5[i]? = some w) : w ∈ tables_1 := List.mem_append_right _ (List.mem_append_right _ (List.mem_append_right _ (List.mem_append_right _ (List.mem_append_left _ (List.mem_of_getElem? h)))))
theorem tm6 {w : Cond} (i : Nat) (h : tables_1_6[i]? = some w) : w ∈ tables_1 := List.mem_append_right _ (List.mem_append_right _ (List.mem_append_right _ (List.mem_append_right _ (List.mem_append_right _ (List.mem_of_getElem? h)))))
/-- links to a nest mate's private members -/
def gisN : Cond → Bool
  | .fieldLinkNest .. => true
  | .methodLinkNest .. => true
  | _ => false
def gNW (U : State) : Prop := ∀ w ∈ tables_1, gisN w = true → va_Nw w U
theorem gNW.warm {s U : State} (hW : s.WarmedH U.vm) (h : gNW s) : gNW U := by
  intro w hw hn
  have h1 := h w hw hn
  cases w <;> first | (simp [gisN] at hn; done) | exact va_Nw.warmF hW h1 | exact va_Nw.warmM hW h1
theorem gNW.same {u U : State} (hv : u.vm = U.vm) (h : gNW u) : gNW U := by
  intro w hw hn
  have h1 := h w hw hn
  cases w <;> first | (simp [gisN] at hn; done) | exact va_Nw.same rfl hv h1
/-! ===== the memory: fields and array elements as functions of addresses ===== -/
abbrev Mem : Type := (Nat → Nat) × (Nat → Nat → Int32) × (Nat → Nat → Int64) × (Nat → Nat → Option Nat) × (Nat → Nat) × (Nat → Nat → Int32) × (Nat → Nat → Int64) × (Nat → Nat → Option Nat)
abbrev mK (S : Mem) : Nat → Nat := S.1
abbrev mI (S : Mem) : Nat → Nat → Int32 := S.2.1
abbrev mL (S : Mem) : Nat → Nat → Int64 := S.2.2.1
abbrev mR (S : Mem) : Nat → Nat → Option Nat := S.2.2.2.1
abbrev mN (S : Mem) : Nat → Nat := S.2.2.2.2.1
abbrev aI (S : Mem) : Nat → Nat → Int32 := S.2.2.2.2.2.1
abbrev aL (S : Mem) : Nat → Nat → Int64 := S.2.2.2.2.2.2.1
abbrev aR (S : Mem) : Nat → Nat → Option Nat := S.2.2.2.2.2.2.2
def up2 {α : Type} (F : Nat → Nat → α) (f a : Nat) (v : α) : Nat → Nat → α := fun g b => if g = f ∧ b = a then v else F g b
def cl2 {α : Type} (F : Nat → Nat → α) (a : Nat) (v : α) : Nat → Nat → α := fun g b => if b = a then v else F g b
def cl1 {α : Type} (F : Nat → Nat → α) (a : Nat) (v : α) : Nat → Nat → α := fun b j => if b = a then v else F b j
abbrev pI (S : Mem) (f a : Nat) (v : Int32) : Mem := (S.1, up2 S.2.1 f a v, S.2.2)
abbrev pL (S : Mem) (f a : Nat) (v : Int64) : Mem := (S.1, S.2.1, up2 S.2.2.1 f a v, S.2.2.2)
abbrev pR (S : Mem) (f a : Nat) (v : Option Nat) : Mem := (S.1, S.2.1, S.2.2.1, up2 S.2.2.2.1 f a v, S.2.2.2.2)
abbrev qI (S : Mem) (a i : Nat) (v : Int32) : Mem := (S.1, S.2.1, S.2.2.1, S.2.2.2.1, S.2.2.2.2.1, up2 S.2.2.2.2.2.1 a i v, S.2.2.2.2.2.2)
abbrev qL (S : Mem) (a i : Nat) (v : Int64) : Mem := (S.1, S.2.1, S.2.2.1, S.2.2.2.1, S.2.2.2.2.1, S.2.2.2.2.2.1, up2 S.2.2.2.2.2.2.1 a i v, S.2.2.2.2.2.2.2)
abbrev qR (S : Mem) (a i : Nat) (v : Option Nat) : Mem := (S.1, S.2.1, S.2.2.1, S.2.2.2.1, S.2.2.2.2.1, S.2.2.2.2.2.1, S.2.2.2.2.2.2.1, up2 S.2.2.2.2.2.2.2 a i v)
abbrev nO (S : Mem) (a ci : Nat) : Mem := (va_up S.1 a (ci + 1), cl2 S.2.1 a 0, cl2 S.2.2.1 a 0, cl2 S.2.2.2.1 a none, S.2.2.2.2)
abbrev nA (S : Mem) (a t n : Nat) : Mem := (va_up S.1 a (t + 21), S.2.1, S.2.2.1, S.2.2.2.1, va_up S.2.2.2.2.1 a n, cl1 S.2.2.2.2.2.1 a 0, cl1 S.2.2.2.2.2.2.1 a 0, cl1 S.2.2.2.2.2.2.2 a none)
def tyOf (ci k : Nat) : FieldType := match ci with
  | 0 => tyX0 k
  | 1 => tyX1 k
  | 2 => tyX2 k
  | 3 => tyX3 k
  | 4 => tyX4 k
  | 5 => tyX5 k
  | 6 => tyX6 k
  | 7 => tyX7 k
  | 8 => tyX8 k
  | 9 => tyX9 k
  | 10 => tyX10 k
  | 11 => tyX11 k
  | _ => tyX12 k
/-- a field's shape: 0 a number of 32 bits, 1 of 64, 2 a reference -/
def shp (ci k : Nat) : Nat := match tyOf ci k with
  | .long => 1
  | .object _ => 2
  | .array _ => 2
  | _ => 0
def sval (ci k : Nat) (S : Mem) (a : Nat) : Value := match shp ci k with
  | 0 => .int (mI S (100 * ci + k) a)
  | 1 => .long (mL S (100 * ci + k) a)
  | _ => va_rf (mR S (100 * ci + k) a)
def marr (t : Nat) (S : Mem) (a : Nat) : (Nat → Int32) ⊕ (Nat → Int64) ⊕ (Nat → UInt32) ⊕ (Nat → UInt64) ⊕ (Nat → Option Nat) := match t with
  | 0 => .inl (aI S a)
  | 1 => .inr (.inl (aL S a))
  | 2 => .inl (aI S a)
  | 3 => .inl (aI S a)
  | _ => .inr (.inr (.inr (.inr (aR S a))))
abbrev gD : Type := (Nat → ClassId) × (Nat → Nat → Nat) × (Nat → ClassId)
def gtys (dA : Nat → ClassId) : List (ClassId × FieldType) := [(dA 0, .int), (dA 1, .long), (dA 2, .byte), (dA 3, .boolean), (dA 4, .object RX5), (dA 5, .object RX4), (dA 6, .object RX2), (dA 7, .object RX0)]
def gAO (U : State) : Prop := va_AO RX5 U ∧ va_AO RX4 U ∧ va_AO RX2 U ∧ va_AO RX0 U
def gK (D : gD) (U : State) : Prop := va_K (D.1, D.2.1) vwCl (gtys D.2.2) U ∧ gAO U
theorem gK.moved {D : gD} {u U : State} (hv : u.vm.Alike U.vm) (h : gK D u) : gK D U := ⟨va_K.moved hv h.1, h.2.1.moved hv, h.2.2.1.moved hv, h.2.2.2.1.moved hv, h.2.2.2.2.moved hv⟩
/-- the cell at a is what the memory says -/
def mOK (D : gD) (S : Mem) (a : Nat) (H : Heap) : Prop :=
  (∀ (ci : Nat) (r : vw_C), mK S a = ci + 1 → vwCl[ci]? = some r → t_OB a (D.1 ci) r.2.2 (D.2.1 ci) H (fun k => sval ci k S a)) ∧
  (∀ t : Nat, mK S a = t + 21 → t < 8 → H[a]? = some (vp_cell (D.2.2 t) (mN S a, marr t S a)))
def nSl (H0 H : Heap) : Nat := ((H.toList.drop H0.size).map (fun c => c.slots.size)).sum
/-- the heap holds the memory; below H0's end it is H0; k cells of n slots are new since H0; what was written lies behind H0 -/
def mH (D : gD) (H0 : Heap) (S : Mem) (k n : Nat) (H : Heap) (locs : List Loc) : Prop :=
  (∀ a, mK S a ≠ 0 → H0.size ≤ a ∧ a < H.size ∧ mOK D S a H) ∧ (∀ q, q < H0.size → H[q]? = H0[q]?) ∧ H.size = H0.size + k ∧ nSl H0 H = n ∧ ∀ l ∈ locs, H0.size ≤ l.base
theorem mH.fresh {D : gD} {H0 H : Heap} {S : Mem} {k n : Nat} {locs : List Loc} (h : mH D H0 S k n H locs) {a : Nat} (ha : H.size ≤ a) : mK S a = 0 := by
  cases hz : mK S a with
  | zero => rfl
  | succ j => exact absurd (h.1 a (by rw [hz]; exact Nat.succ_ne_zero j)).2.1 (Nat.not_lt.mpr ha)
theorem mH.locs {D : gD} {H0 H : Heap} {S : Mem} {k n : Nat} {locs l2 : List Loc} (h : mH D H0 S k n H locs) (h2 : ∀ l ∈ l2, H0.size ≤ l.base) : mH D H0 S k n H l2 := ⟨h.1, h.2.1, h.2.2.1, h.2.2.2.1, h2⟩
theorem mOK.kept {D : gD} {S : Mem} {a : Nat} {H H1 : Heap} (h : mOK D S a H) (hq : H1[a]? = H[a]?) : mOK D S a H1 :=
  ⟨fun ci r h1 h2 => (h.1 ci r h1 h2).kept hq, fun t h1 h2 => hq.trans (h.2 t h1 h2)⟩
/-- the memories say the same of the cell at b -/
def mSame (S S1 : Mem) (b : Nat) : Prop := mK S1 b = mK S b ∧ (∀ ci k, sval ci k S1 b = sval ci k S b) ∧ mN S1 b = mN S b ∧ ∀ t, marr t S1 b = marr t S b
theorem mOK.same {D : gD} {S S1 : Mem} {b : Nat} {H : Heap} (h : mOK D S b H) (hs : mSame S S1 b) : mOK D S1 b H := by
  obtain ⟨e1, e2, e3, e4⟩ := hs
  refine ⟨fun ci r h1 h2 => (h.1 ci r (e1 ▸ h1) h2).to (fun k _ => (e2 ci k).symm), fun t h1 h2 => ?_⟩
  rw [e3, e4]
  exact h.2 t (e1 ▸ h1) h2
/-- one cell of the heap was written, its slots as many as before -/
theorem mH.write {D : gD} {H0 H H1 : Heap} {S S1 : Mem} {k n a i : Nat} {locs : List Loc} {cell cell1 : Cell} (h : mH D H0 S k n H locs) (ha : mK S a ≠ 0) (hk : ∀ b, mK S1 b = mK S b) (hc : H[a]? = some cell) (hc1 : H1[a]? = some cell1) (hsz : cell1.slots.size = cell.slots.size)
    (z : H1.size = H.size) (oq : ∀ q, q ≠ a → H1[q]? = H[q]?) (hs : ∀ b, b ≠ a → mSame S S1 b) (hok : mOK D S1 a H1) : mH D H0 S1 k n H1 (locs ++ [⟨a, i⟩]) := by
  have hba : H0.size ≤ a := (h.1 a ha).1
  refine ⟨fun b hb => ?_, fun q hq => ?_, z.trans h.2.2.1, ?_, fun l hl => ?_⟩
  · rw [hk] at hb
    obtain ⟨g1, g2, g3⟩ := h.1 b hb
    refine ⟨g1, by rw [z]; exact g2, ?_⟩
    by_cases e : b = a
    · rw [e]; exact hok
    · exact (g3.kept (oq b e)).same (hs b e)
  · rw [oq q (by omega)]; exact h.2.1 q hq
  · rw [← h.2.2.2.1]
    have hm : H1.toList.map (fun c => c.slots.size) = H.toList.map (fun c => c.slots.size) := by
      apply List.ext_getElem?
      intro q
      rw [List.getElem?_map, List.getElem?_map, Array.getElem?_toList, Array.getElem?_toList]
      by_cases e : q = a
      · subst e; rw [hc, hc1]; simp [hsz]
      · rw [oq q e]
    show ((H1.toList.drop H0.size).map (fun c => c.slots.size)).sum = ((H.toList.drop H0.size).map (fun c => c.slots.size)).sum
    rw [List.map_drop, List.map_drop, hm]
  · rcases List.mem_append.mp hl with h1 | h1
    · exact h.2.2.2.2 l h1
    · rw [List.mem_singleton.mp h1]; exact hba
/-- a cell came -/
theorem mH.push {D : gD} {H0 H H1 : Heap} {S S1 : Mem} {k n w : Nat} {locs : List Loc} {cell : Cell} (h : mH D H0 S k n H locs) (hc : H1[H.size]? = some cell) (hw : cell.slots.size = w) (z : H1.size = H.size + 1) (oq : ∀ q, q < H.size → H1[q]? = H[q]?)
    (hs : ∀ b, b ≠ H.size → mSame S S1 b) (hok : mOK D S1 H.size H1) : mH D H0 S1 (k + 1) (n + w) H1 locs := by
  have hle : H0.size ≤ H.size := by rw [h.2.2.1]; omega
  refine ⟨fun b hb => ?_, fun q hq => ?_, by rw [z, h.2.2.1]; omega, ?_, h.2.2.2.2⟩
  · by_cases e : b = H.size
    · rw [e]; exact ⟨hle, by omega, hok⟩
    · have hb' : mK S b ≠ 0 := by rw [← (hs b e).1]; exact hb
      obtain ⟨g1, g2, g3⟩ := h.1 b hb'
      exact ⟨g1, by omega, (g3.kept (oq b g2)).same (hs b e)⟩
  · rw [oq q (by omega)]; exact h.2.1 q hq
  · have hl : H1.toList = H.toList ++ [cell] := by
      apply List.ext_getElem?
      intro q
      rw [Array.getElem?_toList]
      rcases Nat.lt_trichotomy q H.size with e | e | e
      · rw [oq q e, List.getElem?_append_left (by simpa using e), Array.getElem?_toList]
      · subst e; rw [hc, List.getElem?_append_right (by simp)]; simp
      · rw [List.getElem?_append_right (by simp; omega)]
        have h1 : H1[q]? = none := by rw [Array.getElem?_eq_none_iff, z]; omega
        rw [h1]
        symm
        rw [List.getElem?_eq_none_iff]
        simp; omega
    show ((H1.toList.drop H0.size).map (fun c => c.slots.size)).sum = n + w
    rw [hl, List.drop_append_of_le_length (by simpa using hle), List.map_append, List.sum_append, ← h.2.2.2.1, ← hw]
    simp [nSl]
theorem mSame.rf {S : Mem} {b : Nat} : mSame S S b := ⟨rfl, fun _ _ => rfl, rfl, fun _ => rfl⟩
theorem up2_ne {α : Type} {F : Nat → Nat → α} {f a g b : Nat} {v : α} (h : ¬ (g = f ∧ b = a)) : up2 F f a v g b = F g b := by simp [up2, h]
theorem up2_eq {α : Type} {F : Nat → Nat → α} {f a : Nat} {v : α} : up2 F f a v f a = v := by simp [up2]
theorem sval_pI {S : Mem} {f a b : Nat} {v : Int32} (h : b ≠ a) (ci k : Nat) : sval ci k (pI S f a v) b = sval ci k S b := by
  unfold sval
  split <;> simp [mI, mL, mR, up2, h]
theorem sval_pL {S : Mem} {f a b : Nat} {v : Int64} (h : b ≠ a) (ci k : Nat) : sval ci k (pL S f a v) b = sval ci k S b := by
  unfold sval
  split <;> simp [mI, mL, mR, up2, h]
theorem sval_pR {S : Mem} {f a b : Nat} {v : Option Nat} (h : b ≠ a) (ci k : Nat) : sval ci k (pR S f a v) b = sval ci k S b := by
  unfold sval
  split <;> simp [mI, mL, mR, up2, h]
theorem marr_q {S S1 : Mem} {b : Nat} (h1 : aI S1 b = aI S b) (h2 : aL S1 b = aL S b) (h3 : aR S1 b = aR S b) (t : Nat) : marr t S1 b = marr t S b := by
  unfold marr
  split <;> simp [h1, h2, h3]
theorem inT0 : ∀ w ∈ wsX00, w ∈ gT := by decide +kernel
theorem inT1 : ∀ w ∈ wsX10, w ∈ gT := by decide +kernel
theorem inT2 : ∀ w ∈ wsX20, w ∈ gT := by decide +kernel
theorem inT3 : ∀ w ∈ wsX30, w ∈ gT := by decide +kernel
theorem inT4 : ∀ w ∈ wsX40, w ∈ gT := by decide +kernel
theorem inT5 : ∀ w ∈ wsX50, w ∈ gT := by decide +kernel
theorem inT6 : ∀ w ∈ wsX60, w ∈ gT := by decide +kernel
theorem inT7 : ∀ w ∈ wsX70, w ∈ gT := by decide +kernel
theorem inT8 : ∀ w ∈ wsX80, w ∈ gT := by decide +kernel
theorem inT9 : ∀ w ∈ wsX90, w ∈ gT := by decide +kernel
theorem inT10 : ∀ w ∈ wsX100, w ∈ gT := by decide +kernel
theorem inT11 : ∀ w ∈ wsX110, w ∈ gT := by decide +kernel
theorem inT12 : ∀ w ∈ wsX120, w ∈ gT := by decide +kernel
/-- what holds of each class's fields -/
theorem cls_ok (ci : Nat) (r : vw_C) (h : vwCl[ci]? = some r) : ci < 13 ∧ (∀ w ∈ u_ws r.1 r.2.1 r.2.2, w ∈ gT) ∧ (∀ k, k < r.2.2 → parseFieldDescriptor (r.2.1 k).2.2.1 = some (tyOf ci k)) ∧ (∀ a, a < r.2.2 → ∀ b, b < r.2.2 → a ≠ b → (r.2.1 a).2.1 ≠ (r.2.1 b).2.1) ∧ r.2.2 < 100 := by
  match ci, h with
  | 0, h => cases h; exact ⟨by decide, inT0, tyX0_ok, nmX0, by decide⟩
  | 1, h => cases h; exact ⟨by decide, inT1, tyX1_ok, nmX1, by decide⟩
  | 2, h => cases h; exact ⟨by decide, inT2, tyX2_ok, nmX2, by decide⟩
  | 3, h => cases h; exact ⟨by decide, inT3, tyX3_ok, nmX3, by decide⟩
  | 4, h => cases h; exact ⟨by decide, inT4, tyX4_ok, nmX4, by decide⟩
  | 5, h => cases h; exact ⟨by decide, inT5, tyX5_ok, nmX5, by decide⟩
  | 6, h => cases h; exact ⟨by decide, inT6, tyX6_ok, nmX6, by decide⟩
  | 7, h => cases h; exact ⟨by decide, inT7, tyX7_ok, nmX7, by decide⟩
  | 8, h => cases h; exact ⟨by decide, inT8, tyX8_ok, nmX8, by decide⟩
  | 9, h => cases h; exact ⟨by decide, inT9, tyX9_ok, nmX9, by decide⟩
  | 10, h => cases h; exact ⟨by decide, inT10, tyX10_ok, nmX10, by decide⟩
  | 11, h => cases h; exact ⟨by decide, inT11, tyX11_ok, nmX11, by decide⟩
  | 12, h => cases h; exact ⟨by decide, inT12, tyX12_ok, nmX12, by decide⟩
  | n + 13, h => exact absurd (List.getElem?_eq_some_iff.mp h).1 (by simp [vwCl])
end
section
/-- what a method's body has at hand -/
def Cx (D : gD) (p : Program) (s : State) (m : MethodId) (args : Array Value) (c : Code) (cc : ByteArray) (nL : Nat) (own : String) : Prop :=
  p.tables.exec = Jvm.exec ∧ c.code = cc ∧ c.maxLocals = nL ∧ s.vm.findClass own = some m.cls ∧ (∀ w ∈ gT, w.before args s = true) ∧ gK D s ∧ gNW s
/-- the field k of the class ci under the number index of the class own -/
def fl (own : String) (index ci k : Nat) : Prop := ∃ r : vw_C, vwCl[ci]? = some r ∧ k < r.2.2 ∧ Cond.fieldLink own index (r.2.1 k).1 (r.2.1 k).2.1 (r.2.1 k).2.2.1 ∈ gT
def fn (own : String) (index ci k : Nat) : Prop := ∃ (r : vw_C) (host : String), vwCl[ci]? = some r ∧ k < r.2.2 ∧ Cond.fieldLinkNest own index (r.2.1 k).1 (r.2.1 k).2.1 (r.2.1 k).2.2.1 host ∈ tables_1
section Rows
variable {p : Program} {l : Launch} {e : Env} {R : Room} {s : State} {m : MethodId} {args : Array Value} {below : List Frame} {meth : Method} {c : Code} {H : Heap} {locs : List Loc} {cells slots : Nat} {Q : State → Prop}
variable {cc : ByteArray} {pc nL : Nat} {own : String} {ls : Array Slot} {rest : List Value} {D : gD} {H0 : Heap} {S S1 : Mem} {kc ns a : Nat}
theorem r_get {ci k index : Nat} {v : Value} (C : Cx D p s m args c cc nL own) (hM : mH D H0 S kc ns H locs) (hk : mK S a = ci + 1) (hf : fl own index ci k) (hv : sval ci k S a = v) (hdg : decode cc pc = .ok (.getfield index, 3))
    (kk : W p l e R s m args below meth c H locs cells slots Q (F0 m (pc + 3) ls (v :: rest))) : W p l e R s m args below meth c H locs cells slots Q (F0 m pc ls (.ref a :: rest)) := by
  obtain ⟨hx, hb, -, hown, hts, hK, -⟩ := C
  obtain ⟨r, hr, hkN, hw⟩ := hf
  obtain ⟨cell, q1, q2, q3, q4⟩ := (hM.1 a (by rw [hk]; omega)).2.2.1 ci r hk hr
  obtain ⟨hS, hfc, kC, hkC, hkind⟩ := hK.1.1 ci _ hr
  obtain ⟨cf, kf, fi, f, hi, hsl⟩ := hS k hkN
  refine W.getf hx hb hown (hts _ hw) hi (u_facts hfc hkC (u_lays hts (cls_ok ci r hr).2.1 hkN) hi).1 q1 (by rw [q3]; exact fun h => by cases h) (v := v) ?_ rfl rfl hdg kk
  rw [hsl, q4 k hkN, ← hv]
theorem r_getN {ci k index : Nat} {v : Value} (C : Cx D p s m args c cc nL own) (hM : mH D H0 S kc ns H locs) (hk : mK S a = ci + 1) (hf : fn own index ci k) (hv : sval ci k S a = v) (hdg : decode cc pc = .ok (.getfield index, 3))
    (kk : W p l e R s m args below meth c H locs cells slots Q (F0 m (pc + 3) ls (v :: rest))) : W p l e R s m args below meth c H locs cells slots Q (F0 m pc ls (.ref a :: rest)) := by
  obtain ⟨hx, hb, -, hown, hts, hK, hN⟩ := C
  obtain ⟨r, host, hr, hkN, hw⟩ := hf
  obtain ⟨cell, q1, q2, q3, q4⟩ := (hM.1 a (by rw [hk]; omega)).2.2.1 ci r hk hr
  obtain ⟨hS, hfc, kC, hkC, hkind⟩ := hK.1.1 ci _ hr
  obtain ⟨cf, kf, fi, f, hi, hsl⟩ := hS k hkN
  refine va_Wgetf hx hb hown (va_Nw.use rfl (hN _ hw rfl)) hi (u_facts hfc hkC (u_lays hts (cls_ok ci r hr).2.1 hkN) hi).1 q1 (by rw [q3]; exact fun h => by cases h) (v := v) ?_ rfl rfl hdg kk
  rw [hsl, q4 k hkN, ← hv]
theorem sval_cg {S S1 : Mem} {ci j a : Nat} (h1 : mI S1 (100 * ci + j) a = mI S (100 * ci + j) a) (h2 : mL S1 (100 * ci + j) a = mL S (100 * ci + j) a) (h3 : mR S1 (100 * ci + j) a = mR S (100 * ci + j) a) : sval ci j S1 a = sval ci j S a := by
  unfold sval
  rw [h1, h2, h3]
/-- the memory with one field of one object written -/
def mPut (S S1 : Mem) (ci k a : Nat) (v : Value) : Prop := (∀ b, mK S1 b = mK S b) ∧ (∀ b, b ≠ a → mSame S S1 b) ∧ ∀ j, j < 100 → sval ci j S1 a = updV (fun j => sval ci j S a) k v j
theorem mPut.I {S : Mem} {ci k a : Nat} {x : Int32} (h : shp ci k = 0) : mPut S (pI S (100 * ci + k) a x) ci k a (.int x) := by
  refine ⟨fun _ => rfl, fun b hb => ⟨rfl, fun ci' k' => sval_pI hb ci' k', rfl, fun _ => rfl⟩, fun j hj => ?_⟩
  unfold updV
  by_cases e : j = k
  · subst e
    unfold sval
    rw [h]
    simp [mI, up2]
  · rw [if_neg e]
    exact sval_cg (by simp [mI, up2, e]) (by simp [mL, up2, e]) (by simp [mR, up2, e])
theorem mPut.L {S : Mem} {ci k a : Nat} {x : Int64} (h : shp ci k = 1) : mPut S (pL S (100 * ci + k) a x) ci k a (.long x) := by
  refine ⟨fun _ => rfl, fun b hb => ⟨rfl, fun ci' k' => sval_pL hb ci' k', rfl, fun _ => rfl⟩, fun j hj => ?_⟩
  unfold updV
  by_cases e : j = k
  · subst e
    unfold sval
    rw [h]
    simp [mL, up2]
  · rw [if_neg e]
    exact sval_cg (by simp [mI, up2, e]) (by simp [mL, up2, e]) (by simp [mR, up2, e])
theorem mPut.Rf {S : Mem} {ci k a : Nat} {x : Option Nat} (h : shp ci k = 2) : mPut S (pR S (100 * ci + k) a x) ci k a (va_rf x) := by
  refine ⟨fun _ => rfl, fun b hb => ⟨rfl, fun ci' k' => sval_pR hb ci' k', rfl, fun _ => rfl⟩, fun j hj => ?_⟩
  unfold updV
  by_cases e : j = k
  · subst e
    unfold sval
    rw [h]
    simp [mR, up2]
  · rw [if_neg e]
    exact sval_cg (by simp [mI, up2, e]) (by simp [mL, up2, e]) (by simp [mR, up2, e])
theorem mPut.done {ci k i : Nat} {r : vw_C} {v : Value} {cell : Cell} {H1 : Heap} {Ts : List Cond} (hts : ∀ w ∈ Ts, w.before args s = true) (hin : ∀ w ∈ u_ws r.1 r.2.1 r.2.2, w ∈ Ts) (hK : gK D s) (hM : mH D H0 S kc ns H locs) (hk : mK S a = ci + 1) (hr : vwCl[ci]? = some r) (hkN : k < r.2.2) (hp : mPut S S1 ci k a v) (q1 : H[a]? = some cell) (q2 : cell.cls = D.1 ci) (q3 : cell.vm = .none) (q4 : ∀ j, j < r.2.2 → cell.slots[D.2.1 ci j]? = some (sval ci j S a))
    (e1 : H1[a]? = some (cell.setSlot (D.2.1 ci k) v)) (e2 : H1.size = H.size) (e3 : ∀ q, q ≠ a → H1[q]? = H[q]?) : mH D H0 S1 kc ns H1 (locs ++ [⟨a, i⟩]) := by
  obtain ⟨hci, -, hty, hnm, h100⟩ := cls_ok ci r hr
  obtain ⟨h1, h2, h3⟩ := hp
  have hap := va_apart (own := "") (C := r.1) (T := r.2.1) (N := r.2.2) (ci := ci) hts hin (tyOf ci) hty hnm hK.1 hr
  refine hM.write (by rw [hk]; omega) h1 q1 e1 (by simp [Cell.setSlot]) e2 e3 h2 ⟨fun ci' r' hk' hr' => ?_, fun t ht htl => ?_⟩
  · rw [h1, hk] at hk'
    have hc : ci' = ci := by omega
    subst hc
    have hr2 : r' = r := Option.some.inj (hr'.symm.trans hr)
    subst hr2
    exact t_OB.to (V := updV (fun j => sval ci' j S a) k v) ⟨_, e1, q2, q3, t_set q4 hap hkN v⟩ (fun j hj => (h3 j (by omega)).symm)
  · rw [h1, hk] at ht
    omega
theorem r_put {ci k index : Nat} {v : Value} (C : Cx D p s m args c cc nL own) (hM : mH D H0 S kc ns H locs) (hk : mK S a = ci + 1) (hf : fl own index ci k) (hfin : ∀ r : vw_C, vwCl[ci]? = some r → (r.2.1 k).2.2.2 = false) (hn : narrow (tyOf ci k) v = v) (hfit : fits (tyOf ci k) v = true) (hp : mPut S S1 ci k a v) (hdg : decode cc pc = .ok (.putfield index, 3))
    (kk : ∀ (H1 : Heap) (locs1 : List Loc), mH D H0 S1 kc ns H1 locs1 → W p l e R s m args below meth c H1 locs1 cells slots Q (F0 m (pc + 3) ls rest)) : W p l e R s m args below meth c H locs cells slots Q (F0 m pc ls (v :: .ref a :: rest)) := by
  obtain ⟨hx, hb, -, hown, hts, hK, -⟩ := C
  obtain ⟨r, hr, hkN, hw⟩ := hf
  obtain ⟨cell, q1, q2, q3, q4⟩ := (hM.1 a (by rw [hk]; omega)).2.2.1 ci r hk hr
  obtain ⟨hci, hin, hty, hnm, h100⟩ := cls_ok ci r hr
  obtain ⟨hS, hfc, kC, hkC, hkind⟩ := hK.1.1 ci _ hr
  obtain ⟨cf, kf, fi, f, hi, hsl⟩ := hS k hkN
  have hlay := hts _ (hin _ (u_in_lay hkN))
  unfold u_lay at hlay
  rw [if_neg (by rw [hfin r hr]; decide)] at hlay
  have hst := (u_facts hfc hkC (u_lays hts hin hkN) hi).1
  have h6 := u_store hfc hkC hkind hlay hi (hty k hkN) hn hfit
  refine W.putK hx hb (f := f) ⟨hown, hts _ hw, ⟨_, _, _, hi⟩, hst⟩ (by rw [q2]; exact h6) q1 q3 (by rw [hsl]; exact k2_hasslot (q4 k hkN)) rfl rfl hdg fun H' e1 e2 e3 => ?_
  rw [hsl] at e1 ⊢
  exact kk H' _ (hp.done hts hin hK hM hk hr hkN q1 q2 q3 q4 e1 e2 e3)
theorem r_putN {ci k index : Nat} {v : Value} (C : Cx D p s m args c cc nL own) (hM : mH D H0 S kc ns H locs) (hk : mK S a = ci + 1) (hf : fn own index ci k) (hfin : ∀ r : vw_C, vwCl[ci]? = some r → (r.2.1 k).2.2.2 = false) (hn : narrow (tyOf ci k) v = v) (hfit : fits (tyOf ci k) v = true) (hp : mPut S S1 ci k a v) (hdg : decode cc pc = .ok (.putfield index, 3))
    (kk : ∀ (H1 : Heap) (locs1 : List Loc), mH D H0 S1 kc ns H1 locs1 → W p l e R s m args below meth c H1 locs1 cells slots Q (F0 m (pc + 3) ls rest)) : W p l e R s m args below meth c H locs cells slots Q (F0 m pc ls (v :: .ref a :: rest)) := by
  obtain ⟨hx, hb, -, hown, hts, hK, hN⟩ := C
  obtain ⟨r, host, hr, hkN, hw⟩ := hf
  obtain ⟨cell, q1, q2, q3, q4⟩ := (hM.1 a (by rw [hk]; omega)).2.2.1 ci r hk hr
  obtain ⟨hci, hin, hty, hnm, h100⟩ := cls_ok ci r hr
  obtain ⟨hS, hfc, kC, hkC, hkind⟩ := hK.1.1 ci _ hr
  obtain ⟨cf, kf, fi, f, hi, hsl⟩ := hS k hkN
  have hlay := hts _ (hin _ (u_in_lay hkN))
  unfold u_lay at hlay
  rw [if_neg (by rw [hfin r hr]; decide)] at hlay
  have hst := (u_facts hfc hkC (u_lays hts hin hkN) hi).1
  have h6 := u_store hfc hkC hkind hlay hi (hty k hkN) hn hfit
  refine va_WputK hx hb (f := f) hown (va_Nw.use rfl (hN _ hw rfl)) hi hst (by rw [q2]; exact h6) q1 q3 (by rw [hsl]; exact k2_hasslot (q4 k hkN)) rfl rfl hdg fun H' e1 e2 e3 => ?_
  rw [hsl] at e1 ⊢
  exact kk H' _ (hp.done hts hin hK hM hk hr hkN q1 q2 q3 q4 e1 e2 e3)
theorem r_putF {ci k index : Nat} {v : Value} (C : Cx D p s m args c cc nL own) (hM : mH D H0 S kc ns H locs) (hk : mK S a = ci + 1) (hf : fl own index ci k) (hfin : ∀ r : vw_C, vwCl[ci]? = some r → (r.2.1 k).2.2.2 = true ∧ (r.2.1 k).1 = own) (hin2 : meth.name = "<init>") (hn : narrow (tyOf ci k) v = v) (hfit : fits (tyOf ci k) v = true) (hp : mPut S S1 ci k a v) (hdg : decode cc pc = .ok (.putfield index, 3))
    (kk : ∀ (H1 : Heap) (locs1 : List Loc), mH D H0 S1 kc ns H1 locs1 → W p l e R s m args below meth c H1 locs1 cells slots Q (F0 m (pc + 3) ls rest)) : W p l e R s m args below meth c H locs cells slots Q (F0 m pc ls (v :: .ref a :: rest)) := by
  obtain ⟨hx, hb, -, hown, hts, hK, -⟩ := C
  obtain ⟨r, hr, hkN, hw⟩ := hf
  obtain ⟨cell, q1, q2, q3, q4⟩ := (hM.1 a (by rw [hk]; omega)).2.2.1 ci r hk hr
  obtain ⟨hci, hin, hty, hnm, h100⟩ := cls_ok ci r hr
  obtain ⟨hS, hfc, kC, hkC, hkind⟩ := hK.1.1 ci _ hr
  obtain ⟨cf, kf, fi, f, hi, hsl⟩ := hS k hkN
  have hlay := hts _ (hin _ (u_in_lay hkN))
  unfold u_lay at hlay
  rw [if_pos (hfin r hr).1] at hlay
  have hst := (u_facts hfc hkC (u_lays hts hin hkN) hi).1
  have hcf : m.cls = cf := by
    obtain ⟨_, _, c', _, _, _, -, -, hf', -, -, -, hown2, -⟩ := Cond.laysFinal_spec hlay
    have e1 : c' = cf := by have := hi.symm.trans hf'; simp at this; exact this.1.symm
    rw [(hfin r hr).2] at hown2
    rw [← e1]; exact Option.some.inj (hown.symm.trans hown2)
  have h6 := u_fits hfc hkC hkind (Or.inr hlay) hi (hty k hkN) hn hfit
  refine W.putFinK hx hb hown (hts _ hw) hi hst hcf hin2 (by rw [q2]; exact h6) q1 q3 (by rw [hsl]; exact k2_hasslot (q4 k hkN)) rfl rfl hdg fun H' e1 e2 e3 => ?_
  rw [hsl] at e1 ⊢
  exact kk H' _ (hp.done hts hin hK hM hk hr hkN q1 q2 q3 q4 e1 e2 e3)
/-- arrays: t the type's number -/
theorem mH.arr {t : Nat} (hM : mH D H0 S kc ns H locs) (hk : mK S a = t + 21) (ht : t < 8) : H[a]? = some (vp_cell (D.2.2 t) (mN S a, marr t S a)) := (hM.1 a (by rw [hk]; omega)).2.2.2 t hk ht
theorem r_alen {t : Nat} {v : Int32} (C : Cx D p s m args c cc nL own) (hM : mH D H0 S kc ns H locs) (hk : mK S a = t + 21) (ht : t < 8) (hv : Int32.ofNat (mN S a) = v) (hdg : decode cc pc = .ok (.arraylength, 1))
    (kk : W p l e R s m args below meth c H locs cells slots Q (F0 m (pc + 1) ls (.int v :: rest))) : W p l e R s m args below meth c H locs cells slots Q (F0 m pc ls (.ref a :: rest)) := by
  obtain ⟨hx, hb, -, hown, hts, hK, -⟩ := C
  obtain ⟨ty, hty⟩ : ∃ ty, (gtys D.2.2)[t]? = some (D.2.2 t, ty) := by
    match t, ht with
    | 0, _ => exact ⟨_, rfl⟩
    | 1, _ => exact ⟨_, rfl⟩
    | 2, _ => exact ⟨_, rfl⟩
    | 3, _ => exact ⟨_, rfl⟩
    | 4, _ => exact ⟨_, rfl⟩
    | 5, _ => exact ⟨_, rfl⟩
    | 6, _ => exact ⟨_, rfl⟩
    | 7, _ => exact ⟨_, rfl⟩
    | n + 8, h => omega
  exact va_alen (D := (D.1, D.2.1)) (cl := vwCl) (ws := [(a, .inl (D.2.2 t, mN S a, marr t S a))]) hx hb hK.1 (fun k q h => by
    match k, h with
    | 0, h => cases h; exact hM.arr hk ht
    | n + 1, h => simp at h) 0 t rfl hty hv hdg kk
theorem va_P1 {D0 : va_G} {cl : List vw_C} {a : Nat} {x : ClassId × vp_A} {H : Heap} (h : H[a]? = some (vp_cell x.1 x.2)) : va_P D0 cl [(a, .inl x)] H := fun k q hq => by
  match k, hq with
  | 0, hq => cases hq; exact h
  | n + 1, hq => simp at hq
theorem r_iald {i : Int32} (C : Cx D p s m args c cc nL own) (hM : mH D H0 S kc ns H locs) (hk : mK S a = 21) (hin : vp_in i (mN S a)) (hdg : decode cc pc = .ok (.iaload, 1))
    (kk : W p l e R s m args below meth c H locs cells slots Q (F0 m (pc + 1) ls (.int (aI S a i.toNatClampNeg) :: rest))) : W p l e R s m args below meth c H locs cells slots Q (F0 m pc ls (.int i :: .ref a :: rest)) :=
  va_iald (D := (D.1, D.2.1)) (cl := vwCl) (n := mN S a) (f := aI S a) C.1 C.2.1 C.2.2.2.2.2.1.1 (va_P1 (hM.arr (t := 0) hk (by decide))) 0 0 rfl rfl hin hdg kk
theorem r_bald {i : Int32} (C : Cx D p s m args c cc nL own) (hM : mH D H0 S kc ns H locs) (hk : mK S a = 23) (hin : vp_in i (mN S a)) (hdg : decode cc pc = .ok (.baload, 1))
    (kk : W p l e R s m args below meth c H locs cells slots Q (F0 m (pc + 1) ls (.int (aI S a i.toNatClampNeg) :: rest))) : W p l e R s m args below meth c H locs cells slots Q (F0 m pc ls (.int i :: .ref a :: rest)) :=
  va_bald (D := (D.1, D.2.1)) (cl := vwCl) (n := mN S a) (f := aI S a) C.1 C.2.1 C.2.2.2.2.2.1.1 (va_P1 (hM.arr (t := 2) hk (by decide))) 0 2 rfl rfl hin hdg kk
theorem r_zald {i : Int32} (C : Cx D p s m args c cc nL own) (hM : mH D H0 S kc ns H locs) (hk : mK S a = 24) (hin : vp_in i (mN S a)) (hdg : decode cc pc = .ok (.baload, 1))
    (kk : W p l e R s m args below meth c H locs cells slots Q (F0 m (pc + 1) ls (.int (aI S a i.toNatClampNeg) :: rest))) : W p l e R s m args below meth c H locs cells slots Q (F0 m pc ls (.int i :: .ref a :: rest)) :=
  va_zald (D := (D.1, D.2.1)) (cl := vwCl) (n := mN S a) (f := aI S a) C.1 C.2.1 C.2.2.2.2.2.1.1 (va_P1 (hM.arr (t := 3) hk (by decide))) 0 3 rfl rfl hin hdg kk
theorem r_lald {i : Int32} (C : Cx D p s m args c cc nL own) (hM : mH D H0 S kc ns H locs) (hk : mK S a = 22) (hin : vp_in i (mN S a)) (hdg : decode cc pc = .ok (.laload, 1))
    (kk : W p l e R s m args below meth c H locs cells slots Q (F0 m (pc + 1) ls (.long (aL S a i.toNatClampNeg) :: rest))) : W p l e R s m args below meth c H locs cells slots Q (F0 m pc ls (.int i :: .ref a :: rest)) :=
  va_lald (D := (D.1, D.2.1)) (cl := vwCl) (n := mN S a) (f := aL S a) C.1 C.2.1 C.2.2.2.2.2.1.1 (va_P1 (hM.arr (t := 1) hk (by decide))) 0 1 rfl rfl hin hdg kk
theorem r_aald {t : Nat} {i : Int32} {nm : String} (C : Cx D p s m args c cc nL own) (hM : mH D H0 S kc ns H locs) (hk : mK S a = t + 25) (hty : (gtys D.2.2)[t + 4]? = some (D.2.2 (t + 4), .object nm)) (ht : t < 4) (hin : vp_in i (mN S a)) (hdg : decode cc pc = .ok (.aaload, 1))
    (kk : W p l e R s m args below meth c H locs cells slots Q (F0 m (pc + 1) ls (va_rf (aR S a i.toNatClampNeg) :: rest))) : W p l e R s m args below meth c H locs cells slots Q (F0 m pc ls (.int i :: .ref a :: rest)) :=
  va_aldq (D := (D.1, D.2.1)) (cl := vwCl) (n := mN S a) (f := aR S a) C.1 C.2.1 C.2.2.2.2.2.1.1 (va_P1 (hM.arr (t := t + 4) (by omega) (by omega))) 0 (t + 4) rfl hty hin hdg kk
theorem mOK.at {t : Nat} {H1 : Heap} (hk : mK S1 a = t + 21) (ht : t < 8) (h : H1[a]? = some (vp_cell (D.2.2 t) (mN S1 a, marr t S1 a))) : mOK D S1 a H1 := by
  refine ⟨fun ci r h1 h2 => ?_, fun t' h1 h2 => ?_⟩
  · have := (cls_ok ci r h2).1
    omega
  · have hc : t' = t := by omega
    subst hc
    exact h
end Rows
end
section
section Rows2
variable {p : Program} {l : Launch} {e : Env} {R : Room} {s : State} {m : MethodId} {args : Array Value} {below : List Frame} {meth : Method} {c : Code} {H : Heap} {locs : List Loc} {cells slots : Nat} {Q : State → Prop}
variable {cc : ByteArray} {pc nL : Nat} {own : String} {ls : Array Slot} {rest : List Value} {D : gD} {H0 : Heap} {S S1 : Mem} {kc ns a : Nat}
theorem mSame.qI {i : Nat} {x : Int32} {b : Nat} (h : b ≠ a) : mSame S (qI S a i x) b := ⟨rfl, fun _ _ => rfl, rfl, marr_q (by funext j; simp [aI, up2, h]) rfl rfl⟩
theorem mSame.qL {i : Nat} {x : Int64} {b : Nat} (h : b ≠ a) : mSame S (qL S a i x) b := ⟨rfl, fun _ _ => rfl, rfl, marr_q rfl (by funext j; simp [aL, up2, h]) rfl⟩
theorem mSame.qR {i : Nat} {x : Option Nat} {b : Nat} (h : b ≠ a) : mSame S (qR S a i x) b := ⟨rfl, fun _ _ => rfl, rfl, marr_q rfl rfl (by funext j; simp [aR, up2, h])⟩
theorem r_iast {i x : Int32} (C : Cx D p s m args c cc nL own) (hM : mH D H0 S kc ns H locs) (hk : mK S a = 21) (hin : vp_in i (mN S a)) (hdg : decode cc pc = .ok (.iastore, 1))
    (kk : ∀ (H1 : Heap) (locs1 : List Loc), mH D H0 (qI S a i.toNatClampNeg x) kc ns H1 locs1 → W p l e R s m args below meth c H1 locs1 cells slots Q (F0 m (pc + 1) ls rest)) : W p l e R s m args below meth c H locs cells slots Q (F0 m pc ls (.int x :: .int i :: .ref a :: rest)) := by
  have hc := hM.arr (t := 0) hk (by decide)
  refine W.iast C.1 C.2.1 hc ((C.2.2.2.2.2.1.1.2 0 _ rfl).1 (mN S a) (fun j => .int (aI S a j))) (fun q => by cases q) (by show ¬ (i < 0 ∨ (arrV _ _ _).slots.size ≤ _); rw [arrV_size]; exact hin) rfl rfl hdg fun H1 e1 z oq => ?_
  refine kk H1 _ (hM.write (by rw [hk]; decide) (fun _ => rfl) hc e1 (by simp [Cell.setSlot]) z oq (fun b hb => mSame.qI hb) (mOK.at (t := 0) hk (by decide) ?_))
  rw [e1]
  show some ((vp_cell _ (mN S a, .inl (aI S a))).setSlot _ _) = some (vp_cell _ (mN S a, .inl _))
  rw [vp_cell_i, vp_cell_i, arrV_store]
  congr 2
  funext q
  by_cases hq : q = i.toNatClampNeg <;> simp [updV, aI, up2, hq]
theorem r_bast {i x : Int32} (C : Cx D p s m args c cc nL own) (hM : mH D H0 S kc ns H locs) (hk : mK S a = 23) (hin : vp_in i (mN S a)) (hdg : decode cc pc = .ok (.bastore, 1))
    (kk : ∀ (H1 : Heap) (locs1 : List Loc), mH D H0 (qI S a i.toNatClampNeg (vp_nar .byte x)) kc ns H1 locs1 → W p l e R s m args below meth c H1 locs1 cells slots Q (F0 m (pc + 1) ls rest)) : W p l e R s m args below meth c H locs cells slots Q (F0 m pc ls (.int x :: .int i :: .ref a :: rest)) := by
  have hc := hM.arr (t := 2) hk (by decide)
  refine W.bast C.1 C.2.1 hc ((C.2.2.2.2.2.1.1.2 2 _ rfl).1 (mN S a) (fun j => .int (aI S a j))) (fun q => by cases q) (by show ¬ (i < 0 ∨ (arrV _ _ _).slots.size ≤ _); rw [arrV_size]; exact hin) rfl rfl hdg fun H1 e1 z oq => ?_
  refine kk H1 _ (hM.write (by rw [hk]; decide) (fun _ => rfl) hc e1 (by simp [Cell.setSlot]) z oq (fun b hb => mSame.qI hb) (mOK.at (t := 2) hk (by decide) ?_))
  rw [e1]
  show some ((vp_cell _ (mN S a, .inl (aI S a))).setSlot _ _) = some (vp_cell _ (mN S a, .inl _))
  rw [vp_cell_i, vp_cell_i, arrV_store]
  congr 2
  funext q
  by_cases hq : q = i.toNatClampNeg
  · subst hq
    simp [updV, aI, up2, vp_nar]
    try rfl
  · simp [updV, aI, up2, hq]
theorem r_zast {i x : Int32} (C : Cx D p s m args c cc nL own) (hM : mH D H0 S kc ns H locs) (hk : mK S a = 24) (hin : vp_in i (mN S a)) (hdg : decode cc pc = .ok (.bastore, 1))
    (kk : ∀ (H1 : Heap) (locs1 : List Loc), mH D H0 (qI S a i.toNatClampNeg (vp_nar .boolean x)) kc ns H1 locs1 → W p l e R s m args below meth c H1 locs1 cells slots Q (F0 m (pc + 1) ls rest)) : W p l e R s m args below meth c H locs cells slots Q (F0 m pc ls (.int x :: .int i :: .ref a :: rest)) := by
  have hc := hM.arr (t := 3) hk (by decide)
  refine W.zast C.1 C.2.1 hc ((C.2.2.2.2.2.1.1.2 3 _ rfl).1 (mN S a) (fun j => .int (aI S a j))) (fun q => by cases q) (by show ¬ (i < 0 ∨ (arrV _ _ _).slots.size ≤ _); rw [arrV_size]; exact hin) rfl rfl hdg fun H1 e1 z oq => ?_
  refine kk H1 _ (hM.write (by rw [hk]; decide) (fun _ => rfl) hc e1 (by simp [Cell.setSlot]) z oq (fun b hb => mSame.qI hb) (mOK.at (t := 3) hk (by decide) ?_))
  rw [e1]
  show some ((vp_cell _ (mN S a, .inl (aI S a))).setSlot _ _) = some (vp_cell _ (mN S a, .inl _))
  rw [vp_cell_i, vp_cell_i, arrV_store]
  congr 2
  funext q
  by_cases hq : q = i.toNatClampNeg
  · subst hq
    simp [updV, aI, up2, vp_nar]
    try rfl
  · simp [updV, aI, up2, hq]
theorem r_last {i : Int32} {x : Int64} (C : Cx D p s m args c cc nL own) (hM : mH D H0 S kc ns H locs) (hk : mK S a = 22) (hin : vp_in i (mN S a)) (hdg : decode cc pc = .ok (.lastore, 1))
    (kk : ∀ (H1 : Heap) (locs1 : List Loc), mH D H0 (qL S a i.toNatClampNeg x) kc ns H1 locs1 → W p l e R s m args below meth c H1 locs1 cells slots Q (F0 m (pc + 1) ls rest)) : W p l e R s m args below meth c H locs cells slots Q (F0 m pc ls (.long x :: .int i :: .ref a :: rest)) := by
  have hc := hM.arr (t := 1) hk (by decide)
  refine W.last C.1 C.2.1 hc ((C.2.2.2.2.2.1.1.2 1 _ rfl).1 (mN S a) (fun j => .long (aL S a j))) (fun q => by cases q) (by show ¬ (i < 0 ∨ (arrV _ _ _).slots.size ≤ _); rw [arrV_size]; exact hin) rfl rfl hdg fun H1 e1 z oq => ?_
  refine kk H1 _ (hM.write (by rw [hk]; decide) (fun _ => rfl) hc e1 (by simp [Cell.setSlot]) z oq (fun b hb => mSame.qL hb) (mOK.at (t := 1) hk (by decide) ?_))
  rw [e1]
  show some ((vp_cell _ (mN S a, .inr (.inl (aL S a)))).setSlot _ _) = some (vp_cell _ (mN S a, .inr (.inl _)))
  rw [vp_cell_l, vp_cell_l, arrV_store]
  congr 2
  funext q
  by_cases hq : q = i.toNatClampNeg <;> simp [updV, aL, up2, hq]
/-- an array of references takes null, or an object of its class -/
theorem r_aast {t ci : Nat} {i : Int32} {r : vw_C} {o : Option Nat} (C : Cx D p s m args c cc nL own) (hM : mH D H0 S kc ns H locs) (hk : mK S a = t + 25) (ht : t < 4) (hty : (gtys D.2.2)[t + 4]? = some (D.2.2 (t + 4), .object r.1)) (hc : vwCl[ci]? = some r) (ho : ∀ q, o = some q → mK S q = ci + 1) (hin : vp_in i (mN S a)) (hdg : decode cc pc = .ok (.aastore, 1))
    (kk : ∀ (H1 : Heap) (locs1 : List Loc), mH D H0 (qR S a i.toNatClampNeg o) kc ns H1 locs1 → W p l e R s m args below meth c H1 locs1 cells slots Q (F0 m (pc + 1) ls rest)) : W p l e R s m args below meth c H locs cells slots Q (F0 m pc ls (va_rf o :: .int i :: .ref a :: rest)) := by
  have hcell := hM.arr (t := t + 4) (by omega) (by omega)
  have hmarr : marr (t + 4) S a = .inr (.inr (.inr (.inr (aR S a)))) := rfl
  have hlt : i.toNatClampNeg < mN S a := Nat.not_le.mp fun q => hin (Or.inr q)
  have h0 : ¬ i < 0 := fun q => hin (Or.inl q)
  have key : ∀ H1 : Heap, H1[a]? = some ((vp_cell (D.2.2 (t + 4)) (mN S a, marr (t + 4) S a)).setSlot i.toNatClampNeg (va_rf o)) → H1.size = H.size → (∀ q, q ≠ a → H1[q]? = H[q]?) → mH D H0 (qR S a i.toNatClampNeg o) kc ns H1 (locs ++ [⟨a, i.toNatClampNeg⟩]) := by
    intro H1 e1 z oq
    refine hM.write (by rw [hk]; omega) (fun _ => rfl) hcell e1 (by simp [Cell.setSlot]) z oq (fun b hb => mSame.qR hb) (mOK.at (t := t + 4) (by show mK S a = _; omega) (by omega) ?_)
    rw [e1, hmarr]
    show some ((vp_cell _ (mN S a, .inr (.inr (.inr (.inr (aR S a)))))).setSlot _ _) = some (vp_cell _ (mN S a, .inr (.inr (.inr (.inr _)))))
    rw [vp_cell_q, vp_cell_q, arrV_store]
    congr 2
    funext q
    by_cases hq : q = i.toNatClampNeg <;> simp [updV, aR, up2, hq]
  rw [hmarr] at hcell key
  cases o with
  | none => exact va_WaastN (C := r.1) C.1 C.2.1 hcell ((C.2.2.2.2.2.1.1.2 (t + 4) _ hty).1 (mN S a) (fun j => va_rf (aR S a j))) (fun h => by cases h) (by show ¬ (i < 0 ∨ (arrV _ _ _).slots.size ≤ _); rw [arrV_size]; exact hin) rfl rfl hdg fun H1 e1 z oq => kk H1 _ (key H1 e1 z oq)
  | some v =>
    obtain ⟨cellV, g1, g2, g3, -⟩ := (hM.1 v (by rw [ho v rfl]; omega)).2.2.1 ci r (ho v rfl) hc
    have hcls := (C.2.2.2.2.2.1.1.1 ci r hc).2
    obtain ⟨kA, comp, k1, k2, k3, -⟩ := (C.2.2.2.2.2.1.1.2 (t + 4) _ hty).2
    have hcomp : comp = D.1 ci := Option.some.inj (k3.symm.trans hcls.1)
    subst hcomp
    obtain ⟨kC, hkC, -⟩ := hcls.2
    exact W.aast C.1 C.2.1 hcell (fun q h => by cases h) (fun h => by cases h) k1 k2 rfl hkC ⟨h0, by show _ < (arrV _ _ _).slots.size; rw [arrV_size]; exact hlt⟩ g1 (fun q h => by rw [g3] at h; cases h) (by rw [g2]; exact hkC) (by rw [g2]; exact va_assign hcls) rfl rfl hdg fun H1 e1 z oq => kk H1 _ (key H1 e1 z oq)
theorem mSame.nO {ci b : Nat} (h : b ≠ a) : mSame S (nO S a ci) b := by
  refine ⟨by simp [mK, va_up, h], fun ci' k' => ?_, rfl, fun _ => rfl⟩
  unfold sval
  split <;> simp [mI, mL, mR, cl2, h]
theorem mSame.nA {t n b : Nat} (h : b ≠ a) : mSame S (nA S a t n) b :=
  ⟨by simp [mK, va_up, h], fun _ _ => rfl, by simp [mN, va_up, h], marr_q (by funext j; simp [aI, cl1, h]) (by funext j; simp [aL, cl1, h]) (by funext j; simp [aR, cl1, h])⟩
theorem ty_nf (ci k : Nat) : tyOf ci k ≠ .float ∧ tyOf ci k ≠ .double := by
  unfold tyOf
  split <;> (first | unfold tyX0 | unfold tyX1 | unfold tyX2 | unfold tyX3 | unfold tyX4 | unfold tyX5 | unfold tyX6 | unfold tyX7 | unfold tyX8 | unfold tyX9 | unfold tyX10 | unfold tyX11 | unfold tyX12) <;> split <;> exact ⟨by simp, by simp⟩
theorem sval_nO {ci k : Nat} : sval ci k (nO S a ci) a = defaultValue (tyOf ci k) := by
  unfold sval shp
  have hf := ty_nf ci k
  cases h : tyOf ci k <;> first | exact absurd h hf.1 | exact absurd h hf.2 | simp [mI, mL, mR, cl2, defaultValue, va_rf]
theorem r_new {ci index : Nat} {r : vw_C} (C : Cx D p s m args c cc nL own) (hM : mH D H0 S kc ns H locs) (hr : vwCl[ci]? = some r) (hl : Cond.classLink own index r.1 ∈ gT) (hi : Cond.instantiable r.1 r.2.2 ∈ gT) (hini : Cond.initialized r.1 ∈ gT) (hcells : cells + 1 ≤ R.cells) (hslots : slots + r.2.2 ≤ R.slots) (hdg : decode cc pc = .ok (.new index, 3))
    (kk : ∀ (q : Nat) (H1 : Heap), mK S q = 0 → mH D H0 (nO S q ci) (kc + 1) (ns + r.2.2) H1 locs → W p l e R s m args below meth c H1 locs (cells + 1) (slots + r.2.2) Q (F0 m (pc + 3) ls (.ref q :: rest))) : W p l e R s m args below meth c H locs cells slots Q (F0 m pc ls rest) := by
  obtain ⟨hx, hb, -, hown, hts, hK, -⟩ := C
  obtain ⟨hci, hin, hty, hnm, h100⟩ := cls_ok ci r hr
  have hKn := hK.1.1 ci _ hr
  obtain ⟨cC9, kC9, hfc9, hkC9, hkd9, -, -, hsz9⟩ := Cond.instantiable_spec (hts _ hi)
  refine W.newcK hx hb hown (hts _ hl) (hts _ hi) (hts _ hini) rfl hdg hcells hslots hKn.2.1 rfl fun H1 kC hkC e1 z1 o1 => ?_
  refine kk H.size H1 (hM.fresh (Nat.le_refl _)) (hM.push (cell := blank (D.1 ci) kC) e1 ?_ z1 o1 (fun b hb => mSame.nO hb) ⟨fun ci' r' h1 h2 => ?_, fun t h1 h2 => ?_⟩)
  · have h9 : D.1 ci = cC9 := Option.some.inj (hKn.2.1.symm.trans hfc9)
    subst h9
    cases hkC.symm.trans hkC9
    simp [blank, hsz9]
  · have hc : ci' = ci := by simp [mK, va_up] at h1; omega
    subst hc
    have hr2 : r' = r := Option.some.inj (h2.symm.trans hr)
    subst hr2
    exact (u_born (tyOf ci') hts hin hKn hkC e1 hty).to (fun j hj => sval_nO.symm)
  · have : ci + 1 = t + 21 := by simpa [mK, va_up] using h1
    omega
theorem r_newa {t : Nat} {n : Int32} {N' : Nat} {ty : FieldType} {atype : ArrayType} (C : Cx D p s m args c cc nL own) (hM : mH D H0 S kc ns H locs) (ht : t < 4) (hty : (gtys D.2.2)[t]? = some (D.2.2 t, ty)) (hat : newarray.typeOf atype = ty) (hw : Cond.arrayClass ty ∈ gT) (hd : ∀ cA : ClassId, vp_cell cA (N', marr t (nA S H.size t N') H.size) = arrV cA N' (fun _ => defaultValue ty)) (hra : ∀ U cA, va_RA U cA ty = (U.vm.findClass ("[" ++ ty.toString) = some cA))
    (hn : ¬ n < 0) (hN : n.toNatClampNeg = N') (hbytes : N' * componentBytes ty ≤ 536870912) (hcells : cells + 1 ≤ R.cells) (hslots : slots + N' ≤ R.slots) (hdg : decode cc pc = .ok (.newarray atype, 2))
    (kk : ∀ (q : Nat) (H1 : Heap), mK S q = 0 → mH D H0 (nA S q t N') (kc + 1) (ns + N') H1 locs → W p l e R s m args below meth c H1 locs (cells + 1) (slots + N') Q (F0 m (pc + 2) ls (.ref q :: rest))) : W p l e R s m args below meth c H locs cells slots Q (F0 m pc ls (.int n :: rest)) := by
  obtain ⟨hx, hb, -, hown, hts, hK, -⟩ := C
  subst hat
  refine va_newaK hx hb (hts _ hw) rfl hdg rfl hn hN hbytes hcells hslots rfl fun H1 cA e1 z1 o1 hAr hNm => ?_
  have hA : D.2.2 t = cA := by
    have h2 := (hK.1.2 t _ hty).2
    rw [hra] at h2
    exact Option.some.inj (h2.symm.trans hNm)
  refine kk H.size H1 (hM.fresh (Nat.le_refl _)) (hM.push e1 (arrV_size _ _ _) z1 o1 (fun b hb => mSame.nA hb) (mOK.at (t := t) (by simp [mK, va_up]) (by omega) ?_))
  rw [e1, ← hd, hA]
  show _ = some (vp_cell cA (va_up _ _ _ _, _))
  rw [va_up_self]
theorem r_newI {n : Int32} {N' : Nat} (C : Cx D p s m args c cc nL own) (hM : mH D H0 S kc ns H locs) (hw : Cond.arrayClass .int ∈ gT) (hn : ¬ n < 0) (hN : n.toNatClampNeg = N') (hbytes : N' * componentBytes .int ≤ 536870912) (hcells : cells + 1 ≤ R.cells) (hslots : slots + N' ≤ R.slots) (hdg : decode cc pc = .ok (.newarray .int, 2))
    (kk : ∀ (q : Nat) (H1 : Heap), mK S q = 0 → mH D H0 (nA S q 0 N') (kc + 1) (ns + N') H1 locs → W p l e R s m args below meth c H1 locs (cells + 1) (slots + N') Q (F0 m (pc + 2) ls (.ref q :: rest))) : W p l e R s m args below meth c H locs cells slots Q (F0 m pc ls (.int n :: rest)) :=
  r_newa (t := 0) (ty := .int) C hM (by decide) rfl rfl hw (fun cA => by show vp_cell cA (N', .inl _) = _; rw [vp_cell_i]; congr 1; funext j; simp [aI, cl1, defaultValue]) (fun _ _ => rfl) hn hN hbytes hcells hslots hdg kk
theorem r_newJ {n : Int32} {N' : Nat} (C : Cx D p s m args c cc nL own) (hM : mH D H0 S kc ns H locs) (hw : Cond.arrayClass .long ∈ gT) (hn : ¬ n < 0) (hN : n.toNatClampNeg = N') (hbytes : N' * componentBytes .long ≤ 536870912) (hcells : cells + 1 ≤ R.cells) (hslots : slots + N' ≤ R.slots) (hdg : decode cc pc = .ok (.newarray .long, 2))
    (kk : ∀ (q : Nat) (H1 : Heap), mK S q = 0 → mH D H0 (nA S q 1 N') (kc + 1) (ns + N') H1 locs → W p l e R s m args below meth c H1 locs (cells + 1) (slots + N') Q (F0 m (pc + 2) ls (.ref q :: rest))) : W p l e R s m args below meth c H locs cells slots Q (F0 m pc ls (.int n :: rest)) :=
  r_newa (t := 1) (ty := .long) C hM (by decide) rfl rfl hw (fun cA => by show vp_cell cA (N', .inr (.inl _)) = _; rw [vp_cell_l]; congr 1; funext j; simp [aL, cl1, defaultValue]) (fun _ _ => rfl) hn hN hbytes hcells hslots hdg kk
theorem r_newB {n : Int32} {N' : Nat} (C : Cx D p s m args c cc nL own) (hM : mH D H0 S kc ns H locs) (hw : Cond.arrayClass .byte ∈ gT) (hn : ¬ n < 0) (hN : n.toNatClampNeg = N') (hbytes : N' * componentBytes .byte ≤ 536870912) (hcells : cells + 1 ≤ R.cells) (hslots : slots + N' ≤ R.slots) (hdg : decode cc pc = .ok (.newarray .byte, 2))
    (kk : ∀ (q : Nat) (H1 : Heap), mK S q = 0 → mH D H0 (nA S q 2 N') (kc + 1) (ns + N') H1 locs → W p l e R s m args below meth c H1 locs (cells + 1) (slots + N') Q (F0 m (pc + 2) ls (.ref q :: rest))) : W p l e R s m args below meth c H locs cells slots Q (F0 m pc ls (.int n :: rest)) :=
  r_newa (t := 2) (ty := .byte) C hM (by decide) rfl rfl hw (fun cA => by show vp_cell cA (N', .inl _) = _; rw [vp_cell_i]; congr 1; funext j; simp [aI, cl1, defaultValue]) (fun _ _ => rfl) hn hN hbytes hcells hslots hdg kk
theorem r_newZ {n : Int32} {N' : Nat} (C : Cx D p s m args c cc nL own) (hM : mH D H0 S kc ns H locs) (hw : Cond.arrayClass .boolean ∈ gT) (hn : ¬ n < 0) (hN : n.toNatClampNeg = N') (hbytes : N' * componentBytes .boolean ≤ 536870912) (hcells : cells + 1 ≤ R.cells) (hslots : slots + N' ≤ R.slots) (hdg : decode cc pc = .ok (.newarray .boolean, 2))
    (kk : ∀ (q : Nat) (H1 : Heap), mK S q = 0 → mH D H0 (nA S q 3 N') (kc + 1) (ns + N') H1 locs → W p l e R s m args below meth c H1 locs (cells + 1) (slots + N') Q (F0 m (pc + 2) ls (.ref q :: rest))) : W p l e R s m args below meth c H locs cells slots Q (F0 m pc ls (.int n :: rest)) :=
  r_newa (t := 3) (ty := .boolean) C hM (by decide) rfl rfl hw (fun cA => by show vp_cell cA (N', .inl _) = _; rw [vp_cell_i]; congr 1; funext j; simp [aI, cl1, defaultValue]) (fun _ _ => rfl) hn hN hbytes hcells hslots hdg kk
theorem r_newq {t index : Nat} {n : Int32} {N' : Nat} {nm : String} (C : Cx D p s m args c cc nL own) (hM : mH D H0 S kc ns H locs) (ht : t < 4) (hty : (gtys D.2.2)[t + 4]? = some (D.2.2 (t + 4), .object nm)) (hl : Cond.classLink own index nm ∈ gT) (hao : va_AO nm s) (hn : ¬ n < 0) (hN : n.toNatClampNeg = N') (hbytes : N' * 4 ≤ 536870912) (hcells : cells + 1 ≤ R.cells) (hslots : slots + N' ≤ R.slots) (hdg : decode cc pc = .ok (.anewarray index, 3))
    (kk : ∀ (q : Nat) (H1 : Heap), mK S q = 0 → mH D H0 (nA S q (t + 4) N') (kc + 1) (ns + N') H1 locs → W p l e R s m args below meth c H1 locs (cells + 1) (slots + N') Q (F0 m (pc + 3) ls (.ref q :: rest))) : W p l e R s m args below meth c H locs cells slots Q (F0 m pc ls (.int n :: rest)) := by
  obtain ⟨hx, hb, -, hown, hts, hK, -⟩ := C
  subst hN
  refine W.anew hx hb hown (hts _ hl) (va_AO.use hao) rfl hdg rfl hn hbytes hcells hslots fun cA kA comp f1 f2 f3 f4 => ?_
  have hA : D.2.2 (t + 4) = cA := by
    obtain ⟨_, _, _, _, _, h4⟩ := (hK.1.2 (t + 4) _ hty).2
    exact Option.some.inj (h4.symm.trans f1)
  generalize hH1 : H.push ({ cls := cA, slots := Array.replicate n.toNatClampNeg .null, vm := .none } : Cell) = H1
  have z1 : H1.size = H.size + 1 := by rw [← hH1, Array.size_push]
  have e1 : H1[H.size]? = some (arrV cA n.toNatClampNeg (fun _ => .null)) := by rw [← hH1, Array.getElem?_push_size, ← arrV_new]
  have o1 : ∀ q : Nat, q < H.size → H1[q]? = H[q]? := fun q hq => by rw [← hH1, Array.getElem?_push, if_neg (Nat.ne_of_lt hq)]
  refine kk H.size H1 (hM.fresh (Nat.le_refl _)) (hM.push e1 (arrV_size _ _ _) z1 o1 (fun b hb => mSame.nA hb) (mOK.at (t := t + 4) (by simp [mK, va_up]) (by omega) ?_))
  rw [e1, hA]
  show _ = some (vp_cell cA (va_up _ _ _ _, .inr (.inr (.inr (.inr _)))))
  rw [va_up_self, vp_cell_q]
  congr 2
  funext j
  simp [aR, cl1, va_rf]
end Rows2
end
section
abbrev mF (H0 : Heap) : Addr → Prop := fun q => H0.size ≤ q
def mP (D : gD) (H0 : Heap) (S : Mem) (k n : Nat) (av : List Value) : Array Value → State → Prop := fun v U => v = av.toArray ∧ mH D H0 S k n U.heap [] ∧ gK D U ∧ gNW U
def mQ {α : Type} (D : gD) (H0 : Heap) (inj : α → Option Value) (post : α → Mem → Nat → Nat → Prop) : Array Value → State → Outcome → State → Prop := fun _ _ oc t => ∃ (x : α) (S1 : Mem) (k1 n1 : Nat), oc = .returned (inj x) ∧ post x S1 k1 n1 ∧ mH D H0 S1 k1 n1 t.heap []
abbrev gI (x : Int32) : Option Value := some (.int x)
abbrev gL (x : Int64) : Option Value := some (.long x)
abbrev gR (x : Option Nat) : Option Value := some (va_rf x)
abbrev gV (_ : Unit) : Option Value := none
def wsU (y : MethodName) (b : ByteArray) (ml : Nat) (ret : Option FieldType) : List Cond := .code y b ml ret :: gT
theorem mP.blind {D : gD} {H0 : Heap} {S : Mem} {k n : Nat} {av : List Value} : FrameBlind (mP D H0 S k n av) := fun a U g mk h => ⟨h.1, h.2.1, gK.moved (u := U) (U := U.calling g mk a) (Vm.Alike.refl U.vm) h.2.2.1, gNW.same (u := U) (U := U.calling g mk a) rfl h.2.2.2⟩
def miB (y : MethodName) (b : ByteArray) (ml : Nat) (ret : Option FieldType) (n : Nat) : Prop := Cond.code y b ml ret ∈ gT ∧ Cond.initialized y.cls ∈ gT ∧ (y.cls ≠ "java/lang/invoke/MethodHandle" ∧ y.cls ≠ "java/lang/invoke/VarHandle" ∧ (parseMethodDescriptor y.desc).map (fun d => d.parameters.length) = some n)
def miV (y : MethodName) (b : ByteArray) (ml : Nat) (ret : Option FieldType) (n : Nat) : Prop := miB y b ml ret n ∧ Cond.instanceMethod y ∈ gT ∧ Cond.selects y.cls y y ∈ gT
def miS (y : MethodName) (b : ByteArray) (ml : Nat) (ret : Option FieldType) (n : Nat) : Prop := miB y b ml ret n ∧ Cond.static y ∈ gT
def miI (y : MethodName) (b : ByteArray) (ml : Nat) (n : Nat) : Prop := miB y b ml none n ∧ Cond.instanceMethod y ∈ gT ∧ y.name = "<init>"
theorem wsU_good {y : MethodName} {b : ByteArray} {ml : Nat} {ret : Option FieldType} {n : Nat} (h : miB y b ml ret n) : GoodIn gT (wsU y b ml ret) := fun w hw => gT_good w ((List.mem_cons.mp hw).elim (fun e => e ▸ h.1) id)
theorem rf_or (v : Option Nat) : va_rf v = .null ∨ ∃ a, va_rf v = .ref a := by
  cases v with
  | none => exact Or.inl rfl
  | some a => exact Or.inr ⟨a, rfl⟩
section Calls9
variable {p : Program} {l : Launch} {e : Env} {R : Room} {s : State} {m : MethodId} {args : Array Value} {below : List Frame} {meth : Method} {c : Code} {H : Heap} {locs : List Loc} {cells slots : Nat} {Q : State → Prop}
variable {cc : ByteArray} {pc nL : Nat} {own : String} {ls : Array Slot} {rest st0 : List Value} {D : gD} {H0 : Heap} {S S1 : Mem} {kc ns a : Nat}
variable {α : Type} {inj : α → Option Value} {post : α → Mem → Nat → Nat → Prop} {y : MethodName} {b : ByteArray} {ml n index : Nat} {ret : Option FieldType} {rm : Room} {As : List Value} {host : String}
theorem mH.recv {ci : Nat} {r : vw_C} (hK : gK D s) (hM : mH D H0 S kc ns H locs) (hk : mK S a = ci + 1) (hr : vwCl[ci]? = some r) : ∃ cell : Cell, H[a]? = some cell ∧ cell.vm.isStatics = false ∧ s.vm.findClass r.1 = some cell.cls := by
  obtain ⟨cell, q1, q2, q3, -⟩ := (hM.1 a (by rw [hk]; omega)).2.2.1 ci r hk hr
  exact ⟨cell, q1, by rw [q3]; rfl, by rw [q2]; exact (hK.1.1 ci r hr).2.1⟩
theorem mP.at (C : Cx D p s m args c cc nL own) (hM : mH D H0 S kc ns H locs) (av : List Value) : ∀ U : State, U.heap = H → s.WarmedH U.vm → mP D H0 S kc ns av av.toArray U := fun U hU hW => ⟨rfl, by rw [hU]; exact hM.locs (fun _ h => by cases h), gK.moved hW.alike C.2.2.2.2.2.1, C.2.2.2.2.2.2.warm hW⟩
theorem r_call {mc ms : Nat} {A9 : Array Value} (hr : va_Run p l e R s m args below meth c H locs cells slots mc ms (F0 m pc ls st0) rest (mQ D H0 inj post A9) (mF H0)) (hM : mH D H0 S kc ns H locs)
    (kk : ∀ (x : α) (S1 : Mem) (k1 n1 : Nat) (H1 : Heap) (locs1 : List Loc), post x S1 k1 n1 → mH D H0 S1 k1 n1 H1 locs1 → W p l e R s m args below meth c H1 locs1 (cells + mc) (slots + ms) Q (F0 m (pc + 3) ls ((inj x).toList ++ rest))) : W p l e R s m args below meth c H locs cells slots Q (F0 m pc ls st0) := by
  intro T hT X
  obtain ⟨v, st₀, t, T', L, h0, X', hL, e1, e2, ⟨x, S1, k1, n1, hv, hp, hM1⟩, st⟩ := hr T hT X
  cases hv
  obtain ⟨t2, a1, b1⟩ := kk x S1 k1 n1 T'.heap (locs ++ L) hp (by rw [e1]; exact hM1.locs (fun q hq => by
    rcases List.mem_append.mp hq with h | h
    · exact hM.2.2.2.2 q h
    · exact hL q h)) T' rfl X'
  exact ⟨t2, st t2 a1, b1⟩
theorem cB9 (C : Cx D p s m args c cc nL own) (hi : miB y b ml ret n) (hl : Cond.methodLink own index y ∈ gT) (hR : rm.frames + 1 ≤ R.frames ∧ 8 + (ml + 11) + rm.locals ≤ R.locals) : CallB R s args own index y b ml ret (wsU y b ml ret) rm rm.cells rm.slots n :=
  callB_of n C.2.2.2.2.1 (wsU_good hi) rfl rfl rfl (C.2.2.2.2.1 _ hi.2.1) (C.2.2.2.2.1 _ hl) hi.2.2 hR
theorem cN9 (C : Cx D p s m args c cc nL own) (hi : miB y b ml ret n) (hl : Cond.methodLinkNest own index y host ∈ tables_1) (hR : rm.frames + 1 ≤ R.frames ∧ 8 + (ml + 11) + rm.locals ≤ R.locals) : va_CN R s args own index y host b ml ret (wsU y b ml ret) rm rm.cells rm.slots n :=
  va_cnB n C.2.2.2.2.1 (wsU_good hi) rfl rfl rfl (C.2.2.2.2.2.2 _ hl rfl) (C.2.2.2.2.1 _ hi.2.1) hi.2.2 hR
theorem r_V {ci : Nat} {r : vw_C} (C : Cx D p s m args c cc nL own) (hM : mH D H0 S kc ns H locs) (hMet : Met l y (wsU y b ml ret) rm (mP D H0 S kc ns (.ref a :: As)) (mQ D H0 inj post) rm.cells rm.slots (mF H0)) (hi : miV y b ml ret n) (hl : Cond.methodLink own index y ∈ gT) (hk : mK S a = ci + 1) (hr : vwCl[ci]? = some r) (hy : r.1 = y.cls) (hn : As.length = n) (hls : ls.size = nL) (hst : st0 = As.reverse ++ .ref a :: rest) (hro : (rest.map fun v => v.category).sum ≤ 8) (hR : rm.frames + 1 ≤ R.frames ∧ 8 + (ml + 11) + rm.locals ≤ R.locals) (hcs : cells + rm.cells ≤ R.cells ∧ slots + rm.slots ≤ R.slots) (hdg : decode cc pc = .ok (.invokevirtual index, 3))
    (kk : ∀ (x : α) (S1 : Mem) (k1 n1 : Nat) (H1 : Heap) (locs1 : List Loc), post x S1 k1 n1 → mH D H0 S1 k1 n1 H1 locs1 → W p l e R s m args below meth c H1 locs1 (cells + rm.cells) (slots + rm.slots) Q (F0 m (pc + 3) ls ((inj x).toList ++ rest))) : W p l e R s m args below meth c H locs cells slots Q (F0 m pc ls st0) := by
  subst hst
  exact r_call (va_runV (C := y.cls) (Ts := gT) ⟨C.1, C.2.1, C.2.2.1, C.2.2.2.1, C.2.2.2.2.1⟩ hMet ⟨cB9 C hi.1 hl hR, C.2.2.2.2.1 _ hi.2.1, C.2.2.2.2.1 _ hi.2.2⟩ ⟨mP.blind, hy ▸ hM.recv C.2.2.2.2.2.1 hk hr, mP.at C hM _⟩ rfl hn hls rfl (lv_room hro) hdg hcs) hM kk
theorem r_VN {ci : Nat} {r : vw_C} (C : Cx D p s m args c cc nL own) (hM : mH D H0 S kc ns H locs) (hMet : Met l y (wsU y b ml ret) rm (mP D H0 S kc ns (.ref a :: As)) (mQ D H0 inj post) rm.cells rm.slots (mF H0)) (hi : miV y b ml ret n) (hl : Cond.methodLinkNest own index y host ∈ tables_1) (hk : mK S a = ci + 1) (hr : vwCl[ci]? = some r) (hy : r.1 = y.cls) (hn : As.length = n) (hls : ls.size = nL) (hst : st0 = As.reverse ++ .ref a :: rest) (hro : (rest.map fun v => v.category).sum ≤ 8) (hR : rm.frames + 1 ≤ R.frames ∧ 8 + (ml + 11) + rm.locals ≤ R.locals) (hcs : cells + rm.cells ≤ R.cells ∧ slots + rm.slots ≤ R.slots) (hdg : decode cc pc = .ok (.invokevirtual index, 3))
    (kk : ∀ (x : α) (S1 : Mem) (k1 n1 : Nat) (H1 : Heap) (locs1 : List Loc), post x S1 k1 n1 → mH D H0 S1 k1 n1 H1 locs1 → W p l e R s m args below meth c H1 locs1 (cells + rm.cells) (slots + rm.slots) Q (F0 m (pc + 3) ls ((inj x).toList ++ rest))) : W p l e R s m args below meth c H locs cells slots Q (F0 m pc ls st0) := by
  subst hst
  exact r_call (va_runVN (C := y.cls) (Ts := gT) ⟨C.1, C.2.1, C.2.2.1, C.2.2.2.1, C.2.2.2.2.1⟩ hMet ⟨cN9 C hi.1 hl hR, C.2.2.2.2.1 _ hi.2.1, C.2.2.2.2.1 _ hi.2.2⟩ ⟨mP.blind, hy ▸ hM.recv C.2.2.2.2.2.1 hk hr, mP.at C hM _⟩ rfl hn hls rfl (lv_room hro) hdg hcs) hM kk
theorem r_S (C : Cx D p s m args c cc nL own) (hM : mH D H0 S kc ns H locs) (hMet : Met l y (wsU y b ml ret) rm (mP D H0 S kc ns As) (mQ D H0 inj post) rm.cells rm.slots (mF H0)) (hi : miS y b ml ret n) (hl : Cond.methodLink own index y ∈ gT) (hn : As.length = n) (hls : ls.size = nL) (hst : st0 = As.reverse ++ rest) (hro : (rest.map fun v => v.category).sum ≤ 8) (hR : rm.frames + 1 ≤ R.frames ∧ 8 + (ml + 11) + rm.locals ≤ R.locals) (hcs : cells + rm.cells ≤ R.cells ∧ slots + rm.slots ≤ R.slots) (hdg : decode cc pc = .ok (.invokestatic index, 3))
    (kk : ∀ (x : α) (S1 : Mem) (k1 n1 : Nat) (H1 : Heap) (locs1 : List Loc), post x S1 k1 n1 → mH D H0 S1 k1 n1 H1 locs1 → W p l e R s m args below meth c H1 locs1 (cells + rm.cells) (slots + rm.slots) Q (F0 m (pc + 3) ls ((inj x).toList ++ rest))) : W p l e R s m args below meth c H locs cells slots Q (F0 m pc ls st0) := by
  subst hst
  exact r_call (va_runS (Ts := gT) ⟨C.1, C.2.1, C.2.2.1, C.2.2.2.1, C.2.2.2.2.1⟩ hMet ⟨cB9 C hi.1 hl hR, C.2.2.2.2.1 _ hi.2⟩ ⟨mP.blind, mP.at C hM _⟩ rfl hn hls rfl (lv_room hro) hdg hcs) hM kk
theorem r_SN (C : Cx D p s m args c cc nL own) (hM : mH D H0 S kc ns H locs) (hMet : Met l y (wsU y b ml ret) rm (mP D H0 S kc ns As) (mQ D H0 inj post) rm.cells rm.slots (mF H0)) (hi : miS y b ml ret n) (hl : Cond.methodLinkNest own index y host ∈ tables_1) (hn : As.length = n) (hls : ls.size = nL) (hst : st0 = As.reverse ++ rest) (hro : (rest.map fun v => v.category).sum ≤ 8) (hR : rm.frames + 1 ≤ R.frames ∧ 8 + (ml + 11) + rm.locals ≤ R.locals) (hcs : cells + rm.cells ≤ R.cells ∧ slots + rm.slots ≤ R.slots) (hdg : decode cc pc = .ok (.invokestatic index, 3))
    (kk : ∀ (x : α) (S1 : Mem) (k1 n1 : Nat) (H1 : Heap) (locs1 : List Loc), post x S1 k1 n1 → mH D H0 S1 k1 n1 H1 locs1 → W p l e R s m args below meth c H1 locs1 (cells + rm.cells) (slots + rm.slots) Q (F0 m (pc + 3) ls ((inj x).toList ++ rest))) : W p l e R s m args below meth c H locs cells slots Q (F0 m pc ls st0) := by
  subst hst
  exact r_call (va_runSN (Ts := gT) ⟨C.1, C.2.1, C.2.2.1, C.2.2.2.1, C.2.2.2.2.1⟩ hMet ⟨cN9 C hi.1 hl hR, C.2.2.2.2.1 _ hi.2, trivial⟩ ⟨mP.blind, mP.at C hM _⟩ rfl hn hls rfl (lv_room hro) hdg hcs) hM kk
theorem r_I (C : Cx D p s m args c cc nL own) (hM : mH D H0 S kc ns H locs) (hMet : Met l y (wsU y b ml none) rm (mP D H0 S kc ns (.ref a :: As)) (mQ D H0 inj post) rm.cells rm.slots (mF H0)) (hi : miI y b ml n) (hl : Cond.methodLink own index y ∈ gT) (hn : As.length = n) (hls : ls.size = nL) (hst : st0 = As.reverse ++ .ref a :: rest) (hro : (rest.map fun v => v.category).sum ≤ 8) (hR : rm.frames + 1 ≤ R.frames ∧ 8 + (ml + 11) + rm.locals ≤ R.locals) (hcs : cells + rm.cells ≤ R.cells ∧ slots + rm.slots ≤ R.slots) (hdg : decode cc pc = .ok (.invokespecial index, 3))
    (kk : ∀ (x : α) (S1 : Mem) (k1 n1 : Nat) (H1 : Heap) (locs1 : List Loc), post x S1 k1 n1 → mH D H0 S1 k1 n1 H1 locs1 → W p l e R s m args below meth c H1 locs1 (cells + rm.cells) (slots + rm.slots) Q (F0 m (pc + 3) ls ((inj x).toList ++ rest))) : W p l e R s m args below meth c H locs cells slots Q (F0 m pc ls st0) := by
  subst hst
  exact r_call (va_runI (Ts := gT) ⟨C.1, C.2.1, C.2.2.1, C.2.2.2.1, C.2.2.2.2.1⟩ hMet ⟨cB9 C hi.1 hl hR, hi.2.2, C.2.2.2.2.1 _ hi.2.1⟩ ⟨mP.blind, mP.at C hM _⟩ rfl hn hls rfl (lv_room hro) hdg hcs) hM kk
theorem r_IN (C : Cx D p s m args c cc nL own) (hM : mH D H0 S kc ns H locs) (hMet : Met l y (wsU y b ml none) rm (mP D H0 S kc ns (.ref a :: As)) (mQ D H0 inj post) rm.cells rm.slots (mF H0)) (hi : miI y b ml n) (hl : Cond.methodLinkNest own index y host ∈ tables_1) (hn : As.length = n) (hls : ls.size = nL) (hst : st0 = As.reverse ++ .ref a :: rest) (hro : (rest.map fun v => v.category).sum ≤ 8) (hR : rm.frames + 1 ≤ R.frames ∧ 8 + (ml + 11) + rm.locals ≤ R.locals) (hcs : cells + rm.cells ≤ R.cells ∧ slots + rm.slots ≤ R.slots) (hdg : decode cc pc = .ok (.invokespecial index, 3))
    (kk : ∀ (x : α) (S1 : Mem) (k1 n1 : Nat) (H1 : Heap) (locs1 : List Loc), post x S1 k1 n1 → mH D H0 S1 k1 n1 H1 locs1 → W p l e R s m args below meth c H1 locs1 (cells + rm.cells) (slots + rm.slots) Q (F0 m (pc + 3) ls ((inj x).toList ++ rest))) : W p l e R s m args below meth c H locs cells slots Q (F0 m pc ls st0) := by
  subst hst
  exact r_call (va_runIN (Ts := gT) ⟨C.1, C.2.1, C.2.2.1, C.2.2.2.1, C.2.2.2.2.1⟩ hMet ⟨cN9 C hi.1 hl hR, hi.2.2, C.2.2.2.2.1 _ hi.2.1⟩ ⟨mP.blind, mP.at C hM _⟩ rfl hn hls rfl (lv_room hro) hdg hcs) hM kk
/-- a contract out of its body -/
theorem r_met {av : List Value} (hy : plainName y.cls = true) (hown : y.cls = own) (hlen : (lg_sl av).length ≤ ml)
    (body : ∀ (p : Program) (e : Env) (s : State) (m : MethodId) (args : Array Value) (below : List Frame) (meth : Method) (c : Code), Cx D p s m args c b ml own → meth.sig.returnType = ret → meth.locks = false → meth.name = y.name → ∀ (H : Heap) (ls : Array Slot), lv_has ls ml (lv_args 0 av) → mH D H0 S kc ns H [] → W p l e rm s m args below meth c H [] 0 0 (MQ below (mQ D H0 inj post) args s rm.cells rm.slots (mF H0)) (F0 m 0 ls [])) :
    Met l y (wsU y b ml ret) rm (mP D H0 S kc ns av) (mQ D H0 inj post) rm.cells rm.slots (mF H0) := by
  refine Met.ofW (cc := b) (maxL := ml) (ret := ret) hy rfl ?_
  intro p e s m args below meth c s₁ B hml hv
  obtain ⟨rfl, hM, hK, hN⟩ := hv
  have hts0 := atoms_spec (ws := wsU y b ml ret) B.pre
  rw [lg_entry_eq]
  exact body p e s m _ below meth c ⟨B.exec, B.bytes, hml, by rw [← hown]; exact findClass_of_methodNamed B.named, fun w h => hts0 w (List.mem_cons_of_mem _ h), hK, hN⟩ B.returns B.notSynchronized (name_of_methodNamed B.named B.method).1 s.heap _ (lv_entry av hlen) hM
theorem r_retI {post : Int32 → Mem → Nat → Nat → Prop} {v : Int32} {k1 n1 : Nat} (C : Cx D p s m args c cc nL own) (hr : meth.sig.returnType = some .int) (hlk : meth.locks = false) (hM : mH D H0 S k1 n1 H locs) (hp : post v S k1 n1) (hdg : decode cc pc = .ok (.ireturn, 1)) : W p l e R s m args below meth c H locs cells slots (MQ below (mQ D H0 gI post) args s cells slots (mF H0)) (F0 m pc ls [.int v]) :=
  W.iret C.1 C.2.1 hr (fun t ht _ => ⟨v, S, k1, n1, rfl, hp, by rw [ht]; exact hM.locs (fun _ h => by cases h)⟩) hM.2.2.2.2 hdg hlk
theorem r_retZ {post : Int32 → Mem → Nat → Nat → Prop} {v : Int32} {k1 n1 : Nat} (C : Cx D p s m args c cc nL own) (hr : meth.sig.returnType = some .boolean) (hlk : meth.locks = false) (hn : narrow .boolean (.int v) = .int v) (hM : mH D H0 S k1 n1 H locs) (hp : post v S k1 n1) (hdg : decode cc pc = .ok (.ireturn, 1)) : W p l e R s m args below meth c H locs cells slots (MQ below (mQ D H0 gI post) args s cells slots (mF H0)) (F0 m pc ls [.int v]) :=
  W.zret C.1 C.2.1 hr hn (fun t ht _ => ⟨v, S, k1, n1, rfl, hp, by rw [ht]; exact hM.locs (fun _ h => by cases h)⟩) hM.2.2.2.2 hdg hlk
theorem r_retL {post : Int64 → Mem → Nat → Nat → Prop} {v : Int64} {k1 n1 : Nat} (C : Cx D p s m args c cc nL own) (hr : meth.sig.returnType = some .long) (hlk : meth.locks = false) (hM : mH D H0 S k1 n1 H locs) (hp : post v S k1 n1) (hdg : decode cc pc = .ok (.lreturn, 1)) : W p l e R s m args below meth c H locs cells slots (MQ below (mQ D H0 gL post) args s cells slots (mF H0)) (F0 m pc ls [.long v]) :=
  W.lret C.1 C.2.1 hr (fun t ht _ => ⟨v, S, k1, n1, rfl, hp, by rw [ht]; exact hM.locs (fun _ h => by cases h)⟩) hM.2.2.2.2 hdg hlk
theorem r_retV {post : Unit → Mem → Nat → Nat → Prop} {k1 n1 : Nat} (C : Cx D p s m args c cc nL own) (hr : meth.sig.returnType = none) (hlk : meth.locks = false) (hM : mH D H0 S k1 n1 H locs) (hp : post () S k1 n1) (hdg : decode cc pc = .ok (.return_, 1)) : W p l e R s m args below meth c H locs cells slots (MQ below (mQ D H0 gV post) args s cells slots (mF H0)) (F0 m pc ls []) :=
  W.vret C.1 C.2.1 hr (fun t ht _ => ⟨(), S, k1, n1, rfl, hp, by rw [ht]; exact hM.locs (fun _ h => by cases h)⟩) hM.2.2.2.2 hdg hlk
theorem r_retR {post : Option Nat → Mem → Nat → Nat → Prop} {v : Option Nat} {rt : String} {k1 n1 : Nat} (C : Cx D p s m args c cc nL own) (hr : meth.sig.returnType = some (.object rt)) (hlk : meth.locks = false) (hM : mH D H0 S k1 n1 H locs) (hp : post v S k1 n1) (hdg : decode cc pc = .ok (.areturn, 1)) : W p l e R s m args below meth c H locs cells slots (MQ below (mQ D H0 gR post) args s cells slots (mF H0)) (F0 m pc ls [va_rf v]) :=
  W.aret C.1 C.2.1 hr (Or.inl ⟨rt, rfl⟩) (rf_or v) (fun t ht _ => ⟨v, S, k1, n1, rfl, hp, by rw [ht]; exact hM.locs (fun _ h => by cases h)⟩) hM.2.2.2.2 hdg hlk
/-- the room that was spent, as the heap shows it -/
theorem r_tight {k n k0 n0 : Nat} {g : JFrame} {S0 : Mem} {locs0 : List Loc} (hM : mH D H0 S kc ns H locs) (h0 : mH D H0 S0 k0 n0 s.heap locs0) (h1 : kc ≤ k0 + k) (h2 : ns ≤ n0 + n) (kk : W p l e R s m args below meth c H locs k n Q g) : W p l e R s m args below meth c H locs cells slots Q g := by
  intro T hT X
  refine kk T hT { X with same := ?_ }
  obtain ⟨g1, g2, g3, g4, g5, g6⟩ := X.same
  have hTs : (T.setVm s.vm).heap = H := hT
  refine ⟨g1, g2, ?_, g4, ?_, g6⟩
  · rw [hTs, hM.2.2.1, h0.2.2.1]; omega
  · have e1 : ((H.toList.drop s.heap.size).map (fun c => c.slots.size)).sum + n0 = ns := by
      have e2 : nSl H0 H = ns := hM.2.2.2.1
      have e3 : nSl H0 s.heap = n0 := h0.2.2.2.1
      have hle : H0.size ≤ s.heap.size := by rw [h0.2.2.1]; omega
      have hz : s.heap.size ≤ H.size := by rw [← hTs]; exact g2
      have ht : (H.toList.map (fun c => c.slots.size)).take s.heap.size = s.heap.toList.map (fun c => c.slots.size) := by
        apply List.ext_getElem?
        intro i
        by_cases hi : i < s.heap.size
        · rw [List.getElem?_take_of_lt hi, List.getElem?_map, List.getElem?_map, Array.getElem?_toList, Array.getElem?_toList]
          have hc : s.heap[i]? = some (s.heap[i]'hi) := Array.getElem?_eq_getElem hi
          obtain ⟨c', h3, -, h4, -⟩ := g6 i _ hc
          rw [hTs] at h3
          rw [h3, hc]
          simp [h4]
        · rw [List.getElem?_eq_none (by simp; omega), List.getElem?_eq_none (by simp; omega)]
      have hap : H.toList.map (fun c => c.slots.size) = s.heap.toList.map (fun c => c.slots.size) ++ (H.toList.map (fun c => c.slots.size)).drop s.heap.size := by
        rw [← ht]; exact (List.take_append_drop _ _).symm
      unfold nSl at e2 e3
      rw [List.map_drop] at e2 e3 ⊢
      rw [hap, List.drop_append_of_le_length (by simpa using hle), List.sum_append, e3] at e2
      omega
    rw [hTs]
    omega
end Calls9
end
