section
-- ===== PART A: goes FIRST, ahead of the names: the tables' words, and 'selects' of the private methods out of them =====
/-- a private method of a class that the tables say can be made, by its rows of tables_1 -/
def lw_okq (q : MethodName × Nat) : Prop := (q.1.cls ≠ "java/lang/invoke/MethodHandle" ∧ q.1.cls ≠ "java/lang/invoke/VarHandle") ∧ Cond.instantiable q.1.cls q.2 ∈ tables_1 ∧ Cond.privateMethod q.1 ∈ tables_1 ∧ Cond.instanceMethod q.1 ∈ tables_1
theorem lw_p0 : lw_okq (⟨"MaskBench$Paper", "putInt", "(I)V"⟩, 2) := ⟨⟨by decide +kernel, by decide +kernel⟩, List.mem_of_getElem? (i := 29) (by decide +kernel), List.mem_of_getElem? (i := 436) (by decide +kernel), List.mem_of_getElem? (i := 437) (by decide +kernel)⟩
theorem lw_p1 : lw_okq (⟨"MaskBench$Paper", "put", "(I)V"⟩, 2) := ⟨⟨by decide +kernel, by decide +kernel⟩, List.mem_of_getElem? (i := 29) (by decide +kernel), List.mem_of_getElem? (i := 440) (by decide +kernel), List.mem_of_getElem? (i := 441) (by decide +kernel)⟩
theorem lw_p2 : lw_okq (⟨"MaskBench", "refuse", "(I)I"⟩, 13) := ⟨⟨by decide +kernel, by decide +kernel⟩, List.mem_of_getElem? (i := 21) (by decide +kernel), List.mem_of_getElem? (i := 448) (by decide +kernel), List.mem_of_getElem? (i := 449) (by decide +kernel)⟩
theorem lw_p3 : lw_okq (⟨"MaskBench$Loader", "read", "(LMaskBench$Paper;ILMaskBench$Bench;)Z"⟩, 6) := ⟨⟨by decide +kernel, by decide +kernel⟩, List.mem_of_getElem? (i := 51) (by decide +kernel), List.mem_of_getElem? (i := 452) (by decide +kernel), List.mem_of_getElem? (i := 453) (by decide +kernel)⟩
theorem lw_p4 : lw_okq (⟨"MaskBench$Bench", "clear", "()V"⟩, 4) := ⟨⟨by decide +kernel, by decide +kernel⟩, List.mem_of_getElem? (i := 217) (by decide +kernel), List.mem_of_getElem? (i := 456) (by decide +kernel), List.mem_of_getElem? (i := 457) (by decide +kernel)⟩
theorem lw_p5 : lw_okq (⟨"MaskBench$Scene", "clear", "()V"⟩, 5) := ⟨⟨by decide +kernel, by decide +kernel⟩, List.mem_of_getElem? (i := 112) (by decide +kernel), List.mem_of_getElem? (i := 460) (by decide +kernel), List.mem_of_getElem? (i := 461) (by decide +kernel)⟩
theorem lw_p6 : lw_okq (⟨"MaskBench$Paper", "clear", "()V"⟩, 2) := ⟨⟨by decide +kernel, by decide +kernel⟩, List.mem_of_getElem? (i := 29) (by decide +kernel), List.mem_of_getElem? (i := 464) (by decide +kernel), List.mem_of_getElem? (i := 465) (by decide +kernel)⟩
theorem lw_p7 : lw_okq (⟨"MaskBench$Tokens", "split", "(LMaskBench$Paper;I)V"⟩, 5) := ⟨⟨by decide +kernel, by decide +kernel⟩, List.mem_of_getElem? (i := 57) (by decide +kernel), List.mem_of_getElem? (i := 468) (by decide +kernel), List.mem_of_getElem? (i := 469) (by decide +kernel)⟩
theorem lw_p8 : lw_okq (⟨"MaskBench$Tokens", "cut", "(LMaskBench$Paper;II)I"⟩, 5) := ⟨⟨by decide +kernel, by decide +kernel⟩, List.mem_of_getElem? (i := 57) (by decide +kernel), List.mem_of_getElem? (i := 475) (by decide +kernel), List.mem_of_getElem? (i := 476) (by decide +kernel)⟩
theorem lw_p9 : lw_okq (⟨"MaskBench$Paper", "endOfRun", "(IIII)I"⟩, 2) := ⟨⟨by decide +kernel, by decide +kernel⟩, List.mem_of_getElem? (i := 29) (by decide +kernel), List.mem_of_getElem? (i := 479) (by decide +kernel), List.mem_of_getElem? (i := 480) (by decide +kernel)⟩
theorem lw_p10 : lw_okq (⟨"MaskBench$Tokens", "append", "(IIII)V"⟩, 5) := ⟨⟨by decide +kernel, by decide +kernel⟩, List.mem_of_getElem? (i := 57) (by decide +kernel), List.mem_of_getElem? (i := 489) (by decide +kernel), List.mem_of_getElem? (i := 490) (by decide +kernel)⟩
theorem lw_p11 : lw_okq (⟨"MaskBench$Loader", "readLine", "(LMaskBench$Paper;LMaskBench$Bench;)Z"⟩, 6) := ⟨⟨by decide +kernel, by decide +kernel⟩, List.mem_of_getElem? (i := 51) (by decide +kernel), List.mem_of_getElem? (i := 496) (by decide +kernel), List.mem_of_getElem? (i := 497) (by decide +kernel)⟩
theorem lw_p12 : lw_okq (⟨"MaskBench$Loader", "takeLineWord", "(LMaskBench$Bench;)Z"⟩, 6) := ⟨⟨by decide +kernel, by decide +kernel⟩, List.mem_of_getElem? (i := 51) (by decide +kernel), List.mem_of_getElem? (i := 500) (by decide +kernel), List.mem_of_getElem? (i := 501) (by decide +kernel)⟩
theorem lw_p13 : lw_okq (⟨"MaskBench$Loader", "expect", "(I)Z"⟩, 6) := ⟨⟨by decide +kernel, by decide +kernel⟩, List.mem_of_getElem? (i := 51) (by decide +kernel), List.mem_of_getElem? (i := 504) (by decide +kernel), List.mem_of_getElem? (i := 505) (by decide +kernel)⟩
theorem lw_p14 : lw_okq (⟨"MaskBench$Loader", "wrong", "(I)Z"⟩, 6) := ⟨⟨by decide +kernel, by decide +kernel⟩, List.mem_of_getElem? (i := 51) (by decide +kernel), List.mem_of_getElem? (i := 508) (by decide +kernel), List.mem_of_getElem? (i := 509) (by decide +kernel)⟩
theorem lw_p15 : lw_okq (⟨"MaskBench$Bench", "isFullOf", "(I)Z"⟩, 4) := ⟨⟨by decide +kernel, by decide +kernel⟩, List.mem_of_getElem? (i := 217) (by decide +kernel), List.mem_of_getElem? (i := 565) (by decide +kernel), List.mem_of_getElem? (i := 566) (by decide +kernel)⟩
def lw_privs_1 : List (MethodName × Nat) := [(⟨"MaskBench$Paper", "putInt", "(I)V"⟩, 2), (⟨"MaskBench$Paper", "put", "(I)V"⟩, 2), (⟨"MaskBench", "refuse", "(I)I"⟩, 13), (⟨"MaskBench$Loader", "read", "(LMaskBench$Paper;ILMaskBench$Bench;)Z"⟩, 6), (⟨"MaskBench$Bench", "clear", "()V"⟩, 4), (⟨"MaskBench$Scene", "clear", "()V"⟩, 5), (⟨"MaskBench$Paper", "clear", "()V"⟩, 2), (⟨"MaskBench$Tokens", "split", "(LMaskBench$Paper;I)V"⟩, 5), (⟨"MaskBench$Tokens", "cut", "(LMaskBench$Paper;II)I"⟩, 5), (⟨"MaskBench$Paper", "endOfRun", "(IIII)I"⟩, 2), (⟨"MaskBench$Tokens", "append", "(IIII)V"⟩, 5), (⟨"MaskBench$Loader", "readLine", "(LMaskBench$Paper;LMaskBench$Bench;)Z"⟩, 6), (⟨"MaskBench$Loader", "takeLineWord", "(LMaskBench$Bench;)Z"⟩, 6), (⟨"MaskBench$Loader", "expect", "(I)Z"⟩, 6), (⟨"MaskBench$Loader", "wrong", "(I)Z"⟩, 6), (⟨"MaskBench$Bench", "isFullOf", "(I)Z"⟩, 4)]
theorem lw_r1 : ∀ q ∈ lw_privs_1, lw_okq q := List.forall_mem_cons.mpr ⟨lw_p0, List.forall_mem_cons.mpr ⟨lw_p1, List.forall_mem_cons.mpr ⟨lw_p2, List.forall_mem_cons.mpr ⟨lw_p3, List.forall_mem_cons.mpr ⟨lw_p4, List.forall_mem_cons.mpr ⟨lw_p5, List.forall_mem_cons.mpr ⟨lw_p6, List.forall_mem_cons.mpr ⟨lw_p7, List.forall_mem_cons.mpr ⟨lw_p8, List.forall_mem_cons.mpr ⟨lw_p9, List.forall_mem_cons.mpr ⟨lw_p10, List.forall_mem_cons.mpr ⟨lw_p11, List.forall_mem_cons.mpr ⟨lw_p12, List.forall_mem_cons.mpr ⟨lw_p13, List.forall_mem_cons.mpr ⟨lw_p14, List.forall_mem_cons.mpr ⟨lw_p15, fun _ h => absurd h List.not_mem_nil⟩⟩⟩⟩⟩⟩⟩⟩⟩⟩⟩⟩⟩⟩⟩⟩
theorem lw_p16 : lw_okq (⟨"MaskBench$Marks", "isFull", "()Z"⟩, 4) := ⟨⟨by decide +kernel, by decide +kernel⟩, List.mem_of_getElem? (i := 118) (by decide +kernel), List.mem_of_getElem? (i := 569) (by decide +kernel), List.mem_of_getElem? (i := 570) (by decide +kernel)⟩
theorem lw_p17 : lw_okq (⟨"MaskBench$Loader", "takeNewName", "(LMaskBench$Bench;)Z"⟩, 6) := ⟨⟨by decide +kernel, by decide +kernel⟩, List.mem_of_getElem? (i := 51) (by decide +kernel), List.mem_of_getElem? (i := 573) (by decide +kernel), List.mem_of_getElem? (i := 574) (by decide +kernel)⟩
theorem lw_p18 : lw_okq (⟨"MaskBench$Bench", "numberOf", "(I)I"⟩, 4) := ⟨⟨by decide +kernel, by decide +kernel⟩, List.mem_of_getElem? (i := 217) (by decide +kernel), List.mem_of_getElem? (i := 577) (by decide +kernel), List.mem_of_getElem? (i := 578) (by decide +kernel)⟩
theorem lw_p19 : lw_okq (⟨"MaskBench$Bench", "next", "()LMaskBench$Plate;"⟩, 4) := ⟨⟨by decide +kernel, by decide +kernel⟩, List.mem_of_getElem? (i := 217) (by decide +kernel), List.mem_of_getElem? (i := 581) (by decide +kernel), List.mem_of_getElem? (i := 582) (by decide +kernel)⟩
theorem lw_p20 : lw_okq (⟨"MaskBench$Loader", "takeFormWord", "()Z"⟩, 6) := ⟨⟨by decide +kernel, by decide +kernel⟩, List.mem_of_getElem? (i := 51) (by decide +kernel), List.mem_of_getElem? (i := 586) (by decide +kernel), List.mem_of_getElem? (i := 587) (by decide +kernel)⟩
theorem lw_p21 : lw_okq (⟨"MaskBench$Loader", "takeSlot", "(ILMaskBench$Paper;LMaskBench$Bench;)Z"⟩, 6) := ⟨⟨by decide +kernel, by decide +kernel⟩, List.mem_of_getElem? (i := 51) (by decide +kernel), List.mem_of_getElem? (i := 605) (by decide +kernel), List.mem_of_getElem? (i := 606) (by decide +kernel)⟩
theorem lw_p22 : lw_okq (⟨"MaskBench$Loader", "takePrime", "(I)Z"⟩, 6) := ⟨⟨by decide +kernel, by decide +kernel⟩, List.mem_of_getElem? (i := 51) (by decide +kernel), List.mem_of_getElem? (i := 609) (by decide +kernel), List.mem_of_getElem? (i := 610) (by decide +kernel)⟩
theorem lw_p23 : lw_okq (⟨"MaskBench$Loader", "take", "(I)Z"⟩, 6) := ⟨⟨by decide +kernel, by decide +kernel⟩, List.mem_of_getElem? (i := 51) (by decide +kernel), List.mem_of_getElem? (i := 616) (by decide +kernel), List.mem_of_getElem? (i := 617) (by decide +kernel)⟩
theorem lw_p24 : lw_okq (⟨"MaskBench$Loader", "takeBits", "(LMaskBench$Paper;LMaskBench$Plate;)Z"⟩, 6) := ⟨⟨by decide +kernel, by decide +kernel⟩, List.mem_of_getElem? (i := 51) (by decide +kernel), List.mem_of_getElem? (i := 620) (by decide +kernel), List.mem_of_getElem? (i := 621) (by decide +kernel)⟩
theorem lw_p25 : lw_okq (⟨"MaskBench$Plate", "makeClosedRow", "(I)V"⟩, 12) := ⟨⟨by decide +kernel, by decide +kernel⟩, List.mem_of_getElem? (i := 228) (by decide +kernel), List.mem_of_getElem? (i := 624) (by decide +kernel), List.mem_of_getElem? (i := 625) (by decide +kernel)⟩
theorem lw_p26 : lw_okq (⟨"MaskBench$Plate", "resize", "(II)V"⟩, 12) := ⟨⟨by decide +kernel, by decide +kernel⟩, List.mem_of_getElem? (i := 228) (by decide +kernel), List.mem_of_getElem? (i := 628) (by decide +kernel), List.mem_of_getElem? (i := 629) (by decide +kernel)⟩
theorem lw_p27 : lw_okq (⟨"MaskBench$Loader", "takeNumber", "(II)Z"⟩, 6) := ⟨⟨by decide +kernel, by decide +kernel⟩, List.mem_of_getElem? (i := 51) (by decide +kernel), List.mem_of_getElem? (i := 638) (by decide +kernel), List.mem_of_getElem? (i := 639) (by decide +kernel)⟩
theorem lw_p28 : lw_okq (⟨"MaskBench$Loader", "takePlaces", "(LMaskBench$Plate;)Z"⟩, 6) := ⟨⟨by decide +kernel, by decide +kernel⟩, List.mem_of_getElem? (i := 51) (by decide +kernel), List.mem_of_getElem? (i := 642) (by decide +kernel), List.mem_of_getElem? (i := 643) (by decide +kernel)⟩
theorem lw_p29 : lw_okq (⟨"MaskBench$Plate", "has", "(II)Z"⟩, 12) := ⟨⟨by decide +kernel, by decide +kernel⟩, List.mem_of_getElem? (i := 228) (by decide +kernel), List.mem_of_getElem? (i := 646) (by decide +kernel), List.mem_of_getElem? (i := 647) (by decide +kernel)⟩
theorem lw_p30 : lw_okq (⟨"MaskBench$Loader", "takeNamed", "(LMaskBench$Bench;II)Z"⟩, 6) := ⟨⟨by decide +kernel, by decide +kernel⟩, List.mem_of_getElem? (i := 51) (by decide +kernel), List.mem_of_getElem? (i := 650) (by decide +kernel), List.mem_of_getElem? (i := 651) (by decide +kernel)⟩
theorem lw_p31 : lw_okq (⟨"MaskBench$Bench", "plateOf", "(I)LMaskBench$Plate;"⟩, 4) := ⟨⟨by decide +kernel, by decide +kernel⟩, List.mem_of_getElem? (i := 217) (by decide +kernel), List.mem_of_getElem? (i := 654) (by decide +kernel), List.mem_of_getElem? (i := 655) (by decide +kernel)⟩
def lw_privs_2 : List (MethodName × Nat) := [(⟨"MaskBench$Marks", "isFull", "()Z"⟩, 4), (⟨"MaskBench$Loader", "takeNewName", "(LMaskBench$Bench;)Z"⟩, 6), (⟨"MaskBench$Bench", "numberOf", "(I)I"⟩, 4), (⟨"MaskBench$Bench", "next", "()LMaskBench$Plate;"⟩, 4), (⟨"MaskBench$Loader", "takeFormWord", "()Z"⟩, 6), (⟨"MaskBench$Loader", "takeSlot", "(ILMaskBench$Paper;LMaskBench$Bench;)Z"⟩, 6), (⟨"MaskBench$Loader", "takePrime", "(I)Z"⟩, 6), (⟨"MaskBench$Loader", "take", "(I)Z"⟩, 6), (⟨"MaskBench$Loader", "takeBits", "(LMaskBench$Paper;LMaskBench$Plate;)Z"⟩, 6), (⟨"MaskBench$Plate", "makeClosedRow", "(I)V"⟩, 12), (⟨"MaskBench$Plate", "resize", "(II)V"⟩, 12), (⟨"MaskBench$Loader", "takeNumber", "(II)Z"⟩, 6), (⟨"MaskBench$Loader", "takePlaces", "(LMaskBench$Plate;)Z"⟩, 6), (⟨"MaskBench$Plate", "has", "(II)Z"⟩, 12), (⟨"MaskBench$Loader", "takeNamed", "(LMaskBench$Bench;II)Z"⟩, 6), (⟨"MaskBench$Bench", "plateOf", "(I)LMaskBench$Plate;"⟩, 4)]
theorem lw_r2 : ∀ q ∈ lw_privs_2, lw_okq q := List.forall_mem_cons.mpr ⟨lw_p16, List.forall_mem_cons.mpr ⟨lw_p17, List.forall_mem_cons.mpr ⟨lw_p18, List.forall_mem_cons.mpr ⟨lw_p19, List.forall_mem_cons.mpr ⟨lw_p20, List.forall_mem_cons.mpr ⟨lw_p21, List.forall_mem_cons.mpr ⟨lw_p22, List.forall_mem_cons.mpr ⟨lw_p23, List.forall_mem_cons.mpr ⟨lw_p24, List.forall_mem_cons.mpr ⟨lw_p25, List.forall_mem_cons.mpr ⟨lw_p26, List.forall_mem_cons.mpr ⟨lw_p27, List.forall_mem_cons.mpr ⟨lw_p28, List.forall_mem_cons.mpr ⟨lw_p29, List.forall_mem_cons.mpr ⟨lw_p30, List.forall_mem_cons.mpr ⟨lw_p31, fun _ h => absurd h List.not_mem_nil⟩⟩⟩⟩⟩⟩⟩⟩⟩⟩⟩⟩⟩⟩⟩⟩
theorem lw_p32 : lw_okq (⟨"MaskBench$Bench", "named", "(I)LMaskBench$Plate;"⟩, 4) := ⟨⟨by decide +kernel, by decide +kernel⟩, List.mem_of_getElem? (i := 217) (by decide +kernel), List.mem_of_getElem? (i := 658) (by decide +kernel), List.mem_of_getElem? (i := 659) (by decide +kernel)⟩
theorem lw_p33 : lw_okq (⟨"MaskBench$Loader", "takeSign", "()Z"⟩, 6) := ⟨⟨by decide +kernel, by decide +kernel⟩, List.mem_of_getElem? (i := 51) (by decide +kernel), List.mem_of_getElem? (i := 662) (by decide +kernel), List.mem_of_getElem? (i := 663) (by decide +kernel)⟩
theorem lw_p34 : lw_okq (⟨"MaskBench$Loader", "finishPlate", "(ILMaskBench$Bench;)V"⟩, 6) := ⟨⟨by decide +kernel, by decide +kernel⟩, List.mem_of_getElem? (i := 51) (by decide +kernel), List.mem_of_getElem? (i := 666) (by decide +kernel), List.mem_of_getElem? (i := 667) (by decide +kernel)⟩
theorem lw_p35 : lw_okq (⟨"MaskBench$Plate", "makeRow", "(I)V"⟩, 12) := ⟨⟨by decide +kernel, by decide +kernel⟩, List.mem_of_getElem? (i := 228) (by decide +kernel), List.mem_of_getElem? (i := 670) (by decide +kernel), List.mem_of_getElem? (i := 671) (by decide +kernel)⟩
theorem lw_p36 : lw_okq (⟨"MaskBench$Plate", "weighByHoles", "()V"⟩, 12) := ⟨⟨by decide +kernel, by decide +kernel⟩, List.mem_of_getElem? (i := 228) (by decide +kernel), List.mem_of_getElem? (i := 678) (by decide +kernel), List.mem_of_getElem? (i := 679) (by decide +kernel)⟩
theorem lw_p37 : lw_okq (⟨"MaskBench$Plate", "makeSquare", "(I)V"⟩, 12) := ⟨⟨by decide +kernel, by decide +kernel⟩, List.mem_of_getElem? (i := 228) (by decide +kernel), List.mem_of_getElem? (i := 682) (by decide +kernel), List.mem_of_getElem? (i := 683) (by decide +kernel)⟩
theorem lw_p38 : lw_okq (⟨"MaskBench$Plate", "makeTurned", "(LMaskBench$Plate;II)V"⟩, 12) := ⟨⟨by decide +kernel, by decide +kernel⟩, List.mem_of_getElem? (i := 228) (by decide +kernel), List.mem_of_getElem? (i := 686) (by decide +kernel), List.mem_of_getElem? (i := 687) (by decide +kernel)⟩
theorem lw_p39 : lw_okq (⟨"MaskBench$Plate", "addShifted", "([I[IIII)V"⟩, 12) := ⟨⟨by decide +kernel, by decide +kernel⟩, List.mem_of_getElem? (i := 228) (by decide +kernel), List.mem_of_getElem? (i := 690) (by decide +kernel), List.mem_of_getElem? (i := 691) (by decide +kernel)⟩
theorem lw_p40 : lw_okq (⟨"MaskBench$Plate", "makeNegative", "(LMaskBench$Plate;)V"⟩, 12) := ⟨⟨by decide +kernel, by decide +kernel⟩, List.mem_of_getElem? (i := 228) (by decide +kernel), List.mem_of_getElem? (i := 697) (by decide +kernel), List.mem_of_getElem? (i := 698) (by decide +kernel)⟩
theorem lw_p41 : lw_okq (⟨"MaskBench$Plate", "makeBoth", "(LMaskBench$Plate;LMaskBench$Plate;)V"⟩, 12) := ⟨⟨by decide +kernel, by decide +kernel⟩, List.mem_of_getElem? (i := 228) (by decide +kernel), List.mem_of_getElem? (i := 701) (by decide +kernel), List.mem_of_getElem? (i := 702) (by decide +kernel)⟩
theorem lw_p42 : lw_okq (⟨"MaskBench$Plate", "xOf", "(I)I"⟩, 12) := ⟨⟨by decide +kernel, by decide +kernel⟩, List.mem_of_getElem? (i := 228) (by decide +kernel), List.mem_of_getElem? (i := 705) (by decide +kernel), List.mem_of_getElem? (i := 706) (by decide +kernel)⟩
theorem lw_p43 : lw_okq (⟨"MaskBench$Plate", "yOf", "(I)I"⟩, 12) := ⟨⟨by decide +kernel, by decide +kernel⟩, List.mem_of_getElem? (i := 228) (by decide +kernel), List.mem_of_getElem? (i := 709) (by decide +kernel), List.mem_of_getElem? (i := 710) (by decide +kernel)⟩
theorem lw_p44 : lw_okq (⟨"MaskBench$Plate", "countUp", "()V"⟩, 12) := ⟨⟨by decide +kernel, by decide +kernel⟩, List.mem_of_getElem? (i := 228) (by decide +kernel), List.mem_of_getElem? (i := 714) (by decide +kernel), List.mem_of_getElem? (i := 715) (by decide +kernel)⟩
theorem lw_p45 : lw_okq (⟨"MaskBench$Loader", "tellLine", "(ILMaskBench$Paper;LMaskBench$Paper;)V"⟩, 6) := ⟨⟨by decide +kernel, by decide +kernel⟩, List.mem_of_getElem? (i := 51) (by decide +kernel), List.mem_of_getElem? (i := 721) (by decide +kernel), List.mem_of_getElem? (i := 722) (by decide +kernel)⟩
theorem lw_p46 : lw_okq (⟨"MaskBench$Paper", "putBlank", "()V"⟩, 2) := ⟨⟨by decide +kernel, by decide +kernel⟩, List.mem_of_getElem? (i := 29) (by decide +kernel), List.mem_of_getElem? (i := 725) (by decide +kernel), List.mem_of_getElem? (i := 726) (by decide +kernel)⟩
theorem lw_p47 : lw_okq (⟨"MaskBench$Loader", "finishScene", "(ILMaskBench$Scene;)V"⟩, 6) := ⟨⟨by decide +kernel, by decide +kernel⟩, List.mem_of_getElem? (i := 51) (by decide +kernel), List.mem_of_getElem? (i := 730) (by decide +kernel), List.mem_of_getElem? (i := 731) (by decide +kernel)⟩
def lw_privs_3 : List (MethodName × Nat) := [(⟨"MaskBench$Bench", "named", "(I)LMaskBench$Plate;"⟩, 4), (⟨"MaskBench$Loader", "takeSign", "()Z"⟩, 6), (⟨"MaskBench$Loader", "finishPlate", "(ILMaskBench$Bench;)V"⟩, 6), (⟨"MaskBench$Plate", "makeRow", "(I)V"⟩, 12), (⟨"MaskBench$Plate", "weighByHoles", "()V"⟩, 12), (⟨"MaskBench$Plate", "makeSquare", "(I)V"⟩, 12), (⟨"MaskBench$Plate", "makeTurned", "(LMaskBench$Plate;II)V"⟩, 12), (⟨"MaskBench$Plate", "addShifted", "([I[IIII)V"⟩, 12), (⟨"MaskBench$Plate", "makeNegative", "(LMaskBench$Plate;)V"⟩, 12), (⟨"MaskBench$Plate", "makeBoth", "(LMaskBench$Plate;LMaskBench$Plate;)V"⟩, 12), (⟨"MaskBench$Plate", "xOf", "(I)I"⟩, 12), (⟨"MaskBench$Plate", "yOf", "(I)I"⟩, 12), (⟨"MaskBench$Plate", "countUp", "()V"⟩, 12), (⟨"MaskBench$Loader", "tellLine", "(ILMaskBench$Paper;LMaskBench$Paper;)V"⟩, 6), (⟨"MaskBench$Paper", "putBlank", "()V"⟩, 2), (⟨"MaskBench$Loader", "finishScene", "(ILMaskBench$Scene;)V"⟩, 6)]
theorem lw_r3 : ∀ q ∈ lw_privs_3, lw_okq q := List.forall_mem_cons.mpr ⟨lw_p32, List.forall_mem_cons.mpr ⟨lw_p33, List.forall_mem_cons.mpr ⟨lw_p34, List.forall_mem_cons.mpr ⟨lw_p35, List.forall_mem_cons.mpr ⟨lw_p36, List.forall_mem_cons.mpr ⟨lw_p37, List.forall_mem_cons.mpr ⟨lw_p38, List.forall_mem_cons.mpr ⟨lw_p39, List.forall_mem_cons.mpr ⟨lw_p40, List.forall_mem_cons.mpr ⟨lw_p41, List.forall_mem_cons.mpr ⟨lw_p42, List.forall_mem_cons.mpr ⟨lw_p43, List.forall_mem_cons.mpr ⟨lw_p44, List.forall_mem_cons.mpr ⟨lw_p45, List.forall_mem_cons.mpr ⟨lw_p46, List.forall_mem_cons.mpr ⟨lw_p47, fun _ h => absurd h List.not_mem_nil⟩⟩⟩⟩⟩⟩⟩⟩⟩⟩⟩⟩⟩⟩⟩⟩
theorem lw_p48 : lw_okq (⟨"MaskBench$Marks", "append", "(III)V"⟩, 4) := ⟨⟨by decide +kernel, by decide +kernel⟩, List.mem_of_getElem? (i := 118) (by decide +kernel), List.mem_of_getElem? (i := 734) (by decide +kernel), List.mem_of_getElem? (i := 735) (by decide +kernel)⟩
theorem lw_p49 : lw_okq (⟨"MaskBench$History", "clear", "()V"⟩, 3) := ⟨⟨by decide +kernel, by decide +kernel⟩, List.mem_of_getElem? (i := 105) (by decide +kernel), List.mem_of_getElem? (i := 740) (by decide +kernel), List.mem_of_getElem? (i := 741) (by decide +kernel)⟩
theorem lw_p50 : lw_okq (⟨"MaskBench$Picture", "clear", "()V"⟩, 5) := ⟨⟨by decide +kernel, by decide +kernel⟩, List.mem_of_getElem? (i := 192) (by decide +kernel), List.mem_of_getElem? (i := 744) (by decide +kernel), List.mem_of_getElem? (i := 745) (by decide +kernel)⟩
theorem lw_p51 : lw_okq (⟨"MaskBench$Camera", "forget", "()V"⟩, 19) := ⟨⟨by decide +kernel, by decide +kernel⟩, List.mem_of_getElem? (i := 313) (by decide +kernel), List.mem_of_getElem? (i := 748) (by decide +kernel), List.mem_of_getElem? (i := 749) (by decide +kernel)⟩
theorem lw_p52 : lw_okq (⟨"MaskBench", "answer", "(I)I"⟩, 13) := ⟨⟨by decide +kernel, by decide +kernel⟩, List.mem_of_getElem? (i := 21) (by decide +kernel), List.mem_of_getElem? (i := 752) (by decide +kernel), List.mem_of_getElem? (i := 753) (by decide +kernel)⟩
theorem lw_p53 : lw_okq (⟨"MaskBench$Plate", "figure", "(I)I"⟩, 12) := ⟨⟨by decide +kernel, by decide +kernel⟩, List.mem_of_getElem? (i := 228) (by decide +kernel), List.mem_of_getElem? (i := 770) (by decide +kernel), List.mem_of_getElem? (i := 771) (by decide +kernel)⟩
theorem lw_p54 : lw_okq (⟨"MaskBench$Plate", "knowSides", "()V"⟩, 12) := ⟨⟨by decide +kernel, by decide +kernel⟩, List.mem_of_getElem? (i := 228) (by decide +kernel), List.mem_of_getElem? (i := 774) (by decide +kernel), List.mem_of_getElem? (i := 775) (by decide +kernel)⟩
theorem lw_p55 : lw_okq (⟨"MaskBench$Plate", "addOverHoles", "([I[I)V"⟩, 12) := ⟨⟨by decide +kernel, by decide +kernel⟩, List.mem_of_getElem? (i := 228) (by decide +kernel), List.mem_of_getElem? (i := 778) (by decide +kernel), List.mem_of_getElem? (i := 779) (by decide +kernel)⟩
theorem lw_p56 : lw_okq (⟨"MaskBench$Plate", "leastBehindFirst", "([I)I"⟩, 12) := ⟨⟨by decide +kernel, by decide +kernel⟩, List.mem_of_getElem? (i := 228) (by decide +kernel), List.mem_of_getElem? (i := 782) (by decide +kernel), List.mem_of_getElem? (i := 783) (by decide +kernel)⟩
theorem lw_p57 : lw_okq (⟨"MaskBench$Plate", "greatestBehindFirst", "([I)I"⟩, 12) := ⟨⟨by decide +kernel, by decide +kernel⟩, List.mem_of_getElem? (i := 228) (by decide +kernel), List.mem_of_getElem? (i := 787) (by decide +kernel), List.mem_of_getElem? (i := 788) (by decide +kernel)⟩
theorem lw_p58 : lw_okq (⟨"MaskBench$Plate", "timesBehindFirst", "([II)I"⟩, 12) := ⟨⟨by decide +kernel, by decide +kernel⟩, List.mem_of_getElem? (i := 228) (by decide +kernel), List.mem_of_getElem? (i := 805) (by decide +kernel), List.mem_of_getElem? (i := 806) (by decide +kernel)⟩
theorem lw_p59 : lw_okq (⟨"MaskBench$Plate", "indexOf", "(II)I"⟩, 12) := ⟨⟨by decide +kernel, by decide +kernel⟩, List.mem_of_getElem? (i := 228) (by decide +kernel), List.mem_of_getElem? (i := 813) (by decide +kernel), List.mem_of_getElem? (i := 814) (by decide +kernel)⟩
theorem lw_p60 : lw_okq (⟨"MaskBench$Plate", "isTurned", "(LMaskBench$Plate;)Z"⟩, 12) := ⟨⟨by decide +kernel, by decide +kernel⟩, List.mem_of_getElem? (i := 228) (by decide +kernel), List.mem_of_getElem? (i := 821) (by decide +kernel), List.mem_of_getElem? (i := 822) (by decide +kernel)⟩
theorem lw_p61 : lw_okq (⟨"MaskBench$Plate", "hasHolesOf", "(LMaskBench$Plate;II)Z"⟩, 12) := ⟨⟨by decide +kernel, by decide +kernel⟩, List.mem_of_getElem? (i := 228) (by decide +kernel), List.mem_of_getElem? (i := 825) (by decide +kernel), List.mem_of_getElem? (i := 826) (by decide +kernel)⟩
theorem lw_p62 : lw_okq (⟨"MaskBench$Scene", "marksOf", "(I)LMaskBench$Marks;"⟩, 5) := ⟨⟨by decide +kernel, by decide +kernel⟩, List.mem_of_getElem? (i := 112) (by decide +kernel), List.mem_of_getElem? (i := 840) (by decide +kernel), List.mem_of_getElem? (i := 841) (by decide +kernel)⟩
theorem lw_p63 : lw_okq (⟨"MaskBench$Marks", "has", "(I)Z"⟩, 4) := ⟨⟨by decide +kernel, by decide +kernel⟩, List.mem_of_getElem? (i := 118) (by decide +kernel), List.mem_of_getElem? (i := 844) (by decide +kernel), List.mem_of_getElem? (i := 845) (by decide +kernel)⟩
def lw_privs_4 : List (MethodName × Nat) := [(⟨"MaskBench$Marks", "append", "(III)V"⟩, 4), (⟨"MaskBench$History", "clear", "()V"⟩, 3), (⟨"MaskBench$Picture", "clear", "()V"⟩, 5), (⟨"MaskBench$Camera", "forget", "()V"⟩, 19), (⟨"MaskBench", "answer", "(I)I"⟩, 13), (⟨"MaskBench$Plate", "figure", "(I)I"⟩, 12), (⟨"MaskBench$Plate", "knowSides", "()V"⟩, 12), (⟨"MaskBench$Plate", "addOverHoles", "([I[I)V"⟩, 12), (⟨"MaskBench$Plate", "leastBehindFirst", "([I)I"⟩, 12), (⟨"MaskBench$Plate", "greatestBehindFirst", "([I)I"⟩, 12), (⟨"MaskBench$Plate", "timesBehindFirst", "([II)I"⟩, 12), (⟨"MaskBench$Plate", "indexOf", "(II)I"⟩, 12), (⟨"MaskBench$Plate", "isTurned", "(LMaskBench$Plate;)Z"⟩, 12), (⟨"MaskBench$Plate", "hasHolesOf", "(LMaskBench$Plate;II)Z"⟩, 12), (⟨"MaskBench$Scene", "marksOf", "(I)LMaskBench$Marks;"⟩, 5), (⟨"MaskBench$Marks", "has", "(I)Z"⟩, 4)]
theorem lw_r4 : ∀ q ∈ lw_privs_4, lw_okq q := List.forall_mem_cons.mpr ⟨lw_p48, List.forall_mem_cons.mpr ⟨lw_p49, List.forall_mem_cons.mpr ⟨lw_p50, List.forall_mem_cons.mpr ⟨lw_p51, List.forall_mem_cons.mpr ⟨lw_p52, List.forall_mem_cons.mpr ⟨lw_p53, List.forall_mem_cons.mpr ⟨lw_p54, List.forall_mem_cons.mpr ⟨lw_p55, List.forall_mem_cons.mpr ⟨lw_p56, List.forall_mem_cons.mpr ⟨lw_p57, List.forall_mem_cons.mpr ⟨lw_p58, List.forall_mem_cons.mpr ⟨lw_p59, List.forall_mem_cons.mpr ⟨lw_p60, List.forall_mem_cons.mpr ⟨lw_p61, List.forall_mem_cons.mpr ⟨lw_p62, List.forall_mem_cons.mpr ⟨lw_p63, fun _ h => absurd h List.not_mem_nil⟩⟩⟩⟩⟩⟩⟩⟩⟩⟩⟩⟩⟩⟩⟩⟩
theorem lw_p64 : lw_okq (⟨"MaskBench", "beginAct", "()V"⟩, 13) := ⟨⟨by decide +kernel, by decide +kernel⟩, List.mem_of_getElem? (i := 21) (by decide +kernel), List.mem_of_getElem? (i := 859) (by decide +kernel), List.mem_of_getElem? (i := 860) (by decide +kernel)⟩
theorem lw_p65 : lw_okq (⟨"MaskBench$History", "save", "(LMaskBench$Scene;)V"⟩, 3) := ⟨⟨by decide +kernel, by decide +kernel⟩, List.mem_of_getElem? (i := 105) (by decide +kernel), List.mem_of_getElem? (i := 863) (by decide +kernel), List.mem_of_getElem? (i := 864) (by decide +kernel)⟩
theorem lw_p66 : lw_okq (⟨"MaskBench$Scene", "copyFrom", "(LMaskBench$Scene;)V"⟩, 5) := ⟨⟨by decide +kernel, by decide +kernel⟩, List.mem_of_getElem? (i := 112) (by decide +kernel), List.mem_of_getElem? (i := 867) (by decide +kernel), List.mem_of_getElem? (i := 868) (by decide +kernel)⟩
theorem lw_p67 : lw_okq (⟨"MaskBench$Marks", "copyFrom", "(LMaskBench$Marks;)V"⟩, 4) := ⟨⟨by decide +kernel, by decide +kernel⟩, List.mem_of_getElem? (i := 118) (by decide +kernel), List.mem_of_getElem? (i := 871) (by decide +kernel), List.mem_of_getElem? (i := 872) (by decide +kernel)⟩
theorem lw_p68 : lw_okq (⟨"MaskBench", "takeOut", "(LMaskBench$Marks;I)I"⟩, 13) := ⟨⟨by decide +kernel, by decide +kernel⟩, List.mem_of_getElem? (i := 21) (by decide +kernel), List.mem_of_getElem? (i := 881) (by decide +kernel), List.mem_of_getElem? (i := 882) (by decide +kernel)⟩
theorem lw_p69 : lw_okq (⟨"MaskBench$Marks", "takeOut", "(I)V"⟩, 4) := ⟨⟨by decide +kernel, by decide +kernel⟩, List.mem_of_getElem? (i := 118) (by decide +kernel), List.mem_of_getElem? (i := 885) (by decide +kernel), List.mem_of_getElem? (i := 886) (by decide +kernel)⟩
theorem lw_p70 : lw_okq (⟨"MaskBench$Marks", "tells", "(II)Z"⟩, 4) := ⟨⟨by decide +kernel, by decide +kernel⟩, List.mem_of_getElem? (i := 118) (by decide +kernel), List.mem_of_getElem? (i := 894) (by decide +kernel), List.mem_of_getElem? (i := 895) (by decide +kernel)⟩
theorem lw_p71 : lw_okq (⟨"MaskBench$Marks", "shift", "(II)V"⟩, 4) := ⟨⟨by decide +kernel, by decide +kernel⟩, List.mem_of_getElem? (i := 118) (by decide +kernel), List.mem_of_getElem? (i := 914) (by decide +kernel), List.mem_of_getElem? (i := 915) (by decide +kernel)⟩
theorem lw_p72 : lw_okq (⟨"MaskBench$History", "takeBack", "(LMaskBench$Scene;)V"⟩, 3) := ⟨⟨by decide +kernel, by decide +kernel⟩, List.mem_of_getElem? (i := 105) (by decide +kernel), List.mem_of_getElem? (i := 922) (by decide +kernel), List.mem_of_getElem? (i := 923) (by decide +kernel)⟩
theorem lw_p73 : lw_okq (⟨"MaskBench", "lookAt", "(II)I"⟩, 13) := ⟨⟨by decide +kernel, by decide +kernel⟩, List.mem_of_getElem? (i := 21) (by decide +kernel), List.mem_of_getElem? (i := 930) (by decide +kernel), List.mem_of_getElem? (i := 931) (by decide +kernel)⟩
theorem lw_p74 : lw_okq (⟨"MaskBench", "look", "()I"⟩, 13) := ⟨⟨by decide +kernel, by decide +kernel⟩, List.mem_of_getElem? (i := 21) (by decide +kernel), List.mem_of_getElem? (i := 934) (by decide +kernel), List.mem_of_getElem? (i := 935) (by decide +kernel)⟩
theorem lw_p75 : lw_okq (⟨"MaskBench$Bench", "plateInUse", "()LMaskBench$Plate;"⟩, 4) := ⟨⟨by decide +kernel, by decide +kernel⟩, List.mem_of_getElem? (i := 217) (by decide +kernel), List.mem_of_getElem? (i := 938) (by decide +kernel), List.mem_of_getElem? (i := 939) (by decide +kernel)⟩
theorem lw_p76 : lw_okq (⟨"MaskBench$Camera", "aim", "(LMaskBench$Plate;LMaskBench$Scene;)V"⟩, 19) := ⟨⟨by decide +kernel, by decide +kernel⟩, List.mem_of_getElem? (i := 313) (by decide +kernel), List.mem_of_getElem? (i := 943) (by decide +kernel), List.mem_of_getElem? (i := 944) (by decide +kernel)⟩
theorem lw_p77 : lw_okq (⟨"MaskBench$Camera", "markLost", "()V"⟩, 19) := ⟨⟨by decide +kernel, by decide +kernel⟩, List.mem_of_getElem? (i := 313) (by decide +kernel), List.mem_of_getElem? (i := 947) (by decide +kernel), List.mem_of_getElem? (i := 948) (by decide +kernel)⟩
theorem lw_p78 : lw_okq (⟨"MaskBench$Camera", "addCounts", "([ILMaskBench$Marks;)V"⟩, 19) := ⟨⟨by decide +kernel, by decide +kernel⟩, List.mem_of_getElem? (i := 313) (by decide +kernel), List.mem_of_getElem? (i := 954) (by decide +kernel), List.mem_of_getElem? (i := 955) (by decide +kernel)⟩
theorem lw_p79 : lw_okq (⟨"MaskBench$Camera", "throwAll", "([II)V"⟩, 19) := ⟨⟨by decide +kernel, by decide +kernel⟩, List.mem_of_getElem? (i := 313) (by decide +kernel), List.mem_of_getElem? (i := 958) (by decide +kernel), List.mem_of_getElem? (i := 959) (by decide +kernel)⟩
def lw_privs_5 : List (MethodName × Nat) := [(⟨"MaskBench", "beginAct", "()V"⟩, 13), (⟨"MaskBench$History", "save", "(LMaskBench$Scene;)V"⟩, 3), (⟨"MaskBench$Scene", "copyFrom", "(LMaskBench$Scene;)V"⟩, 5), (⟨"MaskBench$Marks", "copyFrom", "(LMaskBench$Marks;)V"⟩, 4), (⟨"MaskBench", "takeOut", "(LMaskBench$Marks;I)I"⟩, 13), (⟨"MaskBench$Marks", "takeOut", "(I)V"⟩, 4), (⟨"MaskBench$Marks", "tells", "(II)Z"⟩, 4), (⟨"MaskBench$Marks", "shift", "(II)V"⟩, 4), (⟨"MaskBench$History", "takeBack", "(LMaskBench$Scene;)V"⟩, 3), (⟨"MaskBench", "lookAt", "(II)I"⟩, 13), (⟨"MaskBench", "look", "()I"⟩, 13), (⟨"MaskBench$Bench", "plateInUse", "()LMaskBench$Plate;"⟩, 4), (⟨"MaskBench$Camera", "aim", "(LMaskBench$Plate;LMaskBench$Scene;)V"⟩, 19), (⟨"MaskBench$Camera", "markLost", "()V"⟩, 19), (⟨"MaskBench$Camera", "addCounts", "([ILMaskBench$Marks;)V"⟩, 19), (⟨"MaskBench$Camera", "throwAll", "([II)V"⟩, 19)]
theorem lw_r5 : ∀ q ∈ lw_privs_5, lw_okq q := List.forall_mem_cons.mpr ⟨lw_p64, List.forall_mem_cons.mpr ⟨lw_p65, List.forall_mem_cons.mpr ⟨lw_p66, List.forall_mem_cons.mpr ⟨lw_p67, List.forall_mem_cons.mpr ⟨lw_p68, List.forall_mem_cons.mpr ⟨lw_p69, List.forall_mem_cons.mpr ⟨lw_p70, List.forall_mem_cons.mpr ⟨lw_p71, List.forall_mem_cons.mpr ⟨lw_p72, List.forall_mem_cons.mpr ⟨lw_p73, List.forall_mem_cons.mpr ⟨lw_p74, List.forall_mem_cons.mpr ⟨lw_p75, List.forall_mem_cons.mpr ⟨lw_p76, List.forall_mem_cons.mpr ⟨lw_p77, List.forall_mem_cons.mpr ⟨lw_p78, List.forall_mem_cons.mpr ⟨lw_p79, fun _ h => absurd h List.not_mem_nil⟩⟩⟩⟩⟩⟩⟩⟩⟩⟩⟩⟩⟩⟩⟩⟩
theorem lw_p80 : lw_okq (⟨"MaskBench", "lookToRestore", "()I"⟩, 13) := ⟨⟨by decide +kernel, by decide +kernel⟩, List.mem_of_getElem? (i := 21) (by decide +kernel), List.mem_of_getElem? (i := 963) (by decide +kernel), List.mem_of_getElem? (i := 964) (by decide +kernel)⟩
theorem lw_p81 : lw_okq (⟨"MaskBench$Plate", "canRestore", "()Z"⟩, 12) := ⟨⟨by decide +kernel, by decide +kernel⟩, List.mem_of_getElem? (i := 228) (by decide +kernel), List.mem_of_getElem? (i := 967) (by decide +kernel), List.mem_of_getElem? (i := 968) (by decide +kernel)⟩
theorem lw_p82 : lw_okq (⟨"MaskBench$Camera", "figureAt", "(II)I"⟩, 19) := ⟨⟨by decide +kernel, by decide +kernel⟩, List.mem_of_getElem? (i := 313) (by decide +kernel), List.mem_of_getElem? (i := 971) (by decide +kernel), List.mem_of_getElem? (i := 972) (by decide +kernel)⟩
theorem lw_p83 : lw_okq (⟨"MaskBench$Camera", "decode", "()V"⟩, 19) := ⟨⟨by decide +kernel, by decide +kernel⟩, List.mem_of_getElem? (i := 313) (by decide +kernel), List.mem_of_getElem? (i := 975) (by decide +kernel), List.mem_of_getElem? (i := 976) (by decide +kernel)⟩
theorem lw_p84 : lw_okq (⟨"MaskBench$Plate", "decodeAll", "([I[I)V"⟩, 12) := ⟨⟨by decide +kernel, by decide +kernel⟩, List.mem_of_getElem? (i := 228) (by decide +kernel), List.mem_of_getElem? (i := 979) (by decide +kernel), List.mem_of_getElem? (i := 980) (by decide +kernel)⟩
theorem lw_p85 : lw_okq (⟨"MaskBench$Plate", "addMirrored", "([I[III)V"⟩, 12) := ⟨⟨by decide +kernel, by decide +kernel⟩, List.mem_of_getElem? (i := 228) (by decide +kernel), List.mem_of_getElem? (i := 983) (by decide +kernel), List.mem_of_getElem? (i := 984) (by decide +kernel)⟩
theorem lw_p86 : lw_okq (⟨"MaskBench$Camera", "findMoved", "()V"⟩, 19) := ⟨⟨by decide +kernel, by decide +kernel⟩, List.mem_of_getElem? (i := 313) (by decide +kernel), List.mem_of_getElem? (i := 987) (by decide +kernel), List.mem_of_getElem? (i := 988) (by decide +kernel)⟩
theorem lw_p87 : lw_okq (⟨"MaskBench$Camera", "lightSeen", "()I"⟩, 19) := ⟨⟨by decide +kernel, by decide +kernel⟩, List.mem_of_getElem? (i := 313) (by decide +kernel), List.mem_of_getElem? (i := 991) (by decide +kernel), List.mem_of_getElem? (i := 992) (by decide +kernel)⟩
theorem lw_p88 : lw_okq (⟨"MaskBench$Camera", "floorBy", "(I)I"⟩, 19) := ⟨⟨by decide +kernel, by decide +kernel⟩, List.mem_of_getElem? (i := 313) (by decide +kernel), List.mem_of_getElem? (i := 995) (by decide +kernel), List.mem_of_getElem? (i := 996) (by decide +kernel)⟩
theorem lw_p89 : lw_okq (⟨"MaskBench$Camera", "lightByHoles", "(I)I"⟩, 19) := ⟨⟨by decide +kernel, by decide +kernel⟩, List.mem_of_getElem? (i := 313) (by decide +kernel), List.mem_of_getElem? (i := 999) (by decide +kernel), List.mem_of_getElem? (i := 1000) (by decide +kernel)⟩
theorem lw_p90 : lw_okq (⟨"MaskBench$Camera", "restoredBy", "(II)I"⟩, 19) := ⟨⟨by decide +kernel, by decide +kernel⟩, List.mem_of_getElem? (i := 313) (by decide +kernel), List.mem_of_getElem? (i := 1006) (by decide +kernel), List.mem_of_getElem? (i := 1007) (by decide +kernel)⟩
theorem lw_p91 : lw_okq (⟨"MaskBench$Camera", "figure", "(I)I"⟩, 19) := ⟨⟨by decide +kernel, by decide +kernel⟩, List.mem_of_getElem? (i := 313) (by decide +kernel), List.mem_of_getElem? (i := 1014) (by decide +kernel), List.mem_of_getElem? (i := 1015) (by decide +kernel)⟩
theorem lw_p92 : lw_okq (⟨"MaskBench$Camera", "errorOf", "([II)I"⟩, 19) := ⟨⟨by decide +kernel, by decide +kernel⟩, List.mem_of_getElem? (i := 313) (by decide +kernel), List.mem_of_getElem? (i := 1018) (by decide +kernel), List.mem_of_getElem? (i := 1019) (by decide +kernel)⟩
theorem lw_p93 : lw_okq (⟨"MaskBench$Camera", "movedPlaces", "()I"⟩, 19) := ⟨⟨by decide +kernel, by decide +kernel⟩, List.mem_of_getElem? (i := 313) (by decide +kernel), List.mem_of_getElem? (i := 1025) (by decide +kernel), List.mem_of_getElem? (i := 1026) (by decide +kernel)⟩
theorem lw_p94 : lw_okq (⟨"MaskBench$Camera", "farthestMoved", "()I"⟩, 19) := ⟨⟨by decide +kernel, by decide +kernel⟩, List.mem_of_getElem? (i := 313) (by decide +kernel), List.mem_of_getElem? (i := 1029) (by decide +kernel), List.mem_of_getElem? (i := 1030) (by decide +kernel)⟩
theorem lw_p95 : lw_okq (⟨"MaskBench$Camera", "timesGreatest", "([I)I"⟩, 19) := ⟨⟨by decide +kernel, by decide +kernel⟩, List.mem_of_getElem? (i := 313) (by decide +kernel), List.mem_of_getElem? (i := 1039) (by decide +kernel), List.mem_of_getElem? (i := 1040) (by decide +kernel)⟩
def lw_privs_6 : List (MethodName × Nat) := [(⟨"MaskBench", "lookToRestore", "()I"⟩, 13), (⟨"MaskBench$Plate", "canRestore", "()Z"⟩, 12), (⟨"MaskBench$Camera", "figureAt", "(II)I"⟩, 19), (⟨"MaskBench$Camera", "decode", "()V"⟩, 19), (⟨"MaskBench$Plate", "decodeAll", "([I[I)V"⟩, 12), (⟨"MaskBench$Plate", "addMirrored", "([I[III)V"⟩, 12), (⟨"MaskBench$Camera", "findMoved", "()V"⟩, 19), (⟨"MaskBench$Camera", "lightSeen", "()I"⟩, 19), (⟨"MaskBench$Camera", "floorBy", "(I)I"⟩, 19), (⟨"MaskBench$Camera", "lightByHoles", "(I)I"⟩, 19), (⟨"MaskBench$Camera", "restoredBy", "(II)I"⟩, 19), (⟨"MaskBench$Camera", "figure", "(I)I"⟩, 19), (⟨"MaskBench$Camera", "errorOf", "([II)I"⟩, 19), (⟨"MaskBench$Camera", "movedPlaces", "()I"⟩, 19), (⟨"MaskBench$Camera", "farthestMoved", "()I"⟩, 19), (⟨"MaskBench$Camera", "timesGreatest", "([I)I"⟩, 19)]
theorem lw_r6 : ∀ q ∈ lw_privs_6, lw_okq q := List.forall_mem_cons.mpr ⟨lw_p80, List.forall_mem_cons.mpr ⟨lw_p81, List.forall_mem_cons.mpr ⟨lw_p82, List.forall_mem_cons.mpr ⟨lw_p83, List.forall_mem_cons.mpr ⟨lw_p84, List.forall_mem_cons.mpr ⟨lw_p85, List.forall_mem_cons.mpr ⟨lw_p86, List.forall_mem_cons.mpr ⟨lw_p87, List.forall_mem_cons.mpr ⟨lw_p88, List.forall_mem_cons.mpr ⟨lw_p89, List.forall_mem_cons.mpr ⟨lw_p90, List.forall_mem_cons.mpr ⟨lw_p91, List.forall_mem_cons.mpr ⟨lw_p92, List.forall_mem_cons.mpr ⟨lw_p93, List.forall_mem_cons.mpr ⟨lw_p94, List.forall_mem_cons.mpr ⟨lw_p95, fun _ h => absurd h List.not_mem_nil⟩⟩⟩⟩⟩⟩⟩⟩⟩⟩⟩⟩⟩⟩⟩⟩
theorem lw_p96 : lw_okq (⟨"MaskBench$Camera", "placeOfGreatest", "([I)I"⟩, 19) := ⟨⟨by decide +kernel, by decide +kernel⟩, List.mem_of_getElem? (i := 313) (by decide +kernel), List.mem_of_getElem? (i := 1043) (by decide +kernel), List.mem_of_getElem? (i := 1044) (by decide +kernel)⟩
theorem lw_p97 : lw_okq (⟨"MaskBench$Camera", "figureOfGreatest", "([II)I"⟩, 19) := ⟨⟨by decide +kernel, by decide +kernel⟩, List.mem_of_getElem? (i := 313) (by decide +kernel), List.mem_of_getElem? (i := 1047) (by decide +kernel), List.mem_of_getElem? (i := 1048) (by decide +kernel)⟩
theorem lw_p98 : lw_okq (⟨"MaskBench$Plate", "xOrY", "(II)I"⟩, 12) := ⟨⟨by decide +kernel, by decide +kernel⟩, List.mem_of_getElem? (i := 228) (by decide +kernel), List.mem_of_getElem? (i := 1051) (by decide +kernel), List.mem_of_getElem? (i := 1052) (by decide +kernel)⟩
theorem lw_p99 : lw_okq (⟨"MaskBench$Camera", "seekSources", "()V"⟩, 19) := ⟨⟨by decide +kernel, by decide +kernel⟩, List.mem_of_getElem? (i := 313) (by decide +kernel), List.mem_of_getElem? (i := 1059) (by decide +kernel), List.mem_of_getElem? (i := 1060) (by decide +kernel)⟩
theorem lw_p100 : lw_okq (⟨"MaskBench$Camera", "takeFromMade", "(II)I"⟩, 19) := ⟨⟨by decide +kernel, by decide +kernel⟩, List.mem_of_getElem? (i := 313) (by decide +kernel), List.mem_of_getElem? (i := 1066) (by decide +kernel), List.mem_of_getElem? (i := 1067) (by decide +kernel)⟩
theorem lw_p101 : lw_okq (⟨"MaskBench$Camera", "throwsOn", "(II)I"⟩, 19) := ⟨⟨by decide +kernel, by decide +kernel⟩, List.mem_of_getElem? (i := 313) (by decide +kernel), List.mem_of_getElem? (i := 1071) (by decide +kernel), List.mem_of_getElem? (i := 1072) (by decide +kernel)⟩
theorem lw_p102 : lw_okq (⟨"MaskBench$Camera", "frameAt", "(III)I"⟩, 19) := ⟨⟨by decide +kernel, by decide +kernel⟩, List.mem_of_getElem? (i := 313) (by decide +kernel), List.mem_of_getElem? (i := 1082) (by decide +kernel), List.mem_of_getElem? (i := 1083) (by decide +kernel)⟩
theorem lw_p103 : lw_okq (⟨"MaskBench$Camera", "clearLost", "([I)V"⟩, 19) := ⟨⟨by decide +kernel, by decide +kernel⟩, List.mem_of_getElem? (i := 313) (by decide +kernel), List.mem_of_getElem? (i := 1086) (by decide +kernel), List.mem_of_getElem? (i := 1087) (by decide +kernel)⟩
theorem lw_p104 : lw_okq (⟨"MaskBench$Plate", "weighed", "([III)I"⟩, 12) := ⟨⟨by decide +kernel, by decide +kernel⟩, List.mem_of_getElem? (i := 228) (by decide +kernel), List.mem_of_getElem? (i := 1090) (by decide +kernel), List.mem_of_getElem? (i := 1091) (by decide +kernel)⟩
theorem lw_p105 : lw_okq (⟨"MaskBench$Camera", "fillLost", "()V"⟩, 19) := ⟨⟨by decide +kernel, by decide +kernel⟩, List.mem_of_getElem? (i := 313) (by decide +kernel), List.mem_of_getElem? (i := 1098) (by decide +kernel), List.mem_of_getElem? (i := 1099) (by decide +kernel)⟩
theorem lw_p106 : lw_okq (⟨"MaskBench$Camera", "thrownByFound", "(I)I"⟩, 19) := ⟨⟨by decide +kernel, by decide +kernel⟩, List.mem_of_getElem? (i := 313) (by decide +kernel), List.mem_of_getElem? (i := 1103) (by decide +kernel), List.mem_of_getElem? (i := 1104) (by decide +kernel)⟩
theorem lw_p107 : lw_okq (⟨"MaskBench$Camera", "errorFilled", "()I"⟩, 19) := ⟨⟨by decide +kernel, by decide +kernel⟩, List.mem_of_getElem? (i := 313) (by decide +kernel), List.mem_of_getElem? (i := 1107) (by decide +kernel), List.mem_of_getElem? (i := 1108) (by decide +kernel)⟩
theorem lw_p108 : lw_okq (⟨"MaskBench$Camera", "farthestFilled", "()I"⟩, 19) := ⟨⟨by decide +kernel, by decide +kernel⟩, List.mem_of_getElem? (i := 313) (by decide +kernel), List.mem_of_getElem? (i := 1111) (by decide +kernel), List.mem_of_getElem? (i := 1112) (by decide +kernel)⟩
theorem lw_p109 : lw_okq (⟨"MaskBench$Camera", "antiAt", "(II)I"⟩, 19) := ⟨⟨by decide +kernel, by decide +kernel⟩, List.mem_of_getElem? (i := 313) (by decide +kernel), List.mem_of_getElem? (i := 1124) (by decide +kernel), List.mem_of_getElem? (i := 1125) (by decide +kernel)⟩
theorem lw_p110 : lw_okq (⟨"MaskBench$Picture", "take", "(LMaskBench$Camera;)V"⟩, 5) := ⟨⟨by decide +kernel, by decide +kernel⟩, List.mem_of_getElem? (i := 192) (by decide +kernel), List.mem_of_getElem? (i := 1132) (by decide +kernel), List.mem_of_getElem? (i := 1133) (by decide +kernel)⟩
theorem lw_p111 : lw_okq (⟨"MaskBench$Picture", "fits", "(LMaskBench$Plate;)Z"⟩, 5) := ⟨⟨by decide +kernel, by decide +kernel⟩, List.mem_of_getElem? (i := 192) (by decide +kernel), List.mem_of_getElem? (i := 1141) (by decide +kernel), List.mem_of_getElem? (i := 1142) (by decide +kernel)⟩
def lw_privs_7 : List (MethodName × Nat) := [(⟨"MaskBench$Camera", "placeOfGreatest", "([I)I"⟩, 19), (⟨"MaskBench$Camera", "figureOfGreatest", "([II)I"⟩, 19), (⟨"MaskBench$Plate", "xOrY", "(II)I"⟩, 12), (⟨"MaskBench$Camera", "seekSources", "()V"⟩, 19), (⟨"MaskBench$Camera", "takeFromMade", "(II)I"⟩, 19), (⟨"MaskBench$Camera", "throwsOn", "(II)I"⟩, 19), (⟨"MaskBench$Camera", "frameAt", "(III)I"⟩, 19), (⟨"MaskBench$Camera", "clearLost", "([I)V"⟩, 19), (⟨"MaskBench$Plate", "weighed", "([III)I"⟩, 12), (⟨"MaskBench$Camera", "fillLost", "()V"⟩, 19), (⟨"MaskBench$Camera", "thrownByFound", "(I)I"⟩, 19), (⟨"MaskBench$Camera", "errorFilled", "()I"⟩, 19), (⟨"MaskBench$Camera", "farthestFilled", "()I"⟩, 19), (⟨"MaskBench$Camera", "antiAt", "(II)I"⟩, 19), (⟨"MaskBench$Picture", "take", "(LMaskBench$Camera;)V"⟩, 5), (⟨"MaskBench$Picture", "fits", "(LMaskBench$Plate;)Z"⟩, 5)]
theorem lw_r7 : ∀ q ∈ lw_privs_7, lw_okq q := List.forall_mem_cons.mpr ⟨lw_p96, List.forall_mem_cons.mpr ⟨lw_p97, List.forall_mem_cons.mpr ⟨lw_p98, List.forall_mem_cons.mpr ⟨lw_p99, List.forall_mem_cons.mpr ⟨lw_p100, List.forall_mem_cons.mpr ⟨lw_p101, List.forall_mem_cons.mpr ⟨lw_p102, List.forall_mem_cons.mpr ⟨lw_p103, List.forall_mem_cons.mpr ⟨lw_p104, List.forall_mem_cons.mpr ⟨lw_p105, List.forall_mem_cons.mpr ⟨lw_p106, List.forall_mem_cons.mpr ⟨lw_p107, List.forall_mem_cons.mpr ⟨lw_p108, List.forall_mem_cons.mpr ⟨lw_p109, List.forall_mem_cons.mpr ⟨lw_p110, List.forall_mem_cons.mpr ⟨lw_p111, fun _ h => absurd h List.not_mem_nil⟩⟩⟩⟩⟩⟩⟩⟩⟩⟩⟩⟩⟩⟩⟩⟩
theorem lw_p112 : lw_okq (⟨"MaskBench$Picture", "lay", "(LMaskBench$Camera;)V"⟩, 5) := ⟨⟨by decide +kernel, by decide +kernel⟩, List.mem_of_getElem? (i := 192) (by decide +kernel), List.mem_of_getElem? (i := 1145) (by decide +kernel), List.mem_of_getElem? (i := 1146) (by decide +kernel)⟩
theorem lw_p113 : lw_okq (⟨"MaskBench$Picture", "sumAt", "(LMaskBench$Camera;II)J"⟩, 5) := ⟨⟨by decide +kernel, by decide +kernel⟩, List.mem_of_getElem? (i := 192) (by decide +kernel), List.mem_of_getElem? (i := 1149) (by decide +kernel), List.mem_of_getElem? (i := 1150) (by decide +kernel)⟩
theorem lw_p114 : lw_okq (⟨"MaskBench$Camera", "shoot", "(III)I"⟩, 19) := ⟨⟨by decide +kernel, by decide +kernel⟩, List.mem_of_getElem? (i := 313) (by decide +kernel), List.mem_of_getElem? (i := 1165) (by decide +kernel), List.mem_of_getElem? (i := 1166) (by decide +kernel)⟩
theorem lw_p115 : lw_okq (⟨"MaskBench$Camera", "placeOfNumber", "(I)I"⟩, 19) := ⟨⟨by decide +kernel, by decide +kernel⟩, List.mem_of_getElem? (i := 313) (by decide +kernel), List.mem_of_getElem? (i := 1171) (by decide +kernel), List.mem_of_getElem? (i := 1172) (by decide +kernel)⟩
theorem lw_p116 : lw_okq (⟨"MaskBench$Camera", "figureOfShots", "(I)I"⟩, 19) := ⟨⟨by decide +kernel, by decide +kernel⟩, List.mem_of_getElem? (i := 313) (by decide +kernel), List.mem_of_getElem? (i := 1175) (by decide +kernel), List.mem_of_getElem? (i := 1176) (by decide +kernel)⟩
theorem lw_p117 : lw_okq (⟨"MaskBench$Camera", "seekWorst", "()V"⟩, 19) := ⟨⟨by decide +kernel, by decide +kernel⟩, List.mem_of_getElem? (i := 313) (by decide +kernel), List.mem_of_getElem? (i := 1188) (by decide +kernel), List.mem_of_getElem? (i := 1189) (by decide +kernel)⟩
theorem lw_p118 : lw_okq (⟨"MaskBench$Paper", "putAll", "(LMaskBench$Paper;)V"⟩, 2) := ⟨⟨by decide +kernel, by decide +kernel⟩, List.mem_of_getElem? (i := 29) (by decide +kernel), List.mem_of_getElem? (i := 1196) (by decide +kernel), List.mem_of_getElem? (i := 1197) (by decide +kernel)⟩
theorem lw_p119 : lw_okq (⟨"MaskBench", "printMarks", "(Ljava/lang/String;LMaskBench$Marks;Z)V"⟩, 13) := ⟨⟨by decide +kernel, by decide +kernel⟩, List.mem_of_getElem? (i := 21) (by decide +kernel), List.mem_of_getElem? (i := 1201) (by decide +kernel), List.mem_of_getElem? (i := 1202) (by decide +kernel)⟩
theorem lw_p120 : lw_okq (⟨"MaskBench$Paper", "putWord", "(Ljava/lang/String;)V"⟩, 2) := ⟨⟨by decide +kernel, by decide +kernel⟩, List.mem_of_getElem? (i := 29) (by decide +kernel), List.mem_of_getElem? (i := 1205) (by decide +kernel), List.mem_of_getElem? (i := 1206) (by decide +kernel)⟩
theorem lw_p121 : lw_okq (⟨"MaskBench$Paper", "putNumber", "(I)V"⟩, 2) := ⟨⟨by decide +kernel, by decide +kernel⟩, List.mem_of_getElem? (i := 29) (by decide +kernel), List.mem_of_getElem? (i := 1212) (by decide +kernel), List.mem_of_getElem? (i := 1213) (by decide +kernel)⟩
theorem lw_p122 : lw_okq (⟨"MaskBench$Paper", "putName", "(I)V"⟩, 2) := ⟨⟨by decide +kernel, by decide +kernel⟩, List.mem_of_getElem? (i := 29) (by decide +kernel), List.mem_of_getElem? (i := 1221) (by decide +kernel), List.mem_of_getElem? (i := 1222) (by decide +kernel)⟩
theorem lw_p123 : lw_okq (⟨"MaskBenchModel", "is", "(I)Z"⟩, 58) := ⟨⟨by decide +kernel, by decide +kernel⟩, List.mem_of_getElem? (i := 1229) (by decide +kernel), List.mem_of_getElem? (i := 1437) (by decide +kernel), List.mem_of_getElem? (i := 1438) (by decide +kernel)⟩
theorem lw_p124 : lw_okq (⟨"MaskBenchModel", "isPlate", "(I)Z"⟩, 58) := ⟨⟨by decide +kernel, by decide +kernel⟩, List.mem_of_getElem? (i := 1229) (by decide +kernel), List.mem_of_getElem? (i := 1446) (by decide +kernel), List.mem_of_getElem? (i := 1447) (by decide +kernel)⟩
theorem lw_p125 : lw_okq (⟨"MaskBenchModel", "cellsOf", "(I)I"⟩, 58) := ⟨⟨by decide +kernel, by decide +kernel⟩, List.mem_of_getElem? (i := 1229) (by decide +kernel), List.mem_of_getElem? (i := 1450) (by decide +kernel), List.mem_of_getElem? (i := 1451) (by decide +kernel)⟩
theorem lw_p126 : lw_okq (⟨"MaskBenchModel", "wideOf", "(I)I"⟩, 58) := ⟨⟨by decide +kernel, by decide +kernel⟩, List.mem_of_getElem? (i := 1229) (by decide +kernel), List.mem_of_getElem? (i := 1454) (by decide +kernel), List.mem_of_getElem? (i := 1455) (by decide +kernel)⟩
theorem lw_p127 : lw_okq (⟨"MaskBenchModel", "highOf", "(I)I"⟩, 58) := ⟨⟨by decide +kernel, by decide +kernel⟩, List.mem_of_getElem? (i := 1229) (by decide +kernel), List.mem_of_getElem? (i := 1458) (by decide +kernel), List.mem_of_getElem? (i := 1459) (by decide +kernel)⟩
def lw_privs_8 : List (MethodName × Nat) := [(⟨"MaskBench$Picture", "lay", "(LMaskBench$Camera;)V"⟩, 5), (⟨"MaskBench$Picture", "sumAt", "(LMaskBench$Camera;II)J"⟩, 5), (⟨"MaskBench$Camera", "shoot", "(III)I"⟩, 19), (⟨"MaskBench$Camera", "placeOfNumber", "(I)I"⟩, 19), (⟨"MaskBench$Camera", "figureOfShots", "(I)I"⟩, 19), (⟨"MaskBench$Camera", "seekWorst", "()V"⟩, 19), (⟨"MaskBench$Paper", "putAll", "(LMaskBench$Paper;)V"⟩, 2), (⟨"MaskBench", "printMarks", "(Ljava/lang/String;LMaskBench$Marks;Z)V"⟩, 13), (⟨"MaskBench$Paper", "putWord", "(Ljava/lang/String;)V"⟩, 2), (⟨"MaskBench$Paper", "putNumber", "(I)V"⟩, 2), (⟨"MaskBench$Paper", "putName", "(I)V"⟩, 2), (⟨"MaskBenchModel", "is", "(I)Z"⟩, 58), (⟨"MaskBenchModel", "isPlate", "(I)Z"⟩, 58), (⟨"MaskBenchModel", "cellsOf", "(I)I"⟩, 58), (⟨"MaskBenchModel", "wideOf", "(I)I"⟩, 58), (⟨"MaskBenchModel", "highOf", "(I)I"⟩, 58)]
theorem lw_r8 : ∀ q ∈ lw_privs_8, lw_okq q := List.forall_mem_cons.mpr ⟨lw_p112, List.forall_mem_cons.mpr ⟨lw_p113, List.forall_mem_cons.mpr ⟨lw_p114, List.forall_mem_cons.mpr ⟨lw_p115, List.forall_mem_cons.mpr ⟨lw_p116, List.forall_mem_cons.mpr ⟨lw_p117, List.forall_mem_cons.mpr ⟨lw_p118, List.forall_mem_cons.mpr ⟨lw_p119, List.forall_mem_cons.mpr ⟨lw_p120, List.forall_mem_cons.mpr ⟨lw_p121, List.forall_mem_cons.mpr ⟨lw_p122, List.forall_mem_cons.mpr ⟨lw_p123, List.forall_mem_cons.mpr ⟨lw_p124, List.forall_mem_cons.mpr ⟨lw_p125, List.forall_mem_cons.mpr ⟨lw_p126, List.forall_mem_cons.mpr ⟨lw_p127, fun _ h => absurd h List.not_mem_nil⟩⟩⟩⟩⟩⟩⟩⟩⟩⟩⟩⟩⟩⟩⟩⟩
theorem lw_p128 : lw_okq (⟨"MaskBenchModel", "laysSides", "(I)V"⟩, 58) := ⟨⟨by decide +kernel, by decide +kernel⟩, List.mem_of_getElem? (i := 1229) (by decide +kernel), List.mem_of_getElem? (i := 1462) (by decide +kernel), List.mem_of_getElem? (i := 1463) (by decide +kernel)⟩
theorem lw_p129 : lw_okq (⟨"MaskBenchModel", "sideOf", "(III)I"⟩, 58) := ⟨⟨by decide +kernel, by decide +kernel⟩, List.mem_of_getElem? (i := 1229) (by decide +kernel), List.mem_of_getElem? (i := 1466) (by decide +kernel), List.mem_of_getElem? (i := 1467) (by decide +kernel)⟩
theorem lw_p130 : lw_okq (⟨"MaskBenchModel", "isHole", "(III)Z"⟩, 58) := ⟨⟨by decide +kernel, by decide +kernel⟩, List.mem_of_getElem? (i := 1229) (by decide +kernel), List.mem_of_getElem? (i := 1470) (by decide +kernel), List.mem_of_getElem? (i := 1471) (by decide +kernel)⟩
theorem lw_p131 : lw_okq (⟨"MaskBenchModel", "indexOf", "(III)I"⟩, 58) := ⟨⟨by decide +kernel, by decide +kernel⟩, List.mem_of_getElem? (i := 1229) (by decide +kernel), List.mem_of_getElem? (i := 1474) (by decide +kernel), List.mem_of_getElem? (i := 1475) (by decide +kernel)⟩
theorem lw_p132 : lw_okq (⟨"MaskBenchModel", "weightOf", "(III)I"⟩, 58) := ⟨⟨by decide +kernel, by decide +kernel⟩, List.mem_of_getElem? (i := 1229) (by decide +kernel), List.mem_of_getElem? (i := 1481) (by decide +kernel), List.mem_of_getElem? (i := 1482) (by decide +kernel)⟩
theorem lw_p133 : lw_okq (⟨"MaskBenchModel", "holesOf", "(I)I"⟩, 58) := ⟨⟨by decide +kernel, by decide +kernel⟩, List.mem_of_getElem? (i := 1229) (by decide +kernel), List.mem_of_getElem? (i := 1485) (by decide +kernel), List.mem_of_getElem? (i := 1486) (by decide +kernel)⟩
theorem lw_p134 : lw_okq (⟨"MaskBenchModel", "weightsOf", "(I)I"⟩, 58) := ⟨⟨by decide +kernel, by decide +kernel⟩, List.mem_of_getElem? (i := 1229) (by decide +kernel), List.mem_of_getElem? (i := 1489) (by decide +kernel), List.mem_of_getElem? (i := 1490) (by decide +kernel)⟩
theorem lw_p135 : lw_okq (⟨"MaskBenchModel", "isFlat", "(I)Z"⟩, 58) := ⟨⟨by decide +kernel, by decide +kernel⟩, List.mem_of_getElem? (i := 1229) (by decide +kernel), List.mem_of_getElem? (i := 1493) (by decide +kernel), List.mem_of_getElem? (i := 1494) (by decide +kernel)⟩
theorem lw_p136 : lw_okq (⟨"MaskBenchModel", "isOn", "(III)Z"⟩, 58) := ⟨⟨by decide +kernel, by decide +kernel⟩, List.mem_of_getElem? (i := 1229) (by decide +kernel), List.mem_of_getElem? (i := 1502) (by decide +kernel), List.mem_of_getElem? (i := 1503) (by decide +kernel)⟩
theorem lw_p137 : lw_okq (⟨"MaskBenchModel", "areAlike", "(IIII)Z"⟩, 58) := ⟨⟨by decide +kernel, by decide +kernel⟩, List.mem_of_getElem? (i := 1229) (by decide +kernel), List.mem_of_getElem? (i := 1510) (by decide +kernel), List.mem_of_getElem? (i := 1511) (by decide +kernel)⟩
theorem lw_p138 : lw_okq (⟨"MaskBenchModel", "differencesAt", "(III)I"⟩, 58) := ⟨⟨by decide +kernel, by decide +kernel⟩, List.mem_of_getElem? (i := 1229) (by decide +kernel), List.mem_of_getElem? (i := 1530) (by decide +kernel), List.mem_of_getElem? (i := 1531) (by decide +kernel)⟩
theorem lw_p139 : lw_okq (⟨"MaskBenchModel", "isThing", "(II)Z"⟩, 58) := ⟨⟨by decide +kernel, by decide +kernel⟩, List.mem_of_getElem? (i := 1229) (by decide +kernel), List.mem_of_getElem? (i := 1543) (by decide +kernel), List.mem_of_getElem? (i := 1544) (by decide +kernel)⟩
theorem lw_p140 : lw_okq (⟨"MaskBenchModel", "comes", "(IIII)I"⟩, 58) := ⟨⟨by decide +kernel, by decide +kernel⟩, List.mem_of_getElem? (i := 1229) (by decide +kernel), List.mem_of_getElem? (i := 1558) (by decide +kernel), List.mem_of_getElem? (i := 1559) (by decide +kernel)⟩
theorem lw_p141 : lw_okq (⟨"MaskBenchModel", "remembers", "()V"⟩, 58) := ⟨⟨by decide +kernel, by decide +kernel⟩, List.mem_of_getElem? (i := 1229) (by decide +kernel), List.mem_of_getElem? (i := 1562) (by decide +kernel), List.mem_of_getElem? (i := 1563) (by decide +kernel)⟩
theorem lw_p142 : lw_okq (⟨"MaskBenchModel", "goes", "(II)I"⟩, 58) := ⟨⟨by decide +kernel, by decide +kernel⟩, List.mem_of_getElem? (i := 1229) (by decide +kernel), List.mem_of_getElem? (i := 1570) (by decide +kernel), List.mem_of_getElem? (i := 1571) (by decide +kernel)⟩
theorem lw_p143 : lw_okq (⟨"MaskBenchModel", "changes", "(II)I"⟩, 58) := ⟨⟨by decide +kernel, by decide +kernel⟩, List.mem_of_getElem? (i := 1229) (by decide +kernel), List.mem_of_getElem? (i := 1586) (by decide +kernel), List.mem_of_getElem? (i := 1587) (by decide +kernel)⟩
def lw_privs_9 : List (MethodName × Nat) := [(⟨"MaskBenchModel", "laysSides", "(I)V"⟩, 58), (⟨"MaskBenchModel", "sideOf", "(III)I"⟩, 58), (⟨"MaskBenchModel", "isHole", "(III)Z"⟩, 58), (⟨"MaskBenchModel", "indexOf", "(III)I"⟩, 58), (⟨"MaskBenchModel", "weightOf", "(III)I"⟩, 58), (⟨"MaskBenchModel", "holesOf", "(I)I"⟩, 58), (⟨"MaskBenchModel", "weightsOf", "(I)I"⟩, 58), (⟨"MaskBenchModel", "isFlat", "(I)Z"⟩, 58), (⟨"MaskBenchModel", "isOn", "(III)Z"⟩, 58), (⟨"MaskBenchModel", "areAlike", "(IIII)Z"⟩, 58), (⟨"MaskBenchModel", "differencesAt", "(III)I"⟩, 58), (⟨"MaskBenchModel", "isThing", "(II)Z"⟩, 58), (⟨"MaskBenchModel", "comes", "(IIII)I"⟩, 58), (⟨"MaskBenchModel", "remembers", "()V"⟩, 58), (⟨"MaskBenchModel", "goes", "(II)I"⟩, 58), (⟨"MaskBenchModel", "changes", "(II)I"⟩, 58)]
theorem lw_r9 : ∀ q ∈ lw_privs_9, lw_okq q := List.forall_mem_cons.mpr ⟨lw_p128, List.forall_mem_cons.mpr ⟨lw_p129, List.forall_mem_cons.mpr ⟨lw_p130, List.forall_mem_cons.mpr ⟨lw_p131, List.forall_mem_cons.mpr ⟨lw_p132, List.forall_mem_cons.mpr ⟨lw_p133, List.forall_mem_cons.mpr ⟨lw_p134, List.forall_mem_cons.mpr ⟨lw_p135, List.forall_mem_cons.mpr ⟨lw_p136, List.forall_mem_cons.mpr ⟨lw_p137, List.forall_mem_cons.mpr ⟨lw_p138, List.forall_mem_cons.mpr ⟨lw_p139, List.forall_mem_cons.mpr ⟨lw_p140, List.forall_mem_cons.mpr ⟨lw_p141, List.forall_mem_cons.mpr ⟨lw_p142, List.forall_mem_cons.mpr ⟨lw_p143, fun _ h => absurd h List.not_mem_nil⟩⟩⟩⟩⟩⟩⟩⟩⟩⟩⟩⟩⟩⟩⟩⟩
theorem lw_p144 : lw_okq (⟨"MaskBenchModel", "whyAt", "(ZII)I"⟩, 58) := ⟨⟨by decide +kernel, by decide +kernel⟩, List.mem_of_getElem? (i := 1229) (by decide +kernel), List.mem_of_getElem? (i := 1607) (by decide +kernel), List.mem_of_getElem? (i := 1608) (by decide +kernel)⟩
theorem lw_p145 : lw_okq (⟨"MaskBenchModel", "canRestore", "(I)Z"⟩, 58) := ⟨⟨by decide +kernel, by decide +kernel⟩, List.mem_of_getElem? (i := 1229) (by decide +kernel), List.mem_of_getElem? (i := 1611) (by decide +kernel), List.mem_of_getElem? (i := 1612) (by decide +kernel)⟩
theorem lw_p146 : lw_okq (⟨"MaskBenchModel", "uses", "(I)V"⟩, 58) := ⟨⟨by decide +kernel, by decide +kernel⟩, List.mem_of_getElem? (i := 1229) (by decide +kernel), List.mem_of_getElem? (i := 1615) (by decide +kernel), List.mem_of_getElem? (i := 1616) (by decide +kernel)⟩
theorem lw_p147 : lw_okq (⟨"MaskBenchModel", "laysShadows", "()V"⟩, 58) := ⟨⟨by decide +kernel, by decide +kernel⟩, List.mem_of_getElem? (i := 1229) (by decide +kernel), List.mem_of_getElem? (i := 1619) (by decide +kernel), List.mem_of_getElem? (i := 1620) (by decide +kernel)⟩
theorem lw_p148 : lw_okq (⟨"MaskBenchModel", "laysLost", "()V"⟩, 58) := ⟨⟨by decide +kernel, by decide +kernel⟩, List.mem_of_getElem? (i := 1229) (by decide +kernel), List.mem_of_getElem? (i := 1623) (by decide +kernel), List.mem_of_getElem? (i := 1624) (by decide +kernel)⟩
theorem lw_p149 : lw_okq (⟨"MaskBenchModel", "cellAt", "(II)I"⟩, 58) := ⟨⟨by decide +kernel, by decide +kernel⟩, List.mem_of_getElem? (i := 1229) (by decide +kernel), List.mem_of_getElem? (i := 1627) (by decide +kernel), List.mem_of_getElem? (i := 1628) (by decide +kernel)⟩
theorem lw_p150 : lw_okq (⟨"MaskBenchModel", "high", "()I"⟩, 58) := ⟨⟨by decide +kernel, by decide +kernel⟩, List.mem_of_getElem? (i := 1229) (by decide +kernel), List.mem_of_getElem? (i := 1631) (by decide +kernel), List.mem_of_getElem? (i := 1632) (by decide +kernel)⟩
theorem lw_p151 : lw_okq (⟨"MaskBenchModel", "wide", "()I"⟩, 58) := ⟨⟨by decide +kernel, by decide +kernel⟩, List.mem_of_getElem? (i := 1229) (by decide +kernel), List.mem_of_getElem? (i := 1635) (by decide +kernel), List.mem_of_getElem? (i := 1636) (by decide +kernel)⟩
theorem lw_p152 : lw_okq (⟨"MaskBenchModel", "wholeAt", "(II)I"⟩, 58) := ⟨⟨by decide +kernel, by decide +kernel⟩, List.mem_of_getElem? (i := 1229) (by decide +kernel), List.mem_of_getElem? (i := 1639) (by decide +kernel), List.mem_of_getElem? (i := 1640) (by decide +kernel)⟩
theorem lw_p153 : lw_okq (⟨"MaskBenchModel", "letsThrough", "(II)Z"⟩, 58) := ⟨⟨by decide +kernel, by decide +kernel⟩, List.mem_of_getElem? (i := 1229) (by decide +kernel), List.mem_of_getElem? (i := 1643) (by decide +kernel), List.mem_of_getElem? (i := 1644) (by decide +kernel)⟩
theorem lw_p154 : lw_okq (⟨"MaskBenchModel", "cells0", "()I"⟩, 58) := ⟨⟨by decide +kernel, by decide +kernel⟩, List.mem_of_getElem? (i := 1229) (by decide +kernel), List.mem_of_getElem? (i := 1647) (by decide +kernel), List.mem_of_getElem? (i := 1648) (by decide +kernel)⟩
theorem lw_p155 : lw_okq (⟨"MaskBenchModel", "decodedAt", "([III)I"⟩, 58) := ⟨⟨by decide +kernel, by decide +kernel⟩, List.mem_of_getElem? (i := 1229) (by decide +kernel), List.mem_of_getElem? (i := 1651) (by decide +kernel), List.mem_of_getElem? (i := 1652) (by decide +kernel)⟩
theorem lw_p156 : lw_okq (⟨"MaskBenchModel", "restoredFrom", "(I)I"⟩, 58) := ⟨⟨by decide +kernel, by decide +kernel⟩, List.mem_of_getElem? (i := 1229) (by decide +kernel), List.mem_of_getElem? (i := 1655) (by decide +kernel), List.mem_of_getElem? (i := 1656) (by decide +kernel)⟩
theorem lw_p157 : lw_okq (⟨"MaskBenchModel", "light", "()I"⟩, 58) := ⟨⟨by decide +kernel, by decide +kernel⟩, List.mem_of_getElem? (i := 1229) (by decide +kernel), List.mem_of_getElem? (i := 1659) (by decide +kernel), List.mem_of_getElem? (i := 1660) (by decide +kernel)⟩
theorem lw_p158 : lw_okq (⟨"MaskBenchModel", "lostCells", "()I"⟩, 58) := ⟨⟨by decide +kernel, by decide +kernel⟩, List.mem_of_getElem? (i := 1229) (by decide +kernel), List.mem_of_getElem? (i := 1663) (by decide +kernel), List.mem_of_getElem? (i := 1664) (by decide +kernel)⟩
theorem lw_p159 : lw_okq (⟨"MaskBenchModel", "trueAt", "(II)I"⟩, 58) := ⟨⟨by decide +kernel, by decide +kernel⟩, List.mem_of_getElem? (i := 1229) (by decide +kernel), List.mem_of_getElem? (i := 1670) (by decide +kernel), List.mem_of_getElem? (i := 1671) (by decide +kernel)⟩
def lw_privs_10 : List (MethodName × Nat) := [(⟨"MaskBenchModel", "whyAt", "(ZII)I"⟩, 58), (⟨"MaskBenchModel", "canRestore", "(I)Z"⟩, 58), (⟨"MaskBenchModel", "uses", "(I)V"⟩, 58), (⟨"MaskBenchModel", "laysShadows", "()V"⟩, 58), (⟨"MaskBenchModel", "laysLost", "()V"⟩, 58), (⟨"MaskBenchModel", "cellAt", "(II)I"⟩, 58), (⟨"MaskBenchModel", "high", "()I"⟩, 58), (⟨"MaskBenchModel", "wide", "()I"⟩, 58), (⟨"MaskBenchModel", "wholeAt", "(II)I"⟩, 58), (⟨"MaskBenchModel", "letsThrough", "(II)Z"⟩, 58), (⟨"MaskBenchModel", "cells0", "()I"⟩, 58), (⟨"MaskBenchModel", "decodedAt", "([III)I"⟩, 58), (⟨"MaskBenchModel", "restoredFrom", "(I)I"⟩, 58), (⟨"MaskBenchModel", "light", "()I"⟩, 58), (⟨"MaskBenchModel", "lostCells", "()I"⟩, 58), (⟨"MaskBenchModel", "trueAt", "(II)I"⟩, 58)]
theorem lw_r10 : ∀ q ∈ lw_privs_10, lw_okq q := List.forall_mem_cons.mpr ⟨lw_p144, List.forall_mem_cons.mpr ⟨lw_p145, List.forall_mem_cons.mpr ⟨lw_p146, List.forall_mem_cons.mpr ⟨lw_p147, List.forall_mem_cons.mpr ⟨lw_p148, List.forall_mem_cons.mpr ⟨lw_p149, List.forall_mem_cons.mpr ⟨lw_p150, List.forall_mem_cons.mpr ⟨lw_p151, List.forall_mem_cons.mpr ⟨lw_p152, List.forall_mem_cons.mpr ⟨lw_p153, List.forall_mem_cons.mpr ⟨lw_p154, List.forall_mem_cons.mpr ⟨lw_p155, List.forall_mem_cons.mpr ⟨lw_p156, List.forall_mem_cons.mpr ⟨lw_p157, List.forall_mem_cons.mpr ⟨lw_p158, List.forall_mem_cons.mpr ⟨lw_p159, fun _ h => absurd h List.not_mem_nil⟩⟩⟩⟩⟩⟩⟩⟩⟩⟩⟩⟩⟩⟩⟩⟩
theorem lw_p160 : lw_okq (⟨"MaskBenchModel", "whyAll", "(I)I"⟩, 58) := ⟨⟨by decide +kernel, by decide +kernel⟩, List.mem_of_getElem? (i := 1229) (by decide +kernel), List.mem_of_getElem? (i := 1678) (by decide +kernel), List.mem_of_getElem? (i := 1679) (by decide +kernel)⟩
theorem lw_p161 : lw_okq (⟨"MaskBenchModel", "sumOf", "([IZ)I"⟩, 58) := ⟨⟨by decide +kernel, by decide +kernel⟩, List.mem_of_getElem? (i := 1229) (by decide +kernel), List.mem_of_getElem? (i := 1682) (by decide +kernel), List.mem_of_getElem? (i := 1683) (by decide +kernel)⟩
theorem lw_p162 : lw_okq (⟨"MaskBenchModel", "errorNow", "()I"⟩, 58) := ⟨⟨by decide +kernel, by decide +kernel⟩, List.mem_of_getElem? (i := 1229) (by decide +kernel), List.mem_of_getElem? (i := 1686) (by decide +kernel), List.mem_of_getElem? (i := 1687) (by decide +kernel)⟩
theorem lw_p163 : lw_okq (⟨"MaskBenchModel", "decodes", "([I)V"⟩, 58) := ⟨⟨by decide +kernel, by decide +kernel⟩, List.mem_of_getElem? (i := 1229) (by decide +kernel), List.mem_of_getElem? (i := 1690) (by decide +kernel), List.mem_of_getElem? (i := 1691) (by decide +kernel)⟩
theorem lw_p164 : lw_okq (⟨"MaskBenchModel", "moved", "(Z)I"⟩, 58) := ⟨⟨by decide +kernel, by decide +kernel⟩, List.mem_of_getElem? (i := 1229) (by decide +kernel), List.mem_of_getElem? (i := 1694) (by decide +kernel), List.mem_of_getElem? (i := 1695) (by decide +kernel)⟩
theorem lw_p165 : lw_okq (⟨"MaskBenchModel", "laysMost", "()I"⟩, 58) := ⟨⟨by decide +kernel, by decide +kernel⟩, List.mem_of_getElem? (i := 1229) (by decide +kernel), List.mem_of_getElem? (i := 1702) (by decide +kernel), List.mem_of_getElem? (i := 1703) (by decide +kernel)⟩
theorem lw_p166 : lw_okq (⟨"MaskBenchModel", "finds", "()V"⟩, 58) := ⟨⟨by decide +kernel, by decide +kernel⟩, List.mem_of_getElem? (i := 1229) (by decide +kernel), List.mem_of_getElem? (i := 1710) (by decide +kernel), List.mem_of_getElem? (i := 1711) (by decide +kernel)⟩
theorem lw_p167 : lw_okq (⟨"MaskBenchModel", "refuse", "(I)I"⟩, 58) := ⟨⟨by decide +kernel, by decide +kernel⟩, List.mem_of_getElem? (i := 1229) (by decide +kernel), List.mem_of_getElem? (i := 1714) (by decide +kernel), List.mem_of_getElem? (i := 1715) (by decide +kernel)⟩
theorem lw_p168 : lw_okq (⟨"MaskBenchModel", "fills", "()I"⟩, 58) := ⟨⟨by decide +kernel, by decide +kernel⟩, List.mem_of_getElem? (i := 1229) (by decide +kernel), List.mem_of_getElem? (i := 1722) (by decide +kernel), List.mem_of_getElem? (i := 1723) (by decide +kernel)⟩
theorem lw_p169 : lw_okq (⟨"MaskBenchModel", "fitsPicture", "()Z"⟩, 58) := ⟨⟨by decide +kernel, by decide +kernel⟩, List.mem_of_getElem? (i := 1229) (by decide +kernel), List.mem_of_getElem? (i := 1747) (by decide +kernel), List.mem_of_getElem? (i := 1748) (by decide +kernel)⟩
theorem lw_p170 : lw_okq (⟨"MaskBenchModel", "matchAt", "(II)J"⟩, 58) := ⟨⟨by decide +kernel, by decide +kernel⟩, List.mem_of_getElem? (i := 1229) (by decide +kernel), List.mem_of_getElem? (i := 1752) (by decide +kernel), List.mem_of_getElem? (i := 1753) (by decide +kernel)⟩
theorem lw_p171 : lw_okq (⟨"MaskBenchModel", "cellOf", "(J)I"⟩, 58) := ⟨⟨by decide +kernel, by decide +kernel⟩, List.mem_of_getElem? (i := 1229) (by decide +kernel), List.mem_of_getElem? (i := 1768) (by decide +kernel), List.mem_of_getElem? (i := 1769) (by decide +kernel)⟩
theorem lw_p172 : lw_okq (⟨"MaskBenchModel", "feeds", "(I)V"⟩, 58) := ⟨⟨by decide +kernel, by decide +kernel⟩, List.mem_of_getElem? (i := 1229) (by decide +kernel), List.mem_of_getElem? (i := 1784) (by decide +kernel), List.mem_of_getElem? (i := 1785) (by decide +kernel)⟩
theorem lw_p173 : lw_okq (⟨"MaskBenchModel", "reads", "()V"⟩, 58) := ⟨⟨by decide +kernel, by decide +kernel⟩, List.mem_of_getElem? (i := 1229) (by decide +kernel), List.mem_of_getElem? (i := 1792) (by decide +kernel), List.mem_of_getElem? (i := 1793) (by decide +kernel)⟩
theorem lw_p174 : lw_okq (⟨"MaskBenchModel", "isOf", "(III)Z"⟩, 58) := ⟨⟨by decide +kernel, by decide +kernel⟩, List.mem_of_getElem? (i := 1229) (by decide +kernel), List.mem_of_getElem? (i := 1796) (by decide +kernel), List.mem_of_getElem? (i := 1797) (by decide +kernel)⟩
theorem lw_p175 : lw_okq (⟨"MaskBenchModel", "good", "()Z"⟩, 58) := ⟨⟨by decide +kernel, by decide +kernel⟩, List.mem_of_getElem? (i := 1229) (by decide +kernel), List.mem_of_getElem? (i := 1804) (by decide +kernel), List.mem_of_getElem? (i := 1805) (by decide +kernel)⟩
def lw_privs_11 : List (MethodName × Nat) := [(⟨"MaskBenchModel", "whyAll", "(I)I"⟩, 58), (⟨"MaskBenchModel", "sumOf", "([IZ)I"⟩, 58), (⟨"MaskBenchModel", "errorNow", "()I"⟩, 58), (⟨"MaskBenchModel", "decodes", "([I)V"⟩, 58), (⟨"MaskBenchModel", "moved", "(Z)I"⟩, 58), (⟨"MaskBenchModel", "laysMost", "()I"⟩, 58), (⟨"MaskBenchModel", "finds", "()V"⟩, 58), (⟨"MaskBenchModel", "refuse", "(I)I"⟩, 58), (⟨"MaskBenchModel", "fills", "()I"⟩, 58), (⟨"MaskBenchModel", "fitsPicture", "()Z"⟩, 58), (⟨"MaskBenchModel", "matchAt", "(II)J"⟩, 58), (⟨"MaskBenchModel", "cellOf", "(J)I"⟩, 58), (⟨"MaskBenchModel", "feeds", "(I)V"⟩, 58), (⟨"MaskBenchModel", "reads", "()V"⟩, 58), (⟨"MaskBenchModel", "isOf", "(III)Z"⟩, 58), (⟨"MaskBenchModel", "good", "()Z"⟩, 58)]
theorem lw_r11 : ∀ q ∈ lw_privs_11, lw_okq q := List.forall_mem_cons.mpr ⟨lw_p160, List.forall_mem_cons.mpr ⟨lw_p161, List.forall_mem_cons.mpr ⟨lw_p162, List.forall_mem_cons.mpr ⟨lw_p163, List.forall_mem_cons.mpr ⟨lw_p164, List.forall_mem_cons.mpr ⟨lw_p165, List.forall_mem_cons.mpr ⟨lw_p166, List.forall_mem_cons.mpr ⟨lw_p167, List.forall_mem_cons.mpr ⟨lw_p168, List.forall_mem_cons.mpr ⟨lw_p169, List.forall_mem_cons.mpr ⟨lw_p170, List.forall_mem_cons.mpr ⟨lw_p171, List.forall_mem_cons.mpr ⟨lw_p172, List.forall_mem_cons.mpr ⟨lw_p173, List.forall_mem_cons.mpr ⟨lw_p174, List.forall_mem_cons.mpr ⟨lw_p175, fun _ h => absurd h List.not_mem_nil⟩⟩⟩⟩⟩⟩⟩⟩⟩⟩⟩⟩⟩⟩⟩⟩
theorem lw_p176 : lw_okq (⟨"MaskBenchModel", "line", "()V"⟩, 58) := ⟨⟨by decide +kernel, by decide +kernel⟩, List.mem_of_getElem? (i := 1229) (by decide +kernel), List.mem_of_getElem? (i := 1808) (by decide +kernel), List.mem_of_getElem? (i := 1809) (by decide +kernel)⟩
theorem lw_p177 : lw_okq (⟨"MaskBenchModel", "isWord", "(I)Z"⟩, 58) := ⟨⟨by decide +kernel, by decide +kernel⟩, List.mem_of_getElem? (i := 1229) (by decide +kernel), List.mem_of_getElem? (i := 1812) (by decide +kernel), List.mem_of_getElem? (i := 1813) (by decide +kernel)⟩
theorem lw_p178 : lw_okq (⟨"MaskBenchModel", "readsPlate", "()V"⟩, 58) := ⟨⟨by decide +kernel, by decide +kernel⟩, List.mem_of_getElem? (i := 1229) (by decide +kernel), List.mem_of_getElem? (i := 1816) (by decide +kernel), List.mem_of_getElem? (i := 1817) (by decide +kernel)⟩
theorem lw_p179 : lw_okq (⟨"MaskBenchModel", "begins", "(II)Z"⟩, 58) := ⟨⟨by decide +kernel, by decide +kernel⟩, List.mem_of_getElem? (i := 1229) (by decide +kernel), List.mem_of_getElem? (i := 1820) (by decide +kernel), List.mem_of_getElem? (i := 1821) (by decide +kernel)⟩
theorem lw_p180 : lw_okq (⟨"MaskBenchModel", "must", "(ZI)V"⟩, 58) := ⟨⟨by decide +kernel, by decide +kernel⟩, List.mem_of_getElem? (i := 1229) (by decide +kernel), List.mem_of_getElem? (i := 1824) (by decide +kernel), List.mem_of_getElem? (i := 1825) (by decide +kernel)⟩
theorem lw_p181 : lw_okq (⟨"MaskBenchModel", "goesOn", "()V"⟩, 58) := ⟨⟨by decide +kernel, by decide +kernel⟩, List.mem_of_getElem? (i := 1229) (by decide +kernel), List.mem_of_getElem? (i := 1828) (by decide +kernel), List.mem_of_getElem? (i := 1829) (by decide +kernel)⟩
theorem lw_p182 : lw_okq (⟨"MaskBenchModel", "isName", "()Z"⟩, 58) := ⟨⟨by decide +kernel, by decide +kernel⟩, List.mem_of_getElem? (i := 1229) (by decide +kernel), List.mem_of_getElem? (i := 1832) (by decide +kernel), List.mem_of_getElem? (i := 1833) (by decide +kernel)⟩
theorem lw_p183 : lw_okq (⟨"MaskBenchModel", "plateNamed", "()I"⟩, 58) := ⟨⟨by decide +kernel, by decide +kernel⟩, List.mem_of_getElem? (i := 1229) (by decide +kernel), List.mem_of_getElem? (i := 1836) (by decide +kernel), List.mem_of_getElem? (i := 1837) (by decide +kernel)⟩
theorem lw_p184 : lw_okq (⟨"MaskBenchModel", "readsForm", "()V"⟩, 58) := ⟨⟨by decide +kernel, by decide +kernel⟩, List.mem_of_getElem? (i := 1229) (by decide +kernel), List.mem_of_getElem? (i := 1840) (by decide +kernel), List.mem_of_getElem? (i := 1841) (by decide +kernel)⟩
theorem lw_p185 : lw_okq (⟨"MaskBenchModel", "takesPrime", "(I)I"⟩, 58) := ⟨⟨by decide +kernel, by decide +kernel⟩, List.mem_of_getElem? (i := 1229) (by decide +kernel), List.mem_of_getElem? (i := 1844) (by decide +kernel), List.mem_of_getElem? (i := 1845) (by decide +kernel)⟩
theorem lw_p186 : lw_okq (⟨"MaskBenchModel", "makesRow", "(I)V"⟩, 58) := ⟨⟨by decide +kernel, by decide +kernel⟩, List.mem_of_getElem? (i := 1229) (by decide +kernel), List.mem_of_getElem? (i := 1848) (by decide +kernel), List.mem_of_getElem? (i := 1849) (by decide +kernel)⟩
theorem lw_p187 : lw_okq (⟨"MaskBenchModel", "tells", "(IIII)V"⟩, 58) := ⟨⟨by decide +kernel, by decide +kernel⟩, List.mem_of_getElem? (i := 1229) (by decide +kernel), List.mem_of_getElem? (i := 1852) (by decide +kernel), List.mem_of_getElem? (i := 1853) (by decide +kernel)⟩
theorem lw_p188 : lw_okq (⟨"MaskBenchModel", "sizes", "(II)V"⟩, 58) := ⟨⟨by decide +kernel, by decide +kernel⟩, List.mem_of_getElem? (i := 1229) (by decide +kernel), List.mem_of_getElem? (i := 1856) (by decide +kernel), List.mem_of_getElem? (i := 1857) (by decide +kernel)⟩
theorem lw_p189 : lw_okq (⟨"MaskBenchModel", "puts", "(IZI)V"⟩, 58) := ⟨⟨by decide +kernel, by decide +kernel⟩, List.mem_of_getElem? (i := 1229) (by decide +kernel), List.mem_of_getElem? (i := 1863) (by decide +kernel), List.mem_of_getElem? (i := 1864) (by decide +kernel)⟩
theorem lw_p190 : lw_okq (⟨"MaskBenchModel", "makesSquare", "(I)V"⟩, 58) := ⟨⟨by decide +kernel, by decide +kernel⟩, List.mem_of_getElem? (i := 1229) (by decide +kernel), List.mem_of_getElem? (i := 1867) (by decide +kernel), List.mem_of_getElem? (i := 1868) (by decide +kernel)⟩
theorem lw_p191 : lw_okq (⟨"MaskBenchModel", "makesBits", "(JI)V"⟩, 58) := ⟨⟨by decide +kernel, by decide +kernel⟩, List.mem_of_getElem? (i := 1229) (by decide +kernel), List.mem_of_getElem? (i := 1871) (by decide +kernel), List.mem_of_getElem? (i := 1872) (by decide +kernel)⟩
def lw_privs_12 : List (MethodName × Nat) := [(⟨"MaskBenchModel", "line", "()V"⟩, 58), (⟨"MaskBenchModel", "isWord", "(I)Z"⟩, 58), (⟨"MaskBenchModel", "readsPlate", "()V"⟩, 58), (⟨"MaskBenchModel", "begins", "(II)Z"⟩, 58), (⟨"MaskBenchModel", "must", "(ZI)V"⟩, 58), (⟨"MaskBenchModel", "goesOn", "()V"⟩, 58), (⟨"MaskBenchModel", "isName", "()Z"⟩, 58), (⟨"MaskBenchModel", "plateNamed", "()I"⟩, 58), (⟨"MaskBenchModel", "readsForm", "()V"⟩, 58), (⟨"MaskBenchModel", "takesPrime", "(I)I"⟩, 58), (⟨"MaskBenchModel", "makesRow", "(I)V"⟩, 58), (⟨"MaskBenchModel", "tells", "(IIII)V"⟩, 58), (⟨"MaskBenchModel", "sizes", "(II)V"⟩, 58), (⟨"MaskBenchModel", "puts", "(IZI)V"⟩, 58), (⟨"MaskBenchModel", "makesSquare", "(I)V"⟩, 58), (⟨"MaskBenchModel", "makesBits", "(JI)V"⟩, 58)]
theorem lw_r12 : ∀ q ∈ lw_privs_12, lw_okq q := List.forall_mem_cons.mpr ⟨lw_p176, List.forall_mem_cons.mpr ⟨lw_p177, List.forall_mem_cons.mpr ⟨lw_p178, List.forall_mem_cons.mpr ⟨lw_p179, List.forall_mem_cons.mpr ⟨lw_p180, List.forall_mem_cons.mpr ⟨lw_p181, List.forall_mem_cons.mpr ⟨lw_p182, List.forall_mem_cons.mpr ⟨lw_p183, List.forall_mem_cons.mpr ⟨lw_p184, List.forall_mem_cons.mpr ⟨lw_p185, List.forall_mem_cons.mpr ⟨lw_p186, List.forall_mem_cons.mpr ⟨lw_p187, List.forall_mem_cons.mpr ⟨lw_p188, List.forall_mem_cons.mpr ⟨lw_p189, List.forall_mem_cons.mpr ⟨lw_p190, List.forall_mem_cons.mpr ⟨lw_p191, fun _ h => absurd h List.not_mem_nil⟩⟩⟩⟩⟩⟩⟩⟩⟩⟩⟩⟩⟩⟩⟩⟩
theorem lw_p192 : lw_okq (⟨"MaskBenchModel", "makesSet", "()V"⟩, 58) := ⟨⟨by decide +kernel, by decide +kernel⟩, List.mem_of_getElem? (i := 1229) (by decide +kernel), List.mem_of_getElem? (i := 1875) (by decide +kernel), List.mem_of_getElem? (i := 1876) (by decide +kernel)⟩
theorem lw_p193 : lw_okq (⟨"MaskBenchModel", "takesNumber", "(II)I"⟩, 58) := ⟨⟨by decide +kernel, by decide +kernel⟩, List.mem_of_getElem? (i := 1229) (by decide +kernel), List.mem_of_getElem? (i := 1879) (by decide +kernel), List.mem_of_getElem? (i := 1880) (by decide +kernel)⟩
theorem lw_p194 : lw_okq (⟨"MaskBenchModel", "takesPlate", "(ZI)I"⟩, 58) := ⟨⟨by decide +kernel, by decide +kernel⟩, List.mem_of_getElem? (i := 1229) (by decide +kernel), List.mem_of_getElem? (i := 1883) (by decide +kernel), List.mem_of_getElem? (i := 1884) (by decide +kernel)⟩
theorem lw_p195 : lw_okq (⟨"MaskBenchModel", "makesTurn", "(III)V"⟩, 58) := ⟨⟨by decide +kernel, by decide +kernel⟩, List.mem_of_getElem? (i := 1229) (by decide +kernel), List.mem_of_getElem? (i := 1887) (by decide +kernel), List.mem_of_getElem? (i := 1888) (by decide +kernel)⟩
theorem lw_p196 : lw_okq (⟨"MaskBenchModel", "makesNegative", "(I)V"⟩, 58) := ⟨⟨by decide +kernel, by decide +kernel⟩, List.mem_of_getElem? (i := 1229) (by decide +kernel), List.mem_of_getElem? (i := 1891) (by decide +kernel), List.mem_of_getElem? (i := 1892) (by decide +kernel)⟩
theorem lw_p197 : lw_okq (⟨"MaskBenchModel", "makesBoth", "(II)V"⟩, 58) := ⟨⟨by decide +kernel, by decide +kernel⟩, List.mem_of_getElem? (i := 1229) (by decide +kernel), List.mem_of_getElem? (i := 1895) (by decide +kernel), List.mem_of_getElem? (i := 1896) (by decide +kernel)⟩
theorem lw_p198 : lw_okq (⟨"MaskBenchModel", "readsThing", "(II)V"⟩, 58) := ⟨⟨by decide +kernel, by decide +kernel⟩, List.mem_of_getElem? (i := 1229) (by decide +kernel), List.mem_of_getElem? (i := 1899) (by decide +kernel), List.mem_of_getElem? (i := 1900) (by decide +kernel)⟩
theorem lw_p199 : lw_okq (⟨"MaskBenchModel", "saysPlate", "(I)V"⟩, 58) := ⟨⟨by decide +kernel, by decide +kernel⟩, List.mem_of_getElem? (i := 1229) (by decide +kernel), List.mem_of_getElem? (i := 1911) (by decide +kernel), List.mem_of_getElem? (i := 1912) (by decide +kernel)⟩
theorem lw_p200 : lw_okq (⟨"MaskBenchModel", "saysWord", "(JZ)V"⟩, 58) := ⟨⟨by decide +kernel, by decide +kernel⟩, List.mem_of_getElem? (i := 1229) (by decide +kernel), List.mem_of_getElem? (i := 1915) (by decide +kernel), List.mem_of_getElem? (i := 1916) (by decide +kernel)⟩
theorem lw_p201 : lw_okq (⟨"MaskBenchModel", "says", "(I)V"⟩, 58) := ⟨⟨by decide +kernel, by decide +kernel⟩, List.mem_of_getElem? (i := 1229) (by decide +kernel), List.mem_of_getElem? (i := 1919) (by decide +kernel), List.mem_of_getElem? (i := 1920) (by decide +kernel)⟩
theorem lw_p202 : lw_okq (⟨"MaskBenchModel", "saysNumber", "(I)V"⟩, 58) := ⟨⟨by decide +kernel, by decide +kernel⟩, List.mem_of_getElem? (i := 1229) (by decide +kernel), List.mem_of_getElem? (i := 1923) (by decide +kernel), List.mem_of_getElem? (i := 1924) (by decide +kernel)⟩
theorem lw_p203 : lw_okq (⟨"MaskBenchModel", "saysBits", "(I)V"⟩, 58) := ⟨⟨by decide +kernel, by decide +kernel⟩, List.mem_of_getElem? (i := 1229) (by decide +kernel), List.mem_of_getElem? (i := 1927) (by decide +kernel), List.mem_of_getElem? (i := 1928) (by decide +kernel)⟩
theorem lw_p204 : lw_okq (⟨"MaskBenchModel", "saysThings", "(I)V"⟩, 58) := ⟨⟨by decide +kernel, by decide +kernel⟩, List.mem_of_getElem? (i := 1229) (by decide +kernel), List.mem_of_getElem? (i := 1931) (by decide +kernel), List.mem_of_getElem? (i := 1932) (by decide +kernel)⟩
def lw_privs_13 : List (MethodName × Nat) := [(⟨"MaskBenchModel", "makesSet", "()V"⟩, 58), (⟨"MaskBenchModel", "takesNumber", "(II)I"⟩, 58), (⟨"MaskBenchModel", "takesPlate", "(ZI)I"⟩, 58), (⟨"MaskBenchModel", "makesTurn", "(III)V"⟩, 58), (⟨"MaskBenchModel", "makesNegative", "(I)V"⟩, 58), (⟨"MaskBenchModel", "makesBoth", "(II)V"⟩, 58), (⟨"MaskBenchModel", "readsThing", "(II)V"⟩, 58), (⟨"MaskBenchModel", "saysPlate", "(I)V"⟩, 58), (⟨"MaskBenchModel", "saysWord", "(JZ)V"⟩, 58), (⟨"MaskBenchModel", "says", "(I)V"⟩, 58), (⟨"MaskBenchModel", "saysNumber", "(I)V"⟩, 58), (⟨"MaskBenchModel", "saysBits", "(I)V"⟩, 58), (⟨"MaskBenchModel", "saysThings", "(I)V"⟩, 58)]
theorem lw_r13 : ∀ q ∈ lw_privs_13, lw_okq q := List.forall_mem_cons.mpr ⟨lw_p192, List.forall_mem_cons.mpr ⟨lw_p193, List.forall_mem_cons.mpr ⟨lw_p194, List.forall_mem_cons.mpr ⟨lw_p195, List.forall_mem_cons.mpr ⟨lw_p196, List.forall_mem_cons.mpr ⟨lw_p197, List.forall_mem_cons.mpr ⟨lw_p198, List.forall_mem_cons.mpr ⟨lw_p199, List.forall_mem_cons.mpr ⟨lw_p200, List.forall_mem_cons.mpr ⟨lw_p201, List.forall_mem_cons.mpr ⟨lw_p202, List.forall_mem_cons.mpr ⟨lw_p203, List.forall_mem_cons.mpr ⟨lw_p204, fun _ h => absurd h List.not_mem_nil⟩⟩⟩⟩⟩⟩⟩⟩⟩⟩⟩⟩⟩
def lw_privs : List (MethodName × Nat) := lw_privs_1 ++ (lw_privs_2 ++ (lw_privs_3 ++ (lw_privs_4 ++ (lw_privs_5 ++ (lw_privs_6 ++ (lw_privs_7 ++ (lw_privs_8 ++ (lw_privs_9 ++ (lw_privs_10 ++ (lw_privs_11 ++ (lw_privs_12 ++ (lw_privs_13))))))))))))
def lw_tbl : List Cond := k2_sels lw_privs ++ tables_1
theorem lw_privs_ok : ∀ q ∈ lw_privs, lw_okq q := by
  show ∀ q ∈ lw_privs_1 ++ (lw_privs_2 ++ (lw_privs_3 ++ (lw_privs_4 ++ (lw_privs_5 ++ (lw_privs_6 ++ (lw_privs_7 ++ (lw_privs_8 ++ (lw_privs_9 ++ (lw_privs_10 ++ (lw_privs_11 ++ (lw_privs_12 ++ (lw_privs_13)))))))))))), lw_okq q
  exact List.forall_mem_append.mpr ⟨lw_r1, List.forall_mem_append.mpr ⟨lw_r2, List.forall_mem_append.mpr ⟨lw_r3, List.forall_mem_append.mpr ⟨lw_r4, List.forall_mem_append.mpr ⟨lw_r5, List.forall_mem_append.mpr ⟨lw_r6, List.forall_mem_append.mpr ⟨lw_r7, List.forall_mem_append.mpr ⟨lw_r8, List.forall_mem_append.mpr ⟨lw_r9, List.forall_mem_append.mpr ⟨lw_r10, List.forall_mem_append.mpr ⟨lw_r11, List.forall_mem_append.mpr ⟨lw_r12, lw_r13⟩⟩⟩⟩⟩⟩⟩⟩⟩⟩⟩⟩
end
section
/-! THE PURE MACHINE: one plain interpreter of the instructions that the system uses, over a heap of three maps. No word of any class stands here. -/
/-- ints, longs, references by address and place; how many cells there are -/
abbrev pm_H : Type := (Nat → Nat → Int32) × (Nat → Nat → Int64) × (Nat → Nat → Option Nat) × Nat
/-- an instruction: a constant that is pushed, or an instruction with resolved operands -/
abbrev pm_I : Type := Value ⊕ Instr
/-- a cell's shape: an object of a class, or an array (kind, length); kinds: 0 int, 1 long, 2 byte, 3 boolean, 4 + c references to class c -/
abbrev pm_S : Type := Nat ⊕ (Nat × Nat)
/-- code; a method's (values that it takes, locals, class of its receiver, kind of its answer: 0 none, 1 int, 2 long, 3 reference, 4 boolean); cells and slots that it may make; shapes; kinds of fields (0 int, 1 long, 2 reference, 3 boolean); how many fields; texts; the script -/
abbrev pm_P : Type := (Nat → Nat → Option (pm_I × Nat)) × (Nat → Nat × Nat × Nat × Nat) × (Nat → Nat × Nat) × (Nat → Option pm_S) × (Nat → Nat → Nat) × (Nat → Nat) × (Nat → List Int32) × List Int32
abbrev pm_cod (P : pm_P) : Nat → Nat → Option (pm_I × Nat) := P.1
abbrev pm_nar (P : pm_P) (m : Nat) : Nat := (P.2.1 m).1
abbrev pm_mxl (P : pm_P) (m : Nat) : Nat := (P.2.1 m).2.1
abbrev pm_rcv (P : pm_P) (m : Nat) : Nat := (P.2.1 m).2.2.1
abbrev pm_ret (P : pm_P) (m : Nat) : Nat := (P.2.1 m).2.2.2
abbrev pm_mc (P : pm_P) (m : Nat) : Nat := (P.2.2.1 m).1
abbrev pm_ms (P : pm_P) (m : Nat) : Nat := (P.2.2.1 m).2
abbrev pm_shp (P : pm_P) : Nat → Option pm_S := P.2.2.2.1
abbrev pm_fty (P : pm_P) : Nat → Nat → Nat := P.2.2.2.2.1
abbrev pm_nf (P : pm_P) : Nat → Nat := P.2.2.2.2.2.1
abbrev pm_txt (P : pm_P) : Nat → List Int32 := P.2.2.2.2.2.2.1
abbrev pm_scr (P : pm_P) : List Int32 := P.2.2.2.2.2.2.2
def pm_u {α : Type} (f : Nat → Nat → α) (a k : Nat) (x : α) : Nat → Nat → α := fun b j => if b = a then (if j = k then x else f b j) else f b j
def pm_r {α : Type} (f : Nat → Nat → α) (a : Nat) (g : Nat → α) : Nat → Nat → α := fun b j => if b = a then g j else f b j
abbrev pm_sI (h : pm_H) (a k : Nat) (x : Int32) : pm_H := (pm_u h.1 a k x, h.2)
abbrev pm_sL (h : pm_H) (a k : Nat) (x : Int64) : pm_H := (h.1, pm_u h.2.1 a k x, h.2.2)
abbrev pm_sR (h : pm_H) (a k : Nat) (x : Option Nat) : pm_H := (h.1, h.2.1, pm_u h.2.2.1 a k x, h.2.2.2)
abbrev pm_sA (h : pm_H) (a : Nat) (g : Nat → Int32) : pm_H := (pm_r h.1 a g, h.2)
/-- a cell's shape, if it is there -/
def pm_sh (P : pm_P) (h : pm_H) (a : Nat) : Option pm_S := if a < h.2.2.2 then pm_shp P a else none
/-- an index within -/
def pm_in (i : Int32) (n : Nat) : Bool := !(decide (i < 0) || decide (n ≤ i.toNatClampNeg))
/-- the place ahead of a local that is written holds no long any more -/
def pm_k (lv : List Value) (i : Nat) : List Value := match i with
  | 0 => lv
  | j + 1 => match lv[j]? with
    | some (.long _) => lv.set j (.retAddr 0)
    | some (.double _) => lv.set j (.retAddr 0)
    | _ => lv
def pm_st1 (lv : List Value) (i : Nat) (v : Value) : List Value := (pm_k lv i).set i v
def pm_st2 (lv : List Value) (i : Nat) (v : Value) : List Value := ((pm_k lv i).set i v).set (i + 1) (.retAddr 0)
/-- locals: loads, stores, iinc -/
def pm_lo (i : Instr) (lv st : List Value) : Option (List Value × List Value) := match i with
  | .iload k => match lv[k]? with
    | some (.int x) => some (lv, .int x :: st)
    | _ => none
  | .lload k => match lv[k]? with
    | some (.long x) => some (lv, .long x :: st)
    | _ => none
  | .aload k => match lv[k]? with
    | some (.ref x) => some (lv, .ref x :: st)
    | some .null => some (lv, .null :: st)
    | _ => none
  | .istore k => match st with
    | .int x :: r => if k < lv.length then some (pm_st1 lv k (.int x), r) else none
    | _ => none
  | .lstore k => match st with
    | .long x :: r => if k + 1 < lv.length then some (pm_st2 lv k (.long x), r) else none
    | _ => none
  | .astore k => match st with
    | .ref x :: r => if k < lv.length then some (pm_st1 lv k (.ref x), r) else none
    | .null :: r => if k < lv.length then some (pm_st1 lv k .null, r) else none
    | _ => none
  | .iinc k n => match lv[k]? with
    | some (.int x) => some (pm_st1 lv k (.int (x + Int32.ofInt n)), st)
    | _ => none
  | _ => none
/-- the stack alone -/
def pm_ar (i : Instr) (st : List Value) : Option (List Value) := match i with
  | .iadd => match st with
    | .int y :: .int x :: r => some (.int (x + y) :: r)
    | _ => none
  | .isub => match st with
    | .int y :: .int x :: r => some (.int (x - y) :: r)
    | _ => none
  | .imul => match st with
    | .int y :: .int x :: r => some (.int (x * y) :: r)
    | _ => none
  | .iand => match st with
    | .int y :: .int x :: r => some (.int (x &&& y) :: r)
    | _ => none
  | .ixor => match st with
    | .int y :: .int x :: r => some (.int (x ^^^ y) :: r)
    | _ => none
  | .idiv => match st with
    | .int y :: .int x :: r => if y = 0 then none else some (.int (x / y) :: r)
    | _ => none
  | .irem => match st with
    | .int y :: .int x :: r => if y = 0 then none else some (.int (x - x / y * y) :: r)
    | _ => none
  | .ineg => match st with
    | .int x :: r => some (.int (-x) :: r)
    | _ => none
  | .ishr => match st with
    | .int y :: .int x :: r => some (.int (x >>> (y &&& 31)) :: r)
    | _ => none
  | .ladd => match st with
    | .long y :: .long x :: r => some (.long (x + y) :: r)
    | _ => none
  | .lsub => match st with
    | .long y :: .long x :: r => some (.long (x - y) :: r)
    | _ => none
  | .lmul => match st with
    | .long y :: .long x :: r => some (.long (x * y) :: r)
    | _ => none
  | .land => match st with
    | .long y :: .long x :: r => some (.long (x &&& y) :: r)
    | _ => none
  | .ldiv => match st with
    | .long y :: .long x :: r => if y = 0 then none else some (.long (x / y) :: r)
    | _ => none
  | .lrem => match st with
    | .long y :: .long x :: r => if y = 0 then none else some (.long (x - x / y * y) :: r)
    | _ => none
  | .lshr => match st with
    | .int y :: .long x :: r => some (.long (x >>> (y.toInt64 &&& 63)) :: r)
    | _ => none
  | .lcmp => match st with
    | .long y :: .long x :: r => some (.int (lg_cmp x y) :: r)
    | _ => none
  | .i2l => match st with
    | .int x :: r => some (.long x.toInt64 :: r)
    | _ => none
  | .l2i => match st with
    | .long x :: r => some (.int x.toInt32 :: r)
    | _ => none
  | .i2b => match st with
    | .int x :: r => some (.int x.toInt8.toInt32 :: r)
    | _ => none
  | .dup => match st with
    | v :: r => if v.category = 1 then some (v :: v :: r) else none
    | _ => none
  | .pop => match st with
    | v :: r => if v.category = 1 then some r else none
    | _ => none
  | .dup2 => match st with
    | v :: r => if v.category = 2 then some (v :: v :: r) else match r with
      | w :: r => if w.category = 1 then some (v :: w :: v :: w :: r) else none
      | _ => none
    | _ => none
  | _ => none
def pm_cmp (c : ClassFile.Cond) (x y : Int32) : Bool := match c with
  | .eq => decide (x = y)
  | .ne => decide (¬ x = y)
  | .lt => decide (x < y)
  | .ge => decide (y ≤ x)
  | .gt => decide (y < x)
  | .le => decide (x ≤ y)
/-- a switch by pairs -/
def pm_lk : List (Int × Int) → Int → Int → Int
  | [], d, _ => d
  | (k, t) :: r, d, x => if x = k then t else pm_lk r d x
/-- where it goes on; targets are absolute here -/
def pm_br (i : Instr) (nx : Nat) (st : List Value) : Option (Nat × List Value) := match i with
  | .goto t => some (t.toNat, st)
  | .ifCond c t => match st with
    | .int x :: r => some (if pm_cmp c x 0 = true then t.toNat else nx, r)
    | _ => none
  | .if_icmp c t => match st with
    | .int y :: .int x :: r => some (if pm_cmp c x y = true then t.toNat else nx, r)
    | _ => none
  | .ifnull t => match st with
    | .null :: r => some (t.toNat, r)
    | .ref _ :: r => some (nx, r)
    | _ => none
  | .ifnonnull t => match st with
    | .null :: r => some (nx, r)
    | .ref _ :: r => some (t.toNat, r)
    | _ => none
  | .tableswitch d lo hi ts => match st with
    | .int x :: r => if x.toInt < lo ∨ hi < x.toInt then some (d.toNat, r) else match ts[(x.toInt - lo).toNat]? with
      | some t => some (t.toNat, r)
      | none => none
    | _ => none
  | .lookupswitch d ps => match st with
    | .int x :: r => some ((pm_lk ps.toList d x.toInt).toNat, r)
    | _ => none
  | _ => none
/-- what a field, or a place of an array, is read as -/
def pm_g (t : Nat) (h : pm_H) (a k : Nat) : Value := match t with
  | 1 => .long (h.2.1 a k)
  | 2 => va_rf (h.2.2.1 a k)
  | _ => .int (h.1 a k)
/-- a field, or a place of an array, is written -/
def pm_p (t : Nat) (h : pm_H) (a k : Nat) (v : Value) : Option pm_H := match v with
  | .int x => match t with
    | 0 => some (pm_sI h a k x)
    | 3 => if x = 0 ∨ x = 1 then some (pm_sI h a k x) else none
    | _ => none
  | .long x => if t = 1 then some (pm_sL h a k x) else none
  | .ref x => if t = 2 then some (pm_sR h a k (some x)) else none
  | .null => if t = 2 then some (pm_sR h a k none) else none
  | _ => none
/-- the heap: fields, arrays, System.arraycopy of ints (invokestatic 9000), Object.<init> (invokespecial 9003), texts (invokevirtual 9001, 9002), the script (caload: its length, saload: an int of it) -/
def pm_he (P : pm_P) (i : Instr) (st : List Value) (h : pm_H) : Option (List Value × pm_H) := match i with
  | .getfield n => match st with
    | .ref a :: r => if pm_sh P h a = some (.inl (n / 64)) then some (pm_g (pm_fty P (n / 64) (n % 64)) h a (n % 64) :: r, h) else none
    | _ => none
  | .putfield n => match st with
    | v :: .ref a :: r => if pm_sh P h a = some (.inl (n / 64)) then (pm_p (pm_fty P (n / 64) (n % 64)) h a (n % 64) v).map (fun h' => (r, h')) else none
    | _ => none
  | .arraylength => match st with
    | .ref a :: r => match pm_sh P h a with
      | some (.inr (_, n)) => some (.int (Int32.ofNat n) :: r, h)
      | _ => none
    | _ => none
  | .iaload => match st with
    | .int j :: .ref a :: r => match pm_sh P h a with
      | some (.inr (0, n)) => if pm_in j n = true then some (.int (h.1 a j.toNatClampNeg) :: r, h) else none
      | _ => none
    | _ => none
  | .baload => match st with
    | .int j :: .ref a :: r => match pm_sh P h a with
      | some (.inr (2, n)) => if pm_in j n = true then some (.int (h.1 a j.toNatClampNeg) :: r, h) else none
      | some (.inr (3, n)) => if pm_in j n = true then some (.int (h.1 a j.toNatClampNeg) :: r, h) else none
      | _ => none
    | _ => none
  | .laload => match st with
    | .int j :: .ref a :: r => match pm_sh P h a with
      | some (.inr (1, n)) => if pm_in j n = true then some (.long (h.2.1 a j.toNatClampNeg) :: r, h) else none
      | _ => none
    | _ => none
  | .aaload => match st with
    | .int j :: .ref a :: r => match pm_sh P h a with
      | some (.inr (_ + 4, n)) => if pm_in j n = true then some (va_rf (h.2.2.1 a j.toNatClampNeg) :: r, h) else none
      | _ => none
    | _ => none
  | .iastore => match st with
    | .int x :: .int j :: .ref a :: r => match pm_sh P h a with
      | some (.inr (0, n)) => if pm_in j n = true then some (r, pm_sI h a j.toNatClampNeg x) else none
      | _ => none
    | _ => none
  | .bastore => match st with
    | .int x :: .int j :: .ref a :: r => match pm_sh P h a with
      | some (.inr (2, n)) => if pm_in j n = true then some (r, pm_sI h a j.toNatClampNeg (vp_nar .byte x)) else none
      | some (.inr (3, n)) => if pm_in j n = true then some (r, pm_sI h a j.toNatClampNeg (vp_nar .boolean x)) else none
      | _ => none
    | _ => none
  | .lastore => match st with
    | .long x :: .int j :: .ref a :: r => match pm_sh P h a with
      | some (.inr (1, n)) => if pm_in j n = true then some (r, pm_sL h a j.toNatClampNeg x) else none
      | _ => none
    | _ => none
  | .aastore => match st with
    | .ref x :: .int j :: .ref a :: r => match pm_sh P h a with
      | some (.inr (c + 4, n)) => if pm_in j n = true ∧ pm_sh P h x = some (.inl c) then some (r, pm_sR h a j.toNatClampNeg (some x)) else none
      | _ => none
    | _ => none
  | .invokestatic n => if n = 9000 then match st with
      | .int c :: .int dp :: .ref b :: .int sp :: .ref a :: r => match pm_sh P h a, pm_sh P h b with
        | some (.inr (0, n0)), some (.inr (0, n1)) => if ¬ sp < 0 ∧ ¬ dp < 0 ∧ ¬ c < 0 ∧ sp.toNatClampNeg + c.toNatClampNeg ≤ n0 ∧ dp.toNatClampNeg + c.toNatClampNeg ≤ n1 ∧ (r.map Value.category).sum ≤ 8 then some (r, pm_sA h b (va_cpy (h.1 a) (h.1 b) sp.toNatClampNeg dp.toNatClampNeg c.toNatClampNeg)) else none
        | _, _ => none
      | _ => none
    else none
  | .invokespecial n => if n = 9003 then match st with
      | .ref _ :: r => if (r.map Value.category).sum ≤ 8 then some (r, h) else none
      | _ => none
    else none
  | .invokevirtual n => if n = 9001 then match st with
      | .ref a :: r => if (r.map Value.category).sum ≤ 8 ∧ 100000 ≤ a ∧ 0 < (pm_txt P (a - 100000)).length then some (.int (Int32.ofNat (pm_txt P (a - 100000)).length) :: r, h) else none
      | _ => none
    else if n = 9002 then match st with
      | .int j :: .ref a :: r => if (r.map Value.category).sum ≤ 8 ∧ 100000 ≤ a ∧ pm_in j (pm_txt P (a - 100000)).length = true then some (.int ((pm_txt P (a - 100000)).getD j.toNatClampNeg 0) :: r, h) else none
      | _ => none
    else none
  | .caload => match st with
    | .ref a :: r => if a = 99999 then some (.int (Int32.ofNat (pm_scr P).length) :: r, h) else none
    | _ => none
  | .saload => match st with
    | .int j :: .ref a :: r => if a = 99999 ∧ pm_in j (pm_scr P).length = true then some (.int ((pm_scr P).getD j.toNatClampNeg 0) :: r, h) else none
    | _ => none
  | _ => none
def pm_at : ArrayType → Nat
  | .int => 0
  | .long => 1
  | .byte => 2
  | .boolean => 3
  | _ => 4
/-- cells are made -/
def pm_al (P : pm_P) (m : Nat) (i : Instr) (st : List Value) (h : pm_H) (cs : Nat × Nat) : Option (List Value × pm_H × Nat × Nat) := match i with
  | .new c => if pm_shp P h.2.2.2 = some (.inl c) ∧ cs.1 + 1 ≤ pm_mc P m ∧ cs.2 + pm_nf P c ≤ pm_ms P m ∧ h.2.2.2 < 99999 then some (.ref h.2.2.2 :: st, (h.1, h.2.1, h.2.2.1, h.2.2.2 + 1), cs.1 + 1, cs.2 + pm_nf P c) else none
  | .newarray t => match st with
    | .int n :: r => if pm_shp P h.2.2.2 = some (.inr (pm_at t, n.toNatClampNeg)) ∧ pm_at t < 4 ∧ ¬ n < 0 ∧ n.toNatClampNeg ≤ 60000000 ∧ cs.1 + 1 ≤ pm_mc P m ∧ cs.2 + n.toNatClampNeg ≤ pm_ms P m ∧ h.2.2.2 < 99999 then some (.ref h.2.2.2 :: r, (h.1, h.2.1, h.2.2.1, h.2.2.2 + 1), cs.1 + 1, cs.2 + n.toNatClampNeg) else none
    | _ => none
  | .anewarray c => match st with
    | .int n :: r => if pm_shp P h.2.2.2 = some (.inr (c + 4, n.toNatClampNeg)) ∧ ¬ n < 0 ∧ n.toNatClampNeg ≤ 60000000 ∧ cs.1 + 1 ≤ pm_mc P m ∧ cs.2 + n.toNatClampNeg ≤ pm_ms P m ∧ h.2.2.2 < 99999 then some (.ref h.2.2.2 :: r, (h.1, h.2.1, h.2.2.1, h.2.2.2 + 1), cs.1 + 1, cs.2 + n.toNatClampNeg) else none
    | _ => none
  | _ => none
/-- the answer of a method -/
def pm_re (rt : Nat) (i : Instr) (st : List Value) : Option (List Value) := match i with
  | .return_ => match st with
    | [] => if rt = 0 then some [] else none
    | _ => none
  | .ireturn => match st with
    | [.int x] => if rt = 1 ∨ (rt = 4 ∧ (x = 0 ∨ x = 1)) then some [.int x] else none
    | _ => none
  | .lreturn => match st with
    | [.long x] => if rt = 2 then some [.long x] else none
    | _ => none
  | .areturn => match st with
    | [.ref x] => if rt = 3 then some [.ref x] else none
    | [.null] => if rt = 3 then some [.null] else none
    | _ => none
  | _ => none
/-- a method's locals at its entry -/
def pm_sl (vs : List Value) : List Value := vs.flatMap fun v => if v.category = 2 then [v, .retAddr 0] else [v]
def pm_en (vs : List Value) (n : Nat) : List Value := pm_sl vs ++ List.replicate (n - (pm_sl vs).length) (.retAddr 0)
/-- a call of an own method: its number, its values, what stays on the stack -/
def pm_ca (P : pm_P) (i : Instr) (st : List Value) (h : pm_H) : Option (Nat × List Value × List Value) := match i with
  | .invokestatic k => if k < 9000 ∧ pm_nar P k ≤ st.length ∧ ((st.drop (pm_nar P k)).map Value.category).sum ≤ 8 ∧ (pm_sl (st.take (pm_nar P k)).reverse).length ≤ pm_mxl P k then some (k, (st.take (pm_nar P k)).reverse, st.drop (pm_nar P k)) else none
  | .invokespecial k => if k < 9000 ∧ ((st.drop (pm_nar P k)).map Value.category).sum ≤ 8 then match (st.take (pm_nar P k)).reverse with
      | .ref a :: as => if as.length + 1 = pm_nar P k ∧ (pm_sl (.ref a :: as)).length ≤ pm_mxl P k then some (k, .ref a :: as, st.drop (pm_nar P k)) else none
      | _ => none
    else none
  | .invokevirtual k => if k < 9000 ∧ ((st.drop (pm_nar P k)).map Value.category).sum ≤ 8 then match (st.take (pm_nar P k)).reverse with
      | .ref a :: as => if as.length + 1 = pm_nar P k ∧ pm_sh P h a = some (.inl (pm_rcv P k)) ∧ (pm_sl (.ref a :: as)).length ≤ pm_mxl P k then some (k, .ref a :: as, st.drop (pm_nar P k)) else none
      | _ => none
    else none
  | _ => none
/-- one step that is no call and no return -/
def pm_s (P : pm_P) (m : Nat) (i : Instr) (nx : Nat) (lv st : List Value) (h : pm_H) (cs : Nat × Nat) : Option (Nat × List Value × List Value × pm_H × Nat × Nat) :=
  match pm_lo i lv st with
  | some r => some (nx, r.1, r.2, h, cs)
  | none => match pm_ar i st with
    | some r => some (nx, lv, r, h, cs)
    | none => match pm_br i nx st with
      | some r => some (r.1, lv, r.2, h, cs)
      | none => match pm_he P i st h with
        | some r => some (nx, lv, r.1, r.2, cs)
        | none => match pm_al P m i st h cs with
          | some r => some (nx, lv, r.1, r.2.1, r.2.2)
          | none => none
/-- the machine: what a method answers, and the heap behind it -/
def pm_run (P : pm_P) : Nat → Nat → Nat → List Value → List Value → pm_H → Nat × Nat → Option (List Value × pm_H)
  | 0, _, _, _, _, _, _ => none
  | f + 1, m, pc, lv, st, h, cs => match pm_cod P m pc with
    | none => none
    | some (.inl v, nx) => pm_run P f m nx lv (v :: st) h cs
    | some (.inr i, nx) => match pm_re (pm_ret P m) i st with
      | some v => some (v, h)
      | none => match pm_ca P i st h with
        | some (k, as, r) => if cs.1 + pm_mc P k ≤ pm_mc P m ∧ cs.2 + pm_ms P k ≤ pm_ms P m then match pm_run P f k 0 (pm_en as (pm_mxl P k)) [] h (0, 0) with
            | some (v, h') => if pm_mc P k = 0 ∨ h'.2.2.2 = h.2.2.2 + pm_mc P k then pm_run P f m nx lv (v ++ r) h' (cs.1 + pm_mc P k, cs.2 + pm_ms P k) else none
            | none => none
          else none
        | none => match pm_s P m i nx lv st h cs with
          | some (pc', lv', st', h', cs') => pm_run P f m pc' lv' st' h' cs'
          | none => none
/-- from here it comes to an end with Q -/
def pm_W (P : pm_P) (m pc : Nat) (lv st : List Value) (h : pm_H) (cs : Nat × Nat) (Q : List Value → pm_H → Prop) : Prop := ∃ f v h', pm_run P f m pc lv st h cs = some (v, h') ∧ Q v h'
theorem pm_mono {P : pm_P} : ∀ {f m pc : Nat} {lv st : List Value} {h : pm_H} {cs : Nat × Nat} {r : List Value × pm_H}, pm_run P f m pc lv st h cs = some r → pm_run P (f + 1) m pc lv st h cs = some r := by
  intro f
  induction f with
  | zero => intro m pc lv st h cs r e; simp [pm_run] at e
  | succ f ih =>
    intro m pc lv st h cs r e
    rw [pm_run] at e ⊢
    split at e
    · exact absurd e (by simp)
    · exact ih e
    · split at e
      · exact e
      · split at e
        · split at e
          · split at e
            · rename_i h1 _ _ h2
              split at e
              · rw [ih h2]
                rw [if_pos (by assumption)]
                show (if _ then _ else _) = _
                rw [if_pos (by assumption)]
                exact ih e
              · exact absurd e (by simp)
            · exact absurd e (by simp)
          · exact absurd e (by simp)
        · split at e
          · exact ih e
          · exact absurd e (by simp)
theorem pm_mono' {P : pm_P} {f g m pc : Nat} {lv st : List Value} {h : pm_H} {cs : Nat × Nat} {r : List Value × pm_H} (hg : f ≤ g) (e : pm_run P f m pc lv st h cs = some r) : pm_run P g m pc lv st h cs = some r := by
  obtain ⟨d, rfl⟩ := Nat.exists_eq_add_of_le hg
  induction d with
  | zero => exact e
  | succ d ih => exact pm_mono (ih (Nat.le_add_right _ _))
section PW
variable {P : pm_P} {m pc nx : Nat} {lv st : List Value} {h : pm_H} {cs : Nat × Nat} {Q : List Value → pm_H → Prop}
theorem pw_imp {Q' : List Value → pm_H → Prop} (hQ : ∀ v h', Q v h' → Q' v h') (k : pm_W P m pc lv st h cs Q) : pm_W P m pc lv st h cs Q' := by
  obtain ⟨f, v, h', a, b⟩ := k
  exact ⟨f, v, h', a, hQ _ _ b⟩
/-- a constant -/
theorem pw_c {v : Value} (hc : pm_cod P m pc = some (.inl v, nx)) (k : pm_W P m nx lv (v :: st) h cs Q) : pm_W P m pc lv st h cs Q := by
  obtain ⟨f, w, h', a, b⟩ := k
  exact ⟨f + 1, w, h', by rw [pm_run, hc]; exact a, b⟩
/-- a return -/
theorem pw_r {i : Instr} {v : List Value} (hc : pm_cod P m pc = some (.inr i, nx)) (hr : pm_re (pm_ret P m) i st = some v) (k : Q v h) : pm_W P m pc lv st h cs Q :=
  ⟨1, v, h, by rw [pm_run, hc]; simp only [hr], k⟩
/-- a step -/
theorem pw_s {i : Instr} {pc' : Nat} {lv' st' : List Value} {h' : pm_H} {cs' : Nat × Nat} (hc : pm_cod P m pc = some (.inr i, nx)) (hr : pm_re (pm_ret P m) i st = none) (ha : pm_ca P i st h = none) (hs : pm_s P m i nx lv st h cs = some (pc', lv', st', h', cs')) (k : pm_W P m pc' lv' st' h' cs' Q) : pm_W P m pc lv st h cs Q := by
  obtain ⟨f, w, g, a, b⟩ := k
  exact ⟨f + 1, w, g, by rw [pm_run, hc]; simp only [hr, ha, hs]; exact a, b⟩
/-- a call -/
theorem pw_ka {i : Instr} {k : Nat} {as r : List Value} (hc : pm_cod P m pc = some (.inr i, nx)) (hr : pm_re (pm_ret P m) i st = none) (ha : pm_ca P i st h = some (k, as, r)) (hm : cs.1 + pm_mc P k ≤ pm_mc P m ∧ cs.2 + pm_ms P k ≤ pm_ms P m)
    (kk : pm_W P k 0 (pm_en as (pm_mxl P k)) [] h (0, 0) (fun v h' => (pm_mc P k = 0 ∨ h'.2.2.2 = h.2.2.2 + pm_mc P k) ∧ pm_W P m nx lv (v ++ r) h' (cs.1 + pm_mc P k, cs.2 + pm_ms P k) Q)) : pm_W P m pc lv st h cs Q := by
  obtain ⟨f, v, h', a, hz, g, w, h'', b, q⟩ := kk
  refine ⟨f + g + 1, w, h'', ?_, q⟩
  rw [pm_run, hc]
  simp only [hr, ha]
  rw [if_pos hm, pm_mono' (Nat.le_add_right f g) a]
  show (if _ then _ else _) = _
  rw [if_pos hz]
  exact pm_mono' (Nat.le_add_left g f) b
/-- a call of a method that makes no cell -/
theorem pw_k {i : Instr} {k : Nat} {as r : List Value} (hc : pm_cod P m pc = some (.inr i, nx)) (hr : pm_re (pm_ret P m) i st = none) (ha : pm_ca P i st h = some (k, as, r)) (hz : P.2.2.1 k = (0, 0)) (hm : cs.1 ≤ pm_mc P m ∧ cs.2 ≤ pm_ms P m)
    (kk : pm_W P k 0 (pm_en as (pm_mxl P k)) [] h (0, 0) (fun v h' => pm_W P m nx lv (v ++ r) h' cs Q)) : pm_W P m pc lv st h cs Q := by
  refine pw_ka hc hr ha (by simp only [pm_mc, pm_ms, hz]; exact hm) (pw_imp (fun v h' q => ⟨Or.inl (by simp only [pm_mc, hz]), ?_⟩) kk)
  have e : (cs.1 + pm_mc P k, cs.2 + pm_ms P k) = cs := by simp only [pm_mc, pm_ms, hz]; rfl
  rw [e]
  exact q
end PW
theorem pm_he_n {P : pm_P} {i : Instr} {st st' : List Value} {h h' : pm_H} (e : pm_he P i st h = some (st', h')) : h'.2.2.2 = h.2.2.2 := by
  unfold pm_he at e
  repeat' split at e
  all_goals first | (cases e; rfl; done) | (obtain ⟨h1, hp1, hp2⟩ := Option.map_eq_some_iff.mp e; cases hp2; unfold pm_p at hp1; repeat' split at hp1) | (cases e; done)
  all_goals first | (cases hp1; rfl; done) | (cases hp1; done)
theorem pm_n0 {P : pm_P} : ∀ {f m pc : Nat} {lv st : List Value} {h : pm_H} {cs : Nat × Nat} {v : List Value} {h' : pm_H}, pm_mc P m = 0 → pm_run P f m pc lv st h cs = some (v, h') → h'.2.2.2 = h.2.2.2 := by
  intro f
  induction f with
  | zero => intro m pc lv st h cs v h' _ e; simp [pm_run] at e
  | succ f ih =>
    intro m pc lv st h cs v h' hm e
    rw [pm_run] at e
    split at e
    · exact absurd e (by simp)
    · exact ih hm e
    · split at e
      · cases e; rfl
      · split at e
        · rename_i k as r _
          split at e
          · rename_i hk
            have hk0 : pm_mc P k = 0 := by omega
            split at e
            · rename_i e1
              split at e
              · rw [ih hm e, ih hk0 e1]
              · exact absurd e (by simp)
            · exact absurd e (by simp)
          · exact absurd e (by simp)
        · split at e
          · rename_i e1
            rw [ih hm e]
            unfold pm_s at e1
            repeat' split at e1
            all_goals first | (cases e1; rfl; done) | (cases e1; done) | skip
            · rename_i e2
              cases e1
              exact pm_he_n e2
            · rename_i e2
              cases e1
              unfold pm_al at e2
              repeat' split at e2
              all_goals first | (rename_i hq; omega) | (cases e2; done)
          · exact absurd e (by simp)
end
section
/-! THE PURE HEAP IN THE REAL ONE -/
/-- a pure value as the real machine has it: ρ says where a pure address lies -/
def pm_c (ρ : Nat → Nat) : Value → Value
  | .ref a => .ref (ρ a)
  | v => v
theorem pm_c_cat (ρ : Nat → Nat) (v : Value) : (pm_c ρ v).category = v.category := by cases v <;> rfl
theorem pm_c_rf (ρ : Nat → Nat) (o : Option Nat) : pm_c ρ (va_rf o) = va_rf (o.map ρ) := by cases o <;> rfl
theorem pm_c_sum (ρ : Nat → Nat) (r : List Value) : ((r.map (pm_c ρ)).map fun v => v.category).sum = (r.map Value.category).sum := by
  induction r with
  | nil => rfl
  | cons v r ih => simp only [List.map_cons, List.sum_cons, ih, pm_c_cat]
/-- a cell -/
def pm_E (P : pm_P) (tA : Nat → ClassId) (ρ : Nat → Nat) (h : pm_H) (a : Nat) : va_E := match pm_shp P a with
  | some (.inl c) => .inr (c, (List.range (pm_nf P c)).map fun k => pm_c ρ (pm_g (pm_fty P c k) h a k))
  | some (.inr (0, n)) => .inl (tA 0, n, .inl (h.1 a))
  | some (.inr (1, n)) => .inl (tA 1, n, .inr (.inl (h.2.1 a)))
  | some (.inr (2, n)) => .inl (tA 2, n, .inl (h.1 a))
  | some (.inr (3, n)) => .inl (tA 3, n, .inl (h.1 a))
  | some (.inr (t + 4, n)) => .inl (tA (t + 4), n, .inr (.inr (.inr (.inr fun i => (h.2.2.1 a i).map ρ))))
  | none => .inr (0, [])
def pm_w (P : pm_P) (tA : Nat → ClassId) (ρ : Nat → Nat) (h : pm_H) : va_W := (List.range h.2.2.2).map fun a => (ρ a, pm_E P tA ρ h a)
theorem pm_w_get {P : pm_P} {tA : Nat → ClassId} {ρ : Nat → Nat} {h : pm_H} {a : Nat} (ha : a < h.2.2.2) : (pm_w P tA ρ h)[a]? = some (ρ a, pm_E P tA ρ h a) := by
  simp [pm_w, ha]
theorem pm_w_len {P : pm_P} {tA : Nat → ClassId} {ρ : Nat → Nat} {h : pm_H} : (pm_w P tA ρ h).length = h.2.2.2 := by simp [pm_w]
theorem pm_w_set {P : pm_P} {tA : Nat → ClassId} {ρ : Nat → Nat} {h h' : pm_H} {a : Nat} {e : va_E} (hn : h'.2.2.2 = h.2.2.2) (he : e = pm_E P tA ρ h' a) (ho : ∀ b, b ≠ a → pm_E P tA ρ h' b = pm_E P tA ρ h b) : (pm_w P tA ρ h).set a (ρ a, e) = pm_w P tA ρ h' := by
  subst he
  apply List.ext_getElem?
  intro j
  rw [List.getElem?_set]
  by_cases hj : a = j
  · subst hj
    by_cases hl : a < h.2.2.2
    · rw [if_pos rfl, if_pos (by rw [pm_w_len]; exact hl), pm_w_get (by rw [hn]; exact hl)]
    · rw [if_pos rfl, if_neg (by rw [pm_w_len]; exact hl)]
      symm
      rw [List.getElem?_eq_none_iff, pm_w_len]
      omega
  · rw [if_neg hj]
    by_cases hl : j < h.2.2.2
    · rw [pm_w_get hl, pm_w_get (by rw [hn]; exact hl), ho j (fun q => hj q.symm)]
    · rw [List.getElem?_eq_none_iff.mpr (by rw [pm_w_len]; omega), List.getElem?_eq_none_iff.mpr (by rw [pm_w_len]; omega)]
/-- nothing is there yet from n on -/
def pm_Z (h : pm_H) : Prop := ∀ a k, h.2.2.2 ≤ a → h.1 a k = 0 ∧ h.2.1 a k = 0 ∧ h.2.2.1 a k = none
def pm_Rel (P : pm_P) (tA : Nat → ClassId) (ρ : Nat → Nat) (base : Nat) (D : va_G) (cl : List vw_C) (h : pm_H) (H : Heap) : Prop :=
  va_P D cl (pm_w P tA ρ h) H ∧ h.2.2.2 ≤ 99999 ∧ pm_Z h
theorem pm_D {P : pm_P} {tA : Nat → ClassId} {ρ : Nat → Nat} {base : Nat} {h : pm_H} (hρ : ∀ a, a < 99999 → ρ a = base + a) (hn : h.2.2.2 ≤ 99999) : va_D (fun q : Nat => base ≤ q) (pm_w P tA ρ h) := by
  have key : ∀ (k : Nat) (q : Nat × va_E), (pm_w P tA ρ h)[k]? = some q → q.1 = base + k := by
    intro k q hq
    have hk : k < h.2.2.2 := by
      have := (List.getElem?_eq_some_iff.mp hq).1
      rwa [pm_w_len] at this
    rw [pm_w_get hk] at hq
    cases hq
    exact hρ k (by omega)
  refine ⟨fun i j p q hp hq e => ?_, fun k q hq => ?_⟩
  · have h1 := key i p hp
    have h2 := key j q hq
    omega
  · have h1 := key k q hq
    show base ≤ q.1
    omega
/-- the locals -/
def pm_L (ρ : Nat → Nat) (ls : Array Slot) (lv : List Value) : Prop := ls.size = lv.length ∧ lv_wf ls ∧ ∀ (i : Nat) (v : Value), lv[i]? = some v → (∀ q, v ≠ .retAddr q) → ls[i]? = some (.val (pm_c ρ v))
def pm_ll (ρ : Nat → Nat) (lv : List Value) : List (Nat × Value) := (List.range lv.length).filterMap fun j => match (lv[j]? : Option Value) with
  | some (Value.retAddr _) => none
  | some v => some (j, pm_c ρ v)
  | none => none
theorem pm_ll_mem {ρ : Nat → Nat} {lv : List Value} {j : Nat} {w : Value} : (j, w) ∈ pm_ll ρ lv ↔ ∃ v, lv[j]? = some v ∧ (∀ q, v ≠ .retAddr q) ∧ w = pm_c ρ v := by
  unfold pm_ll
  rw [List.mem_filterMap]
  constructor
  · rintro ⟨i, hi, e⟩
    cases hv : lv[i]? with
    | none => rw [hv] at e; cases e
    | some v =>
      rw [hv] at e
      cases v <;> first | (cases e; done) | (cases e; exact ⟨_, hv, fun q => by simp, rfl⟩)
  · rintro ⟨v, hv, hq, rfl⟩
    refine ⟨j, List.mem_range.mpr (List.getElem?_eq_some_iff.mp hv).1, ?_⟩
    rw [hv]
    cases v <;> first | rfl | exact absurd rfl (hq _)
theorem pm_L_has {ρ : Nat → Nat} {ls : Array Slot} {lv : List Value} (h : pm_L ρ ls lv) : lv_has ls lv.length (pm_ll ρ lv) := by
  refine ⟨h.1, h.2.1, fun q hq => ?_⟩
  obtain ⟨v, h1, h2, h3⟩ := pm_ll_mem.mp (show (q.1, q.2) ∈ _ from hq)
  rw [h3]
  exact h.2.2 _ _ h1 h2
theorem pm_k_len (lv : List Value) (i : Nat) : (pm_k lv i).length = lv.length := by
  unfold pm_k
  split
  · rfl
  · split <;> simp
theorem pm_st1_len (lv : List Value) (i : Nat) (v : Value) : (pm_st1 lv i v).length = lv.length := by simp [pm_st1, pm_k_len]
theorem pm_st2_len (lv : List Value) (i : Nat) (v : Value) : (pm_st2 lv i v).length = lv.length := by simp [pm_st2, pm_k_len]
theorem pm_k_get {lv : List Value} {i j : Nat} {u : Value} (h : (pm_k lv i)[j]? = some u) (hu : ∀ q, u ≠ .retAddr q) : lv[j]? = some u ∧ ¬ (j + 1 = i ∧ u.category = 2) := by
  unfold pm_k at h
  split at h
  · exact ⟨h, fun q => by omega⟩
  · rename_i n
    have key : ∀ x, (lv.set n (.retAddr 0))[j]? = some u → lv[n]? = some x → lv[j]? = some u ∧ ¬ (j + 1 = n + 1 ∧ u.category = 2) := by
      intro x e hx
      by_cases hj : n = j
      · subst hj
        rw [List.getElem?_set, if_pos rfl, if_pos (List.getElem?_eq_some_iff.mp hx).1] at e
        cases e
        exact absurd rfl (hu 0)
      · rw [List.getElem?_set, if_neg hj] at e
        exact ⟨e, fun q => hj (by omega)⟩
    split at h
    · exact key _ h (by assumption)
    · exact key _ h (by assumption)
    · rename_i h1 h2
      refine ⟨h, fun q => ?_⟩
      have : j = n := by omega
      subst this
      cases u with
      | long z => exact h1 z h
      | double z => exact h2 z h
      | _ => simp [Value.category] at q
theorem pm_L_st1 {ρ : Nat → Nat} {ls' : Array Slot} {lv : List Value} {i : Nat} {v : Value} (hh : lv_has ls' lv.length ((i, pm_c ρ v) :: (pm_ll ρ lv).filter (fun q => !(q.1 == i) && !(q.1 + 1 == i && q.2.category == 2)))) : pm_L ρ ls' (pm_st1 lv i v) := by
  obtain ⟨h1, h2, h3⟩ := hh
  refine ⟨by rw [h1, pm_st1_len], h2, fun j u hj hu => ?_⟩
  unfold pm_st1 at hj
  rw [List.getElem?_set] at hj
  by_cases e : i = j
  · subst e
    rw [if_pos rfl] at hj
    split at hj
    · cases hj
      exact h3 (i, pm_c ρ v) List.mem_cons_self
    · cases hj
  · rw [if_neg e] at hj
    obtain ⟨g1, g2⟩ := pm_k_get hj hu
    refine h3 (j, pm_c ρ u) (List.mem_cons_of_mem _ (List.mem_filter.mpr ⟨pm_ll_mem.mpr ⟨u, g1, hu, rfl⟩, ?_⟩))
    simp only [pm_c_cat, Bool.and_eq_true, Bool.not_eq_true', beq_eq_false_iff_ne, ne_eq, Bool.and_eq_false_iff]
    refine ⟨fun q => e q.symm, ?_⟩
    by_cases q1 : j + 1 = i
    · exact Or.inr fun q2 => g2 ⟨q1, q2⟩
    · exact Or.inl q1
theorem pm_L_st2 {ρ : Nat → Nat} {ls' : Array Slot} {lv : List Value} {i : Nat} {v : Value} (hh : lv_has ls' lv.length ((i, pm_c ρ v) :: (pm_ll ρ lv).filter (fun q => !(q.1 == i) && (!(q.1 == i + 1) && !(q.1 + 1 == i && q.2.category == 2))))) : pm_L ρ ls' (pm_st2 lv i v) := by
  obtain ⟨h1, h2, h3⟩ := hh
  refine ⟨by rw [h1, pm_st2_len], h2, fun j u hj hu => ?_⟩
  unfold pm_st2 at hj
  rw [List.getElem?_set] at hj
  by_cases e1 : i + 1 = j
  · subst e1
    rw [if_pos rfl] at hj
    split at hj
    · cases hj
      exact absurd rfl (hu 0)
    · cases hj
  · rw [if_neg e1, List.getElem?_set] at hj
    by_cases e : i = j
    · subst e
      rw [if_pos rfl] at hj
      split at hj
      · cases hj
        exact h3 (i, pm_c ρ v) List.mem_cons_self
      · cases hj
    · rw [if_neg e] at hj
      obtain ⟨g1, g2⟩ := pm_k_get hj hu
      refine h3 (j, pm_c ρ u) (List.mem_cons_of_mem _ (List.mem_filter.mpr ⟨pm_ll_mem.mpr ⟨u, g1, hu, rfl⟩, ?_⟩))
      simp only [pm_c_cat, Bool.and_eq_true, Bool.not_eq_true', beq_eq_false_iff_ne, ne_eq, Bool.and_eq_false_iff]
      refine ⟨fun q => e q.symm, fun q => e1 q.symm, ?_⟩
      by_cases q1 : j + 1 = i
      · exact Or.inr fun q2 => g2 ⟨q1, q2⟩
      · exact Or.inl q1
theorem pm_sl_len (vs : List Value) (ρ : Nat → Nat) : (lg_sl (vs.map (pm_c ρ))).length = (pm_sl vs).length := by
  unfold lg_sl pm_sl
  induction vs with
  | nil => rfl
  | cons v vs ih =>
    simp only [List.map_cons, List.flatMap_cons, List.length_append, ih, pm_c_cat]
    by_cases h : v.category = 2
    · rw [if_pos h, if_pos h]; rfl
    · rw [if_neg h, if_neg h]; rfl
theorem pm_args_mem {ρ : Nat → Nat} (vs : List Value) : ∀ (i j : Nat) (u : Value), (pm_sl vs)[j]? = some u → (∀ q, u ≠ .retAddr q) → (i + j, pm_c ρ u) ∈ lv_args i (vs.map (pm_c ρ)) := by
  induction vs with
  | nil => intro i j u h; simp [pm_sl] at h
  | cons v vs ih =>
    intro i j u h hu
    simp only [pm_sl, List.flatMap_cons] at h
    simp only [List.map_cons, lv_args, pm_c_cat]
    by_cases hc : v.category = 2
    · rw [if_pos hc] at h ⊢
      match j, h with
      | 0, h =>
        simp at h
        subst h
        exact List.mem_cons_self
      | 1, h =>
        simp at h
        exact absurd h.symm (hu 0)
      | j + 2, h =>
        refine List.mem_cons_of_mem _ ?_
        have := ih (i + 2) j u (by simpa [pm_sl] using h) hu
        rwa [show i + 2 + j = i + (j + 2) by omega] at this
    · rw [if_neg hc] at h ⊢
      match j, h with
      | 0, h =>
        simp at h
        subst h
        exact List.mem_cons_self
      | j + 1, h =>
        refine List.mem_cons_of_mem _ ?_
        have := ih (i + 1) j u (by simpa [pm_sl] using h) hu
        rwa [show i + 1 + j = i + (j + 1) by omega] at this
theorem pm_en_len {vs : List Value} {n : Nat} (h : (pm_sl vs).length ≤ n) : (pm_en vs n).length = n := by
  simp [pm_en]; omega
theorem pm_L_entry {ρ : Nat → Nat} {vs : List Value} {n : Nat} (h : (pm_sl vs).length ≤ n) : pm_L ρ ((lg_sl (vs.map (pm_c ρ)) ++ List.replicate (n - (lg_sl (vs.map (pm_c ρ))).length) Slot.unset).toArray) (pm_en vs n) := by
  obtain ⟨h1, h2, h3⟩ := lv_entry (vs.map (pm_c ρ)) (n := n) (by rw [pm_sl_len]; exact h)
  refine ⟨by rw [h1, pm_en_len h], h2, fun j u hj hu => ?_⟩
  unfold pm_en at hj
  rw [List.getElem?_append] at hj
  split at hj
  · have := pm_args_mem (ρ := ρ) vs 0 j u hj hu
    rw [Nat.zero_add] at this
    exact h3 _ this
  · rw [List.getElem?_replicate] at hj
    split at hj
    · cases hj
      exact absurd rfl (hu 0)
    · cases hj
end
section
/-! WHAT THE TABLES MUST SAY OF AN INSTRUCTION: at pc of method m the bytes decode to what the pure machine does there -/
section AD
variable (P : pm_P) (tbl : List Jvm.Cond) (yN : Nat → MethodName) (byt : Nat → ByteArray) (rT : Nat → Option FieldType) (fr lo : Nat → Nat) (cl : List vw_C) (strs : List (String × Nat × Nat)) (nst : List Jvm.Cond)
def pm_tk : FieldType → Nat
  | .int => 0
  | .long => 1
  | .boolean => 3
  | .object _ => 2
  | .array _ => 2
  | _ => 77
def pm_rk : Option FieldType → Nat
  | none => 0
  | some .int => 1
  | some .long => 2
  | some (.object _) => 3
  | some (.array _) => 3
  | some .boolean => 4
  | _ => 77
/-- a class of the table -/
def pm_Cls (c : Nat) (C : String) (T : u_T) (N : Nat) (ty : Nat → FieldType) : Prop :=
  cl[c]? = some (C, T, N) ∧ N = pm_nf P c ∧ (∀ w ∈ u_ws C T N, w ∈ tbl) ∧ (∀ k, k < N → parseFieldDescriptor (T k).2.2.1 = some (ty k)) ∧ (∀ a, a < N → ∀ b, b < N → a ≠ b → (T a).2.1 ≠ (T b).2.1) ∧ ∀ k, k < N → (pm_fty P c k = pm_tk (ty k) ∧ pm_tk (ty k) < 4)
/-- a field's link -/
def pm_fl (own : String) (i c k : Nat) : Prop := ∃ (C : String) (T : u_T) (N : Nat) (ty : Nat → FieldType), pm_Cls P tbl cl c C T N ty ∧ k < N ∧ k < 64 ∧
  (Jvm.Cond.fieldLink own i (T k).1 (T k).2.1 (T k).2.2.1 ∈ tbl ∨ ∃ host, Jvm.Cond.fieldLinkNest own i (T k).1 (T k).2.1 (T k).2.2.1 host ∈ nst)
/-- a field's link, for writing -/
def pm_fp (own nm : String) (i c k : Nat) : Prop := ∃ (C : String) (T : u_T) (N : Nat) (ty : Nat → FieldType), pm_Cls P tbl cl c C T N ty ∧ k < N ∧ k < 64 ∧
  (((T k).2.2.2 = false ∧ (Jvm.Cond.fieldLink own i (T k).1 (T k).2.1 (T k).2.2.1 ∈ tbl ∨ ∃ host, Jvm.Cond.fieldLinkNest own i (T k).1 (T k).2.1 (T k).2.2.1 host ∈ nst)) ∨
   ((T k).2.2.2 = true ∧ nm = "<init>" ∧ (T k).1 = own ∧ Jvm.Cond.fieldLink own i (T k).1 (T k).2.1 (T k).2.2.1 ∈ tbl))
/-- a call's link -/
def pm_lk1 (own : String) (i k : Nat) : Prop := Jvm.Cond.methodLink own i (yN k) ∈ tbl ∨ ∃ host, Jvm.Cond.methodLinkNest own i (yN k) host ∈ nst
/-- what a call wants of its method -/
def pm_cl1 (m k n : Nat) : Prop := Jvm.Cond.initialized (yN k).cls ∈ tbl ∧ Jvm.Cond.code (yN k) (byt k) (pm_mxl P k) (rT k) ∈ tbl ∧ ((yN k).cls ≠ "java/lang/invoke/MethodHandle" ∧ (yN k).cls ≠ "java/lang/invoke/VarHandle" ∧ (parseMethodDescriptor (yN k).desc).map (fun d => d.parameters.length) = some n) ∧
  0 < k ∧ fr k + 1 ≤ fr m ∧ 8 + (pm_mxl P k + 11) + lo k ≤ lo m
/-- what holds of every method that is called or walked -/
def pm_me (k : Nat) : Prop := plainFor (yN k) = true ∧ pm_ret P k = pm_rk (rT k)
def pm_Ad (m pc : Nat) (x : pm_I) (nx : Nat) : Prop := match x with
  | .inl v => (∃ (n : Int), decode (byt m) pc = .ok (.iconst n, 1) ∧ v = .int (Int32.ofInt n) ∧ nx = pc + 1) ∨
      (∃ (n : Int), decode (byt m) pc = .ok (.bipush n, 2) ∧ v = .int (Int8.ofInt n).toInt32 ∧ nx = pc + 2) ∨
      (∃ (n : Int), decode (byt m) pc = .ok (.sipush n, 3) ∧ v = .int (Int16.ofInt n).toInt32 ∧ nx = pc + 3) ∨
      (∃ (n : Fin 2), decode (byt m) pc = .ok (.lconst n, 1) ∧ v = .long (Int64.ofNat (n : Nat)) ∧ nx = pc + 1) ∨
      (decode (byt m) pc = .ok (.aconst_null, 1) ∧ v = .null ∧ nx = pc + 1) ∨
      (∃ (i : Nat) (z : Int32), decode (byt m) pc = .ok (.ldc i, 2) ∧ v = .int z ∧ nx = pc + 2 ∧ Jvm.Cond.constant (yN m).cls i z ∈ tbl) ∨
      (∃ (i : Nat) (z : Int32), decode (byt m) pc = .ok (.ldc_w i, 3) ∧ v = .int z ∧ nx = pc + 3 ∧ Jvm.Cond.constant (yN m).cls i z ∈ tbl) ∨
      (∃ (i : Nat) (z : Int64), decode (byt m) pc = .ok (.ldc2_w i, 3) ∧ v = .long z ∧ nx = pc + 3 ∧ Jvm.Cond.constantLong (yN m).cls i z ∈ tbl) ∨
      (∃ (i j : Nat), decode (byt m) pc = .ok (.ldc i, 2) ∧ v = .ref (100000 + j) ∧ nx = pc + 2 ∧ ((yN m).cls, i, j) ∈ strs) ∨
      (∃ (i j : Nat), decode (byt m) pc = .ok (.ldc_w i, 3) ∧ v = .ref (100000 + j) ∧ nx = pc + 3 ∧ ((yN m).cls, i, j) ∈ strs)
  | .inr i => match i with
    | .iload k => (∃ n : Fin 4, decode (byt m) pc = .ok (.iload_n n, 1) ∧ (n : Nat) = k ∧ nx = pc + 1) ∨ (decode (byt m) pc = .ok (.iload k, 2) ∧ nx = pc + 2)
    | .lload k => (∃ n : Fin 4, decode (byt m) pc = .ok (.lload_n n, 1) ∧ (n : Nat) = k ∧ nx = pc + 1) ∨ (decode (byt m) pc = .ok (.lload k, 2) ∧ nx = pc + 2)
    | .aload k => (∃ n : Fin 4, decode (byt m) pc = .ok (.aload_n n, 1) ∧ (n : Nat) = k ∧ nx = pc + 1) ∨ (decode (byt m) pc = .ok (.aload k, 2) ∧ nx = pc + 2)
    | .istore k => (∃ n : Fin 4, decode (byt m) pc = .ok (.istore_n n, 1) ∧ (n : Nat) = k ∧ nx = pc + 1) ∨ (decode (byt m) pc = .ok (.istore k, 2) ∧ nx = pc + 2)
    | .lstore k => (∃ n : Fin 4, decode (byt m) pc = .ok (.lstore_n n, 1) ∧ (n : Nat) = k ∧ nx = pc + 1) ∨ (decode (byt m) pc = .ok (.lstore k, 2) ∧ nx = pc + 2)
    | .astore k => (∃ n : Fin 4, decode (byt m) pc = .ok (.astore_n n, 1) ∧ (n : Nat) = k ∧ nx = pc + 1) ∨ (decode (byt m) pc = .ok (.astore k, 2) ∧ nx = pc + 2)
    | .iinc k n => decode (byt m) pc = .ok (.iinc k n, 3) ∧ nx = pc + 3
    | .goto t => ∃ (o : Int) (u : Nat), decode (byt m) pc = .ok (.goto o, 3) ∧ t = (u : Int) ∧ (pc : Int) + o = (u : Int)
    | .ifCond c t => ∃ (o : Int) (u : Nat), decode (byt m) pc = .ok (.ifCond c o, 3) ∧ t = (u : Int) ∧ (pc : Int) + o = (u : Int) ∧ nx = pc + 3
    | .if_icmp c t => ∃ (o : Int) (u : Nat), decode (byt m) pc = .ok (.if_icmp c o, 3) ∧ t = (u : Int) ∧ (pc : Int) + o = (u : Int) ∧ nx = pc + 3
    | .ifnull t => ∃ (o : Int) (u : Nat), decode (byt m) pc = .ok (.ifnull o, 3) ∧ t = (u : Int) ∧ (pc : Int) + o = (u : Int) ∧ nx = pc + 3
    | .ifnonnull t => ∃ (o : Int) (u : Nat), decode (byt m) pc = .ok (.ifnonnull o, 3) ∧ t = (u : Int) ∧ (pc : Int) + o = (u : Int) ∧ nx = pc + 3
    | .tableswitch d a b ts => ∃ (o : Int) (u len : Nat) (os : Array Int), decode (byt m) pc = .ok (.tableswitch o a b os, len) ∧ d = (u : Int) ∧ (pc : Int) + o = (u : Int) ∧ ts = os.map (fun z => (pc : Int) + z) ∧ ∀ z ∈ os, 0 ≤ (pc : Int) + z
    | .lookupswitch d qs => ∃ (o : Int) (u len : Nat) (ps : Array (Int × Int)), decode (byt m) pc = .ok (.lookupswitch o ps, len) ∧ d = (u : Int) ∧ (pc : Int) + o = (u : Int) ∧ qs = ps.map (fun z => (z.1, (pc : Int) + z.2)) ∧ (∀ z ∈ ps, 0 ≤ (pc : Int) + z.2) ∧ (ps.toList.zip (ps.toList.drop 1)).all (fun (a, next) => a.1 < next.1) = true
    | .getfield n => ∃ (j : Nat), decode (byt m) pc = .ok (.getfield j, 3) ∧ nx = pc + 3 ∧ pm_fl P tbl cl nst (yN m).cls j (n / 64) (n % 64)
    | .putfield n => ∃ (j : Nat), decode (byt m) pc = .ok (.putfield j, 3) ∧ nx = pc + 3 ∧ pm_fp P tbl cl nst (yN m).cls (yN m).name j (n / 64) (n % 64)
    | .caload => m = 0 ∧ decode (byt m) pc = .ok (.arraylength, 1) ∧ nx = pc + 1
    | .saload => m = 0 ∧ decode (byt m) pc = .ok (.iaload, 1) ∧ nx = pc + 1
    | .new c => ∃ (j : Nat) (C : String) (T : u_T) (N : Nat) (ty : Nat → FieldType), decode (byt m) pc = .ok (.new j, 3) ∧ nx = pc + 3 ∧ pm_Cls P tbl cl c C T N ty ∧ Jvm.Cond.classLink (yN m).cls j C ∈ tbl ∧ Jvm.Cond.instantiable C N ∈ tbl ∧ Jvm.Cond.initialized C ∈ tbl
    | .newarray t => decode (byt m) pc = .ok (.newarray t, 2) ∧ nx = pc + 2 ∧ Jvm.Cond.arrayClass (newarray.typeOf t) ∈ tbl
    | .anewarray c => ∃ (j : Nat) (C : String) (T : u_T) (N : Nat), decode (byt m) pc = .ok (.anewarray j, 3) ∧ nx = pc + 3 ∧ cl[c]? = some (C, T, N) ∧ Jvm.Cond.classLink (yN m).cls j C ∈ tbl ∧ Jvm.Cond.arrayOver (.object C) ∈ nst
    | .invokestatic k => nx = pc + 3 ∧ ((k = 9000 ∧ ∃ j, decode (byt m) pc = .ok (.invokestatic j, 3) ∧ Jvm.Cond.methodLink (yN m).cls j arraycopyName ∈ tbl ∧ Jvm.Cond.native arraycopyName ∈ tbl ∧ Jvm.Cond.static arraycopyName ∈ tbl ∧ Jvm.Cond.initialized "java/lang/System" ∈ tbl ∧ 1 ≤ fr m ∧ 8 + (nativeFrameWords "java/lang/System" "arraycopy" 5 + 11) ≤ lo m) ∨
        (k < 9000 ∧ ∃ j, decode (byt m) pc = .ok (.invokestatic j, 3) ∧ pm_lk1 tbl yN nst (yN m).cls j k ∧ pm_cl1 P tbl yN byt rT fr lo m k (pm_nar P k) ∧ Jvm.Cond.static (yN k) ∈ tbl ∧ pm_me P yN rT k))
    | .invokespecial k => nx = pc + 3 ∧ ((k = 9003 ∧ ∃ j, decode (byt m) pc = .ok (.invokespecial j, 3) ∧ Jvm.Cond.methodLink (yN m).cls j objectInit ∈ tbl ∧ Jvm.Cond.instanceMethod objectInit ∈ tbl ∧ Jvm.Cond.code objectInit ⟨#[0xb1]⟩ 1 none ∈ tbl ∧ 1 ≤ fr m ∧ 20 ≤ lo m) ∨
        (k < 9000 ∧ ∃ j, decode (byt m) pc = .ok (.invokespecial j, 3) ∧ pm_lk1 tbl yN nst (yN m).cls j k ∧ pm_cl1 P tbl yN byt rT fr lo m k (pm_nar P k - 1) ∧ Jvm.Cond.instanceMethod (yN k) ∈ tbl ∧ (yN k).name = "<init>" ∧ rT k = none ∧ pm_me P yN rT k))
    | .invokevirtual k => nx = pc + 3 ∧ ((9000 < k ∧ k < 9003 ∧ ∃ j, decode (byt m) pc = .ok (.invokevirtual j, 3) ∧ Jvm.Cond.methodLink (yN m).cls j (yN k) ∈ tbl ∧ pm_cl1 P tbl yN byt rT fr lo m k (k - 9001) ∧ Jvm.Cond.instanceMethod (yN k) ∈ tbl ∧ Jvm.Cond.selects (yN k).cls (yN k) (yN k) ∈ tbl ∧ (yN k).cls = "java/lang/String") ∨
        (k < 9000 ∧ ∃ j, decode (byt m) pc = .ok (.invokevirtual j, 3) ∧ pm_lk1 tbl yN nst (yN m).cls j k ∧ pm_cl1 P tbl yN byt rT fr lo m k (pm_nar P k - 1) ∧ Jvm.Cond.instanceMethod (yN k) ∈ tbl ∧ Jvm.Cond.selects (yN k).cls (yN k) (yN k) ∈ tbl ∧ (∃ (T : u_T) (N : Nat), cl[pm_rcv P k]? = some ((yN k).cls, T, N)) ∧ pm_me P yN rT k))
    | i => decode (byt m) pc = .ok (i, 1) ∧ nx = pc + 1
end AD
end
section
/-! ONE STEP OF THE REAL MACHINE FOR ONE OF THE PURE ONE: locals, stack, branches -/
section SMA
variable {P : pm_P} {tbl : List Jvm.Cond} {yN : Nat → MethodName} {byt : Nat → ByteArray} {rT : Nat → Option FieldType} {fr lo : Nat → Nat} {cl : List vw_C} {strs : List (String × Nat × Nat)} {nst : List Jvm.Cond} {ρ : Nat → Nat}
variable {p : Program} {l : Launch} {e : Env} {R : Room} {s : State} {mi : MethodId} {args : Array Value} {below : List Frame} {meth : Method} {c : Code} {H : Heap} {locs : List Loc} {cells slots : Nat} {Q : State → Prop}
variable {m pc nx : Nat} {i : Instr} {lv st : List Value} {ls : Array Slot}
set_option maxHeartbeats 4000000 in
theorem sm_lo {lv' st' : List Value} (hx : p.tables.exec = Jvm.exec) (hb : c.code = byt m) (ad : pm_Ad P tbl yN byt rT fr lo cl strs nst m pc (.inr i) nx) (hL : pm_L ρ ls lv) (h : pm_lo i lv st = some (lv', st'))
    (kk : ∀ ls' : Array Slot, pm_L ρ ls' lv' → W p l e R s mi args below meth c H locs cells slots Q (F0 mi nx ls' (st'.map (pm_c ρ)))) : W p l e R s mi args below meth c H locs cells slots Q (F0 mi pc ls (st.map (pm_c ρ))) := by
  unfold pm_lo at h
  split at h
  · rename_i k
    split at h
    · rename_i x hv
      cases h
      have hl := hL.2.2 k (.int x) hv (by simp)
      rcases ad with ⟨n, hd, hn, rfl⟩ | ⟨hd, rfl⟩
      · exact lv_iload_n hx hb hd hn hl (kk ls hL)
      · exact lv_iload hx hb hd hl (kk ls hL)
    · cases h
  · rename_i k
    split at h
    · rename_i x hv
      cases h
      have hl := hL.2.2 k (.long x) hv (by simp)
      rcases ad with ⟨n, hd, hn, rfl⟩ | ⟨hd, rfl⟩
      · exact lv_lload_n hx hb hd hn hl (kk ls hL)
      · exact lv_lload hx hb hd hl (kk ls hL)
    · cases h
  · rename_i k
    split at h
    · rename_i x hv
      cases h
      have hl := hL.2.2 k (.ref x) hv (by simp)
      rcases ad with ⟨n, hd, hn, rfl⟩ | ⟨hd, rfl⟩
      · exact lv_aload_n hx hb hd hn hl (kk ls hL)
      · exact lv_aload hx hb hd hl (kk ls hL)
    · rename_i hv
      cases h
      have hl := hL.2.2 k .null hv (by simp)
      rcases ad with ⟨n, hd, hn, rfl⟩ | ⟨hd, rfl⟩
      · exact lv_aload_nN hx hb hd hn hl (kk ls hL)
      · exact lv_aloadN hx hb hd hl (kk ls hL)
    · cases h
  · rename_i k
    split at h
    · rename_i x r
      split at h
      · rename_i hk
        cases h
        rcases ad with ⟨n, hd, hn, rfl⟩ | ⟨hd, rfl⟩
        · exact lv_istore_n hx hb hd hn (pm_L_has hL) hk rfl (fun ls' h' => kk ls' (pm_L_st1 (v := .int x) h'))
        · exact lv_istore hx hb hd (pm_L_has hL) hk rfl (fun ls' h' => kk ls' (pm_L_st1 (v := .int x) h'))
      · cases h
    · cases h
  · rename_i k
    split at h
    · rename_i x r
      split at h
      · rename_i hk
        cases h
        rcases ad with ⟨n, hd, hn, rfl⟩ | ⟨hd, rfl⟩
        · exact lv_lstore_n hx hb hd hn (pm_L_has hL) hk rfl (fun ls' h' => kk ls' (pm_L_st2 (v := .long x) h'))
        · exact lv_lstore hx hb hd (pm_L_has hL) hk rfl (fun ls' h' => kk ls' (pm_L_st2 (v := .long x) h'))
      · cases h
    · cases h
  · rename_i k
    split at h
    · rename_i x r
      split at h
      · rename_i hk
        cases h
        rcases ad with ⟨n, hd, hn, rfl⟩ | ⟨hd, rfl⟩
        · exact lv_astore_n hx hb hd hn (pm_L_has hL) hk rfl (fun ls' h' => kk ls' (pm_L_st1 (v := .ref x) h'))
        · exact lv_astore hx hb hd (pm_L_has hL) hk rfl (fun ls' h' => kk ls' (pm_L_st1 (v := .ref x) h'))
      · cases h
    · rename_i r
      split at h
      · rename_i hk
        cases h
        rcases ad with ⟨n, hd, hn, rfl⟩ | ⟨hd, rfl⟩
        · exact lv_astore_nN hx hb hd hn (pm_L_has hL) hk rfl (fun ls' h' => kk ls' (pm_L_st1 (v := .null) h'))
        · exact lv_astoreN hx hb hd (pm_L_has hL) hk rfl (fun ls' h' => kk ls' (pm_L_st1 (v := .null) h'))
      · cases h
    · cases h
  · rename_i k n
    split at h
    · rename_i x hv
      cases h
      obtain ⟨hd, rfl⟩ := ad
      have hm : (k, Value.int x) ∈ pm_ll ρ lv := pm_ll_mem.mpr ⟨.int x, hv, by simp, rfl⟩
      obtain ⟨q, hq⟩ := List.getElem?_of_mem hm
      exact lv_iinc hx hb hd (pm_L_has hL) hq rfl (List.getElem?_eq_some_iff.mp hv).1 rfl (fun ls' h' => kk ls' (pm_L_st1 (v := .int (x + Int32.ofInt n)) h'))
    · cases h
  · cases h
set_option maxHeartbeats 4000000 in
theorem sm_ar {st' : List Value} (hx : p.tables.exec = Jvm.exec) (hb : c.code = byt m) (ad : pm_Ad P tbl yN byt rT fr lo cl strs nst m pc (.inr i) nx) (h : pm_ar i st = some st')
    (kk : W p l e R s mi args below meth c H locs cells slots Q (F0 mi nx ls (st'.map (pm_c ρ)))) : W p l e R s mi args below meth c H locs cells slots Q (F0 mi pc ls (st.map (pm_c ρ))) := by
  unfold pm_ar at h
  split at h
  · split at h
    · cases h; obtain ⟨hd, rfl⟩ := ad; exact lv_iadd hx hb hd kk
    · cases h
  · split at h
    · cases h; obtain ⟨hd, rfl⟩ := ad; exact lv_isub hx hb hd kk
    · cases h
  · split at h
    · cases h; obtain ⟨hd, rfl⟩ := ad; exact lv_imul hx hb hd kk
    · cases h
  · split at h
    · cases h; obtain ⟨hd, rfl⟩ := ad; exact lv_iand hx hb hd kk
    · cases h
  · split at h
    · cases h; obtain ⟨hd, rfl⟩ := ad; exact lv_ixor hx hb hd kk
    · cases h
  · split at h
    · split at h
      · cases h
      · rename_i h0; cases h; obtain ⟨hd, rfl⟩ := ad; exact lv_idiv hx hb hd h0 kk
    · cases h
  · split at h
    · split at h
      · cases h
      · rename_i h0; cases h; obtain ⟨hd, rfl⟩ := ad; exact lv_irem hx hb hd h0 kk
    · cases h
  · split at h
    · cases h; obtain ⟨hd, rfl⟩ := ad; exact lv_ineg hx hb hd kk
    · cases h
  · split at h
    · cases h; obtain ⟨hd, rfl⟩ := ad; exact lv_ishr hx hb hd kk
    · cases h
  · split at h
    · cases h; obtain ⟨hd, rfl⟩ := ad; exact lv_ladd hx hb hd kk
    · cases h
  · split at h
    · cases h; obtain ⟨hd, rfl⟩ := ad; exact lv_lsub hx hb hd kk
    · cases h
  · split at h
    · cases h; obtain ⟨hd, rfl⟩ := ad; exact lv_lmul hx hb hd kk
    · cases h
  · split at h
    · cases h; obtain ⟨hd, rfl⟩ := ad; exact lv_land hx hb hd kk
    · cases h
  · split at h
    · split at h
      · cases h
      · rename_i h0; cases h; obtain ⟨hd, rfl⟩ := ad; exact lv_ldiv hx hb hd h0 kk
    · cases h
  · split at h
    · split at h
      · cases h
      · rename_i h0; cases h; obtain ⟨hd, rfl⟩ := ad; exact lv_lrem hx hb hd h0 kk
    · cases h
  · split at h
    · cases h; obtain ⟨hd, rfl⟩ := ad; exact lv_lshr hx hb hd rfl kk
    · cases h
  · split at h
    · cases h; obtain ⟨hd, rfl⟩ := ad; exact W.lcmp hx hb hd kk
    · cases h
  · split at h
    · cases h; obtain ⟨hd, rfl⟩ := ad; exact lv_i2l hx hb hd rfl kk
    · cases h
  · split at h
    · cases h; obtain ⟨hd, rfl⟩ := ad; exact lv_l2i hx hb hd rfl kk
    · cases h
  · split at h
    · cases h; obtain ⟨hd, rfl⟩ := ad; exact lv_i2b hx hb hd rfl kk
    · cases h
  · split at h
    · split at h
      · rename_i h0; cases h; obtain ⟨hd, rfl⟩ := ad; exact lv_dup hx hb hd (by rw [pm_c_cat]; exact h0) kk
      · cases h
    · cases h
  · split at h
    · split at h
      · rename_i h0; cases h; obtain ⟨hd, rfl⟩ := ad; exact lv_pop hx hb hd (by rw [pm_c_cat]; exact h0) kk
      · cases h
    · cases h
  · split at h
    · rename_i v r
      split at h
      · rename_i h0; cases h; obtain ⟨hd, rfl⟩ := ad; exact lv_dup2_2 hx hb hd (by rw [pm_c_cat]; exact h0) kk
      · rename_i h0
        split at h
        · split at h
          · rename_i h1; cases h; obtain ⟨hd, rfl⟩ := ad
            exact lv_dup2_11 hx hb hd (by rw [pm_c_cat]; rcases lv_cat v with q | q; exact q; exact absurd q h0) (by rw [pm_c_cat]; exact h1) kk
          · cases h
        · cases h
    · cases h
  · cases h
theorem pm_lk_map {pc : Nat} {ps : List (Int × Int)} {d x : Int} : pm_lk (ps.map fun z => (z.1, (pc : Int) + z.2)) ((pc : Int) + d) x = (pc : Int) + Op.lookupswitch.offset ps d x := by
  induction ps with
  | nil => rfl
  | cons z r ih =>
    obtain ⟨k, o⟩ := z
    rw [List.map_cons, pm_lk, Op.lookupswitch.offset]
    by_cases h : x = k
    · subst h; simp
    · rw [if_neg h, ih]
      have h' : ¬ k = x := fun q => h q.symm
      simp [h, h']
theorem pm_lk_in {ps : List (Int × Int)} {d x : Int} : Op.lookupswitch.offset ps d x = d ∨ ∃ z ∈ ps, Op.lookupswitch.offset ps d x = z.2 := by
  induction ps with
  | nil => exact Or.inl rfl
  | cons z r ih =>
    obtain ⟨k, o⟩ := z
    rw [Op.lookupswitch.offset]
    by_cases h : x = k
    · subst h
      exact Or.inr ⟨(x, o), List.mem_cons_self, by simp⟩
    · have h' : ¬ k = x := fun q => h q.symm
      rcases ih with q | ⟨z, q1, q2⟩
      · exact Or.inl (by simpa [h, h'] using q)
      · exact Or.inr ⟨z, List.mem_cons_of_mem _ q1, by simpa [h, h'] using q2⟩
set_option maxHeartbeats 4000000 in
theorem sm_br {pc' : Nat} {st' : List Value} (hx : p.tables.exec = Jvm.exec) (hb : c.code = byt m) (ad : pm_Ad P tbl yN byt rT fr lo cl strs nst m pc (.inr i) nx) (h : pm_br i nx st = some (pc', st'))
    (kk : W p l e R s mi args below meth c H locs cells slots Q (F0 mi pc' ls (st'.map (pm_c ρ)))) : W p l e R s mi args below meth c H locs cells slots Q (F0 mi pc ls (st.map (pm_c ρ))) := by
  unfold pm_br at h
  split at h
  · cases h
    obtain ⟨o, u, hd, rfl, ht⟩ := ad
    exact lv_goto hx hb hd ht kk
  · rename_i cc t
    split at h
    · rename_i x r
      cases h
      obtain ⟨o, u, hd, rfl, ht, rfl⟩ := ad
      cases cc
      · exact lv_if_eq hx hb hd ht (fun q => by simpa [pm_cmp, q] using kk) (fun q => by simpa [pm_cmp, q] using kk)
      · exact lv_if_ne hx hb hd ht (fun q => by simpa [pm_cmp, q] using kk) (fun q => by simpa [pm_cmp, q] using kk)
      · exact lv_if_lt hx hb hd ht (fun q => by simpa [pm_cmp, q] using kk) (fun q => by simpa [pm_cmp, q] using kk)
      · exact lv_if_ge hx hb hd ht (fun q => by simpa [pm_cmp, q] using kk) (fun q => by simpa [pm_cmp, q] using kk)
      · exact lv_if_gt hx hb hd ht (fun q => by simpa [pm_cmp, q] using kk) (fun q => by simpa [pm_cmp, q] using kk)
      · exact lv_if_le hx hb hd ht (fun q => by simpa [pm_cmp, q] using kk) (fun q => by simpa [pm_cmp, q] using kk)
    · cases h
  · rename_i cc t
    split at h
    · rename_i y x r
      cases h
      obtain ⟨o, u, hd, rfl, ht, rfl⟩ := ad
      cases cc
      · exact lv_icmp_eq hx hb hd ht (fun q => by simpa [pm_cmp, q] using kk) (fun q => by simpa [pm_cmp, q] using kk)
      · exact lv_icmp_ne hx hb hd ht (fun q => by simpa [pm_cmp, q] using kk) (fun q => by simpa [pm_cmp, q] using kk)
      · exact lv_icmp_lt hx hb hd ht (fun q => by simpa [pm_cmp, q] using kk) (fun q => by simpa [pm_cmp, q] using kk)
      · exact lv_icmp_ge hx hb hd ht (fun q => by simpa [pm_cmp, q] using kk) (fun q => by simpa [pm_cmp, q] using kk)
      · exact lv_icmp_gt hx hb hd ht (fun q => by simpa [pm_cmp, q] using kk) (fun q => by simpa [pm_cmp, q] using kk)
      · exact lv_icmp_le hx hb hd ht (fun q => by simpa [pm_cmp, q] using kk) (fun q => by simpa [pm_cmp, q] using kk)
    · cases h
  · split at h
    · cases h
      obtain ⟨o, u, hd, rfl, ht, rfl⟩ := ad
      exact lv_ifnullN hx hb hd ht kk
    · cases h
      obtain ⟨o, u, hd, rfl, ht, rfl⟩ := ad
      exact lv_ifnull hx hb hd kk
    · cases h
  · split at h
    · cases h
      obtain ⟨o, u, hd, rfl, ht, rfl⟩ := ad
      exact lv_ifnonnullN hx hb hd kk
    · cases h
      obtain ⟨o, u, hd, rfl, ht, rfl⟩ := ad
      exact lv_ifnonnull hx hb hd ht kk
    · cases h
  · split at h
    · rename_i x r
      obtain ⟨o, u, len, os, hd, rfl, ht, rfl, hall⟩ := ad
      split at h
      · rename_i hq
        cases h
        exact lv_tableOut hx hb hd hq ht kk
      · rename_i hq
        split at h
        · rename_i t ho
          cases h
          rw [Array.getElem?_map] at ho
          obtain ⟨z, hz, rfl⟩ := Option.map_eq_some_iff.mp ho
          have h0 := hall z (Array.mem_of_getElem? hz)
          exact lv_tableIn hx hb hd (fun q => hq (Or.inl q)) (fun q => hq (Or.inr q)) hz (tgt := ((pc : Int) + z).toNat) (by omega) kk
        · cases h
    · cases h
  · split at h
    · rename_i x r
      obtain ⟨o, u, len, ps, hd, rfl, ht, rfl, hall, hp⟩ := ad
      cases h
      rw [Array.toList_map, ← ht, pm_lk_map] at kk
      have h0 : 0 ≤ (pc : Int) + Op.lookupswitch.offset ps.toList o x.toInt := by
        rcases pm_lk_in (ps := ps.toList) (d := o) (x := x.toInt) with q | ⟨z, q1, q2⟩
        · rw [q, ht]; exact Int.natCast_nonneg u
        · rw [q2]; exact hall z (Array.mem_toList_iff.mp q1)
      exact lv_lookup hx hb hd hp rfl (tgt := ((pc : Int) + Op.lookupswitch.offset ps.toList o x.toInt).toNat) (by omega) kk
    · cases h
  · cases h
end SMA
end
section
/-! ONE STEP: the heap -/
def pm_ft (cl : List vw_C) : Nat → FieldType
  | 0 => .int
  | 1 => .long
  | 2 => .byte
  | 3 => .boolean
  | t + 4 => .object ((cl[t]?).getD ("", fun _ => ("", "", "", false), 0)).1
theorem pm_in_vp {i : Int32} {n : Nat} (h : pm_in i n = true) : vp_in i n := by
  unfold pm_in at h
  unfold vp_in
  intro q
  rcases q with q | q
  · simp [q] at h
  · simp [q] at h
theorem pm_E_congr {P : pm_P} {tA : Nat → ClassId} {ρ : Nat → Nat} {h h' : pm_H} {b : Nat} (h1 : h'.1 b = h.1 b) (h2 : h'.2.1 b = h.2.1 b) (h3 : h'.2.2.1 b = h.2.2.1 b) : pm_E P tA ρ h' b = pm_E P tA ρ h b := by
  unfold pm_E pm_g
  simp only [h1, h2, h3]
theorem pm_u_ne {α : Type} {f : Nat → Nat → α} {a k b : Nat} {x : α} (h : b ≠ a) : pm_u f a k x b = f b := by
  funext j
  simp [pm_u, h]
theorem pm_r_ne {α : Type} {f : Nat → Nat → α} {a b : Nat} {g : Nat → α} (h : b ≠ a) : pm_r f a g b = f b := by
  funext j
  simp [pm_r, h]
theorem pm_u_eq {α : Type} {f : Nat → Nat → α} {a k : Nat} {x : α} : pm_u f a k x a = fun j => if j = k then x else f a j := by
  funext j
  simp [pm_u]
theorem pm_r_eq {α : Type} {f : Nat → Nat → α} {a : Nat} {g : Nat → α} : pm_r f a g a = g := by
  funext j
  simp [pm_r]
/-- what a written place leaves as it was, and what it holds -/
theorem pm_p_spec {t : Nat} {h h' : pm_H} {a k : Nat} {v : Value} (e : pm_p t h a k v = some h') : h'.2.2.2 = h.2.2.2 ∧ pm_g t h' a k = v ∧ (∀ j, j ≠ k → ∀ t', pm_g t' h' a j = pm_g t' h a j) ∧ (∀ b, b ≠ a → h'.1 b = h.1 b ∧ h'.2.1 b = h.2.1 b ∧ h'.2.2.1 b = h.2.2.1 b) ∧ ∀ ty, pm_tk ty = t → ∀ ρ, narrow ty (pm_c ρ v) = pm_c ρ v ∧ fits ty (pm_c ρ v) = true := by
  unfold pm_p at e
  split at e
  · rename_i x
    split at e
    · cases e
      refine ⟨rfl, by simp [pm_g, pm_u_eq], fun j hj t' => ?_, fun b hb => ⟨pm_u_ne hb, rfl, rfl⟩, fun ty ht ρ => ?_⟩
      · unfold pm_g; split <;> simp [pm_u_eq, hj]
      · cases ty <;> simp [pm_tk] at ht
        exact ⟨rfl, rfl⟩
    · split at e
      · rename_i hx
        cases e
        refine ⟨rfl, by simp [pm_g, pm_u_eq], fun j hj t' => ?_, fun b hb => ⟨pm_u_ne hb, rfl, rfl⟩, fun ty ht ρ => ?_⟩
        · unfold pm_g; split <;> simp [pm_u_eq, hj]
        · cases ty <;> simp [pm_tk] at ht
          rcases hx with rfl | rfl <;> exact ⟨rfl, rfl⟩
      · cases e
    · cases e
  · split at e
    · rename_i ht0
      cases e
      subst ht0
      refine ⟨rfl, by simp [pm_g, pm_u_eq], fun j hj t' => ?_, fun b hb => ⟨rfl, pm_u_ne hb, rfl⟩, fun ty ht ρ => ?_⟩
      · unfold pm_g; split <;> simp [pm_u_eq, hj]
      · cases ty <;> simp [pm_tk] at ht
        exact ⟨rfl, rfl⟩
    · cases e
  · split at e
    · rename_i ht0
      cases e
      subst ht0
      refine ⟨rfl, by simp [pm_g, pm_u_eq, va_rf], fun j hj t' => ?_, fun b hb => ⟨rfl, rfl, pm_u_ne hb⟩, fun ty ht ρ => ?_⟩
      · unfold pm_g; split <;> simp [pm_u_eq, hj]
      · cases ty <;> simp [pm_tk] at ht <;> exact ⟨rfl, rfl⟩
    · cases e
  · split at e
    · rename_i ht0
      cases e
      subst ht0
      refine ⟨rfl, by simp [pm_g, pm_u_eq, va_rf], fun j hj t' => ?_, fun b hb => ⟨rfl, rfl, pm_u_ne hb⟩, fun ty ht ρ => ?_⟩
      · unfold pm_g; split <;> simp [pm_u_eq, hj]
      · cases ty <;> simp [pm_tk] at ht <;> exact ⟨rfl, rfl⟩
    · cases e
  · cases e
theorem pm_map_set {N k : Nat} {f g : Nat → Value} {v : Value} (hv : g k = v) (ho : ∀ j, j ≠ k → g j = f j) : ((List.range N).map f).set k v = (List.range N).map g := by
  apply List.ext_getElem?
  intro j
  rw [List.getElem?_set]
  by_cases e : k = j
  · subst e
    simp only [if_true, List.length_map, List.length_range, List.getElem?_map, List.getElem?_range]
    by_cases h : k < N
    · simp [h, hv]
    · simp [h]
  · rw [if_neg e]
    simp only [List.getElem?_map]
    by_cases h : j < N
    · simp [h, ho j (fun q => e q.symm)]
    · simp [h]
theorem pm_sh_spec {P : pm_P} {h : pm_H} {a : Nat} {x : pm_S} (e : pm_sh P h a = some x) : a < h.2.2.2 ∧ pm_shp P a = some x := by
  unfold pm_sh at e
  split at e
  · exact ⟨by assumption, e⟩
  · cases e
theorem pm_Z_of {h h' : pm_H} (hz : pm_Z h) {a : Nat} (ha : a < h.2.2.2) (hn : h'.2.2.2 = h.2.2.2) (ho : ∀ b, b ≠ a → h'.1 b = h.1 b ∧ h'.2.1 b = h.2.1 b ∧ h'.2.2.1 b = h.2.2.1 b) : pm_Z h' := by
  intro b k hb
  have hne : b ≠ a := by omega
  obtain ⟨h1, h2, h3⟩ := ho b hne
  rw [h1, h2, h3]
  exact hz b k (by omega)
section SMH
variable {P : pm_P} {tbl : List Jvm.Cond} {yN : Nat → MethodName} {byt : Nat → ByteArray} {rT : Nat → Option FieldType} {fr lo : Nat → Nat} {cl : List vw_C} {strs : List (String × Nat × Nat)} {nst : List Jvm.Cond} {ρ : Nat → Nat} {tA : Nat → ClassId} {base : Nat} {D : va_G} {tys : List (ClassId × FieldType)}
variable {p : Program} {l : Launch} {e : Env} {R : Room} {s : State} {mi : MethodId} {args : Array Value} {below : List Frame} {meth : Method} {c : Code} {H : Heap} {locs : List Loc} {cells slots : Nat} {Q : State → Prop}
variable {m pc nx : Nat} {i : Instr} {lv st : List Value} {ls : Array Slot} {h : pm_H}
set_option maxHeartbeats 4000000 in
theorem sm_he {st' : List Value} {h' : pm_H} (hx : p.tables.exec = Jvm.exec) (hb : c.code = byt m) (hml : c.maxLocals = ls.size) (hown : s.vm.findClass (yN m).cls = some mi.cls) (hname : meth.name = (yN m).name) (hts : ∀ w ∈ tbl, w.before args s = true) (hnst : ∀ w ∈ nst, w.before args s = true) (hK : va_K D cl tys s)
    (hty : ∀ (a t n : Nat), pm_shp P a = some (.inr (t, n)) → ∃ t0 : Nat, tys[t0]? = some (tA t, pm_ft cl t)) (hρ : ∀ a, a < 99999 → ρ a = base + a) (hR : R.frames = fr m ∧ R.locals = lo m)
    (hscr : i = .caload ∨ i = .saload → ∃ L xs, va_X (ρ 99999) L xs s s.heap ∧ ρ 99999 < base ∧ ρ 99999 < s.heap.size ∧ L = (pm_scr P).length ∧ ∀ j, j < L → xs j = (pm_scr P).getD j 0)
    (ad : pm_Ad P tbl yN byt rT fr lo cl strs nst m pc (.inr i) nx) (hrel : pm_Rel P tA ρ base D cl h H) (hS : va_S (fun q : Nat => base ≤ q) s.heap H locs) (hnt : i ≠ .invokevirtual 9001 ∧ i ≠ .invokevirtual 9002) (hh : pm_he P i st h = some (st', h'))
    (kk : ∀ (H' : Heap) (locs' : List Loc), pm_Rel P tA ρ base D cl h' H' → va_S (fun q : Nat => base ≤ q) s.heap H' locs' → W p l e R s mi args below meth c H' locs' cells slots Q (F0 mi nx ls (st'.map (pm_c ρ)))) : W p l e R s mi args below meth c H locs cells slots Q (F0 mi pc ls (st.map (pm_c ρ))) := by
  obtain ⟨hP, hn9, hZ⟩ := id hrel
  have hD := pm_D (P := P) (tA := tA) (h := h) hρ hn9
  unfold pm_he at hh
  split at hh
  · -- getfield
    rename_i n
    split at hh
    · rename_i a r
      split at hh
      · rename_i hsh
        cases hh
        obtain ⟨ha, hs⟩ := pm_sh_spec hsh
        obtain ⟨j, hd, rfl, C, T, N, ty, ⟨hc, hN, hin, hty0, hnm, hft⟩, hk, -, hl⟩ := ad
        have he : (pm_w P tA ρ h)[a]? = some (ρ a, .inr (n / 64, (List.range (pm_nf P (n / 64))).map fun k => pm_c ρ (pm_g (pm_fty P (n / 64) k) h a k))) := by
          rw [pm_w_get ha]; simp only [pm_E, hs]
        have hv : ((List.range (pm_nf P (n / 64))).map fun k => pm_c ρ (pm_g (pm_fty P (n / 64) k) h a k))[n % 64]? = some (pm_c ρ (pm_g (pm_fty P (n / 64) (n % 64)) h a (n % 64))) := by
          rw [← hN]; simp [hk]
        rcases hl with hl | ⟨host, hl⟩
        · exact va_get hx hb hts hin hown hK hP a he hc (n % 64) hk (hts _ hl) (fun _ q => q) hv hd (kk H locs hrel hS)
        · exact va_getN hx hb hts hin hown hK hP a he hc (n % 64) hk (hnst _ hl) (fun _ q => q) hv hd (kk H locs hrel hS)
      · cases hh
    · cases hh
  · -- putfield
    rename_i n
    split at hh
    · rename_i v a r
      split at hh
      · rename_i hsh
        obtain ⟨h1, hp1, hp2⟩ := Option.map_eq_some_iff.mp hh
        cases hp2
        obtain ⟨ha, hs⟩ := pm_sh_spec hsh
        obtain ⟨j, hd, rfl, C, T, N, ty, ⟨hc, hN, hin, hty0, hnm, hft⟩, hk, -, hl⟩ := ad
        obtain ⟨q1, q2, q3, q4, q5⟩ := pm_p_spec hp1
        obtain ⟨q6, q7⟩ := q5 (ty (n % 64)) (hft _ hk).1.symm ρ
        have he : (pm_w P tA ρ h)[a]? = some (ρ a, .inr (n / 64, (List.range (pm_nf P (n / 64))).map fun k => pm_c ρ (pm_g (pm_fty P (n / 64) k) h a k))) := by
          rw [pm_w_get ha]; simp only [pm_E, hs]
        have hset : (pm_w P tA ρ h).set a (ρ a, .inr (n / 64, ((List.range (pm_nf P (n / 64))).map fun k => pm_c ρ (pm_g (pm_fty P (n / 64) k) h a k)).set (n % 64) (pm_c ρ v))) = pm_w P tA ρ h' := by
          refine pm_w_set q1 ?_ (fun b hb9 => pm_E_congr (q4 b hb9).1 (q4 b hb9).2.1 (q4 b hb9).2.2)
          simp only [pm_E, hs]
          rw [pm_map_set (f := fun k => pm_c ρ (pm_g (pm_fty P (n / 64) k) h a k)) (g := fun k => pm_c ρ (pm_g (pm_fty P (n / 64) k) h' a k)) (by show pm_c ρ _ = _; rw [q2]) (fun j9 hj9 => by show pm_c ρ _ = pm_c ρ _; rw [q3 j9 hj9])]
        have fin : ∀ (H1 : Heap) (locs1 : List Loc), va_P D cl ((pm_w P tA ρ h).set a (ρ a, .inr (n / 64, ((List.range (pm_nf P (n / 64))).map fun k => pm_c ρ (pm_g (pm_fty P (n / 64) k) h a k)).set (n % 64) (pm_c ρ v)))) H1 → va_S (fun q : Nat => base ≤ q) s.heap H1 locs1 → W p l e R s mi args below meth c H1 locs1 cells slots Q (F0 mi (pc + 3) ls (st'.map (pm_c ρ))) := by
          intro H1 locs1 hP1 hS1
          rw [hset] at hP1
          exact kk H1 locs1 ⟨hP1, by rw [q1]; exact hn9, pm_Z_of hZ ha q1 q4⟩ hS1
        have hlen : n % 64 < ((List.range (pm_nf P (n / 64))).map fun k => pm_c ρ (pm_g (pm_fty P (n / 64) k) h a k)).length := by rw [← hN]; simp [hk]
        rcases hl with ⟨hf, hl⟩ | ⟨hf, hi0, hdc, hl⟩
        · rcases hl with hl | ⟨host, hl⟩
          · exact va_put hx hb hts hin ty hty0 hnm hown hK hP hD hS a he hc (n % 64) hk (hts _ hl) (fun _ q => q) hf (hty0 _ hk) q6 q7 hlen hd (fun H1 locs1 hP1 hD1 hS1 => fin H1 locs1 hP1 hS1)
          · exact va_putN hx hb hts hin ty hty0 hnm hown hK hP hD hS a he hc (n % 64) hk (hnst _ hl) (fun _ q => q) hf (hty0 _ hk) q6 q7 hlen hd (fun H1 locs1 hP1 hD1 hS1 => fin H1 locs1 hP1 hS1)
        · exact va_putF hx hb hts hin ty hty0 hnm hown hK hP hD hS a he hc (n % 64) hk (hts _ hl) (fun _ q => q) hf (hname.trans hi0) hdc (hty0 _ hk) q6 q7 hlen hd (fun H1 locs1 hP1 hD1 hS1 => fin H1 locs1 hP1 hS1)
      · cases hh
    · cases hh
  · -- arraylength
    split at hh
    · rename_i a r
      split at hh
      · rename_i t n hsh
        cases hh
        obtain ⟨ha, hs⟩ := pm_sh_spec hsh
        obtain ⟨hd, rfl⟩ := ad
        obtain ⟨t0, ht⟩ := hty a t n hs
        have he : ∃ x : vp_A, (pm_w P tA ρ h)[a]? = some (ρ a, .inl (tA t, x)) ∧ x.1 = n := by
          rw [pm_w_get ha]
          match t, hs with
          | 0, hs => exact ⟨(n, _), by simp only [pm_E, hs]; rfl, rfl⟩
          | 1, hs => exact ⟨(n, _), by simp only [pm_E, hs]; rfl, rfl⟩
          | 2, hs => exact ⟨(n, _), by simp only [pm_E, hs]; rfl, rfl⟩
          | 3, hs => exact ⟨(n, _), by simp only [pm_E, hs]; rfl, rfl⟩
          | t + 4, hs => exact ⟨(n, _), by simp only [pm_E, hs]; rfl, rfl⟩
        obtain ⟨x, he, hxn⟩ := he
        exact va_alen hx hb hK hP a t0 he ht (by rw [hxn]) hd (kk H locs hrel hS)
      · cases hh
    · cases hh
  · -- iaload
    split at hh
    · rename_i j a r
      split at hh
      · rename_i n hsh
        split at hh
        · rename_i hj
          cases hh
          obtain ⟨ha, hs⟩ := pm_sh_spec hsh
          obtain ⟨hd, rfl⟩ := ad
          obtain ⟨t0, ht⟩ := hty a 0 n hs
          have he : (pm_w P tA ρ h)[a]? = some (ρ a, .inl (tA 0, n, .inl (h.1 a))) := by rw [pm_w_get ha]; simp only [pm_E, hs]
          exact va_iald hx hb hK hP a t0 he ht (pm_in_vp hj) hd (kk H locs hrel hS)
        · cases hh
      · cases hh
    · cases hh
  · -- baload
    split at hh
    · rename_i j a r
      split at hh
      · rename_i n hsh
        split at hh
        · rename_i hj
          cases hh
          obtain ⟨ha, hs⟩ := pm_sh_spec hsh
          obtain ⟨hd, rfl⟩ := ad
          obtain ⟨t0, ht⟩ := hty a 2 n hs
          have he : (pm_w P tA ρ h)[a]? = some (ρ a, .inl (tA 2, n, .inl (h.1 a))) := by rw [pm_w_get ha]; simp only [pm_E, hs]
          exact va_bald hx hb hK hP a t0 he ht (pm_in_vp hj) hd (kk H locs hrel hS)
        · cases hh
      · rename_i n hsh
        split at hh
        · rename_i hj
          cases hh
          obtain ⟨ha, hs⟩ := pm_sh_spec hsh
          obtain ⟨hd, rfl⟩ := ad
          obtain ⟨t0, ht⟩ := hty a 3 n hs
          have he : (pm_w P tA ρ h)[a]? = some (ρ a, .inl (tA 3, n, .inl (h.1 a))) := by rw [pm_w_get ha]; simp only [pm_E, hs]
          exact va_zald hx hb hK hP a t0 he ht (pm_in_vp hj) hd (kk H locs hrel hS)
        · cases hh
      · cases hh
    · cases hh
  · -- laload
    split at hh
    · rename_i j a r
      split at hh
      · rename_i n hsh
        split at hh
        · rename_i hj
          cases hh
          obtain ⟨ha, hs⟩ := pm_sh_spec hsh
          obtain ⟨hd, rfl⟩ := ad
          obtain ⟨t0, ht⟩ := hty a 1 n hs
          have he : (pm_w P tA ρ h)[a]? = some (ρ a, .inl (tA 1, n, .inr (.inl (h.2.1 a)))) := by rw [pm_w_get ha]; simp only [pm_E, hs]
          exact va_lald hx hb hK hP a t0 he ht (pm_in_vp hj) hd (kk H locs hrel hS)
        · cases hh
      · cases hh
    · cases hh
  · -- aaload
    split at hh
    · rename_i j a r
      split at hh
      · rename_i t n hsh
        split at hh
        · rename_i hj
          cases hh
          obtain ⟨ha, hs⟩ := pm_sh_spec hsh
          obtain ⟨hd, rfl⟩ := ad
          obtain ⟨t0, ht⟩ := hty a (t + 4) n hs
          have he : (pm_w P tA ρ h)[a]? = some (ρ a, .inl (tA (t + 4), n, .inr (.inr (.inr (.inr fun i => (h.2.2.1 a i).map ρ))))) := by rw [pm_w_get ha]; simp only [pm_E, hs]
          have kk1 := kk H locs hrel hS
          rw [List.map_cons, pm_c_rf] at kk1
          exact va_aldq hx hb hK hP a t0 he ht (pm_in_vp hj) hd kk1
        · cases hh
      · cases hh
    · cases hh
  · -- iastore
    split at hh
    · rename_i x j a r
      split at hh
      · rename_i n hsh
        split at hh
        · rename_i hj
          cases hh
          obtain ⟨ha, hs⟩ := pm_sh_spec hsh
          obtain ⟨hd, rfl⟩ := ad
          obtain ⟨t0, ht⟩ := hty a 0 n hs
          have he : (pm_w P tA ρ h)[a]? = some (ρ a, .inl (tA 0, n, .inl (h.1 a))) := by rw [pm_w_get ha]; simp only [pm_E, hs]
          refine va_iast hx hb hK hP hD hS a t0 he ht (pm_in_vp hj) hd (fun H1 locs1 hP1 hD1 hS1 => ?_)
          have hset : (pm_w P tA ρ h).set a (ρ a, .inl (tA 0, n, .inl (upd (h.1 a) j.toNatClampNeg x))) = pm_w P tA ρ (pm_sI h a j.toNatClampNeg x) := by
            refine pm_w_set rfl ?_ (fun b hb9 => pm_E_congr (pm_u_ne hb9) rfl rfl)
            simp only [pm_E, hs, pm_u_eq]
            rfl
          rw [hset] at hP1
          exact kk H1 locs1 ⟨hP1, hn9, pm_Z_of hZ ha rfl (fun b hb9 => ⟨pm_u_ne hb9, rfl, rfl⟩)⟩ hS1
        · cases hh
      · cases hh
    · cases hh
  · -- bastore
    split at hh
    · rename_i x j a r
      split at hh
      · rename_i n hsh
        split at hh
        · rename_i hj
          cases hh
          obtain ⟨ha, hs⟩ := pm_sh_spec hsh
          obtain ⟨hd, rfl⟩ := ad
          obtain ⟨t0, ht⟩ := hty a 2 n hs
          have he : (pm_w P tA ρ h)[a]? = some (ρ a, .inl (tA 2, n, .inl (h.1 a))) := by rw [pm_w_get ha]; simp only [pm_E, hs]
          refine va_bast hx hb hK hP hD hS a t0 he ht (pm_in_vp hj) hd (fun H1 locs1 hP1 hD1 hS1 => ?_)
          have hset : (pm_w P tA ρ h).set a (ρ a, .inl (tA 2, n, .inl (upd (h.1 a) j.toNatClampNeg (vp_nar .byte x)))) = pm_w P tA ρ (pm_sI h a j.toNatClampNeg (vp_nar .byte x)) := by
            refine pm_w_set rfl ?_ (fun b hb9 => pm_E_congr (pm_u_ne hb9) rfl rfl)
            simp only [pm_E, hs, pm_u_eq]
            rfl
          rw [hset] at hP1
          exact kk H1 locs1 ⟨hP1, hn9, pm_Z_of hZ ha rfl (fun b hb9 => ⟨pm_u_ne hb9, rfl, rfl⟩)⟩ hS1
        · cases hh
      · rename_i n hsh
        split at hh
        · rename_i hj
          cases hh
          obtain ⟨ha, hs⟩ := pm_sh_spec hsh
          obtain ⟨hd, rfl⟩ := ad
          obtain ⟨t0, ht⟩ := hty a 3 n hs
          have he : (pm_w P tA ρ h)[a]? = some (ρ a, .inl (tA 3, n, .inl (h.1 a))) := by rw [pm_w_get ha]; simp only [pm_E, hs]
          refine va_zast hx hb hK hP hD hS a t0 he ht (pm_in_vp hj) hd (fun H1 locs1 hP1 hD1 hS1 => ?_)
          have hset : (pm_w P tA ρ h).set a (ρ a, .inl (tA 3, n, .inl (upd (h.1 a) j.toNatClampNeg (vp_nar .boolean x)))) = pm_w P tA ρ (pm_sI h a j.toNatClampNeg (vp_nar .boolean x)) := by
            refine pm_w_set rfl ?_ (fun b hb9 => pm_E_congr (pm_u_ne hb9) rfl rfl)
            simp only [pm_E, hs, pm_u_eq]
            rfl
          rw [hset] at hP1
          exact kk H1 locs1 ⟨hP1, hn9, pm_Z_of hZ ha rfl (fun b hb9 => ⟨pm_u_ne hb9, rfl, rfl⟩)⟩ hS1
        · cases hh
      · cases hh
    · cases hh
  · -- lastore
    split at hh
    · rename_i x j a r
      split at hh
      · rename_i n hsh
        split at hh
        · rename_i hj
          cases hh
          obtain ⟨ha, hs⟩ := pm_sh_spec hsh
          obtain ⟨hd, rfl⟩ := ad
          obtain ⟨t0, ht⟩ := hty a 1 n hs
          have he : (pm_w P tA ρ h)[a]? = some (ρ a, .inl (tA 1, n, .inr (.inl (h.2.1 a)))) := by rw [pm_w_get ha]; simp only [pm_E, hs]
          refine va_last hx hb hK hP hD hS a t0 he ht (pm_in_vp hj) hd (fun H1 locs1 hP1 hD1 hS1 => ?_)
          have hset : (pm_w P tA ρ h).set a (ρ a, .inl (tA 1, n, .inr (.inl (vp_updL (h.2.1 a) j.toNatClampNeg x)))) = pm_w P tA ρ (pm_sL h a j.toNatClampNeg x) := by
            refine pm_w_set rfl ?_ (fun b hb9 => pm_E_congr rfl (pm_u_ne hb9) rfl)
            simp only [pm_E, hs, pm_u_eq]
            rfl
          rw [hset] at hP1
          exact kk H1 locs1 ⟨hP1, hn9, pm_Z_of hZ ha rfl (fun b hb9 => ⟨rfl, pm_u_ne hb9, rfl⟩)⟩ hS1
        · cases hh
      · cases hh
    · cases hh
  · -- aastore
    split at hh
    · rename_i x j a r
      split at hh
      · rename_i t n hsh
        split at hh
        · rename_i hj
          cases hh
          obtain ⟨ha, hs⟩ := pm_sh_spec hsh
          obtain ⟨hj, hshx⟩ := hj
          obtain ⟨hxa, hsx⟩ := pm_sh_spec hshx
          obtain ⟨hd, rfl⟩ := ad
          obtain ⟨t0, ht⟩ := hty a (t + 4) n hs
          have he : (pm_w P tA ρ h)[a]? = some (ρ a, .inl (tA (t + 4), n, .inr (.inr (.inr (.inr fun i => (h.2.2.1 a i).map ρ))))) := by rw [pm_w_get ha]; simp only [pm_E, hs]
          have hex : ∃ vs, (pm_w P tA ρ h)[x]? = some (ρ x, .inr (t, vs)) := ⟨_, by rw [pm_w_get hxa]; simp only [pm_E, hsx]; rfl⟩
          obtain ⟨vs, hex⟩ := hex
          obtain ⟨r0, hr0, -⟩ := hP x _ hex
          have ht' : tys[t0]? = some (tA (t + 4), .object r0.1) := by rw [ht]; simp only [pm_ft]; rw [show cl[t]? = some r0 from hr0]; rfl
          refine va_astq hx hb hK hP hD hS a t0 x t he ht' hex hr0 (pm_in_vp hj) hd (fun H1 locs1 hP1 hD1 hS1 => ?_)
          have hset : (pm_w P tA ρ h).set a (ρ a, .inl (tA (t + 4), n, .inr (.inr (.inr (.inr (va_up (fun i => (h.2.2.1 a i).map ρ) j.toNatClampNeg (some (ρ x)))))))) = pm_w P tA ρ (pm_sR h a j.toNatClampNeg (some x)) := by
            refine pm_w_set rfl ?_ (fun b hb9 => pm_E_congr rfl rfl (pm_u_ne hb9))
            simp only [pm_E, hs, pm_u_eq]
            congr 7
            funext q
            by_cases hq : q = j.toNatClampNeg <;> simp [va_up, hq]
          rw [hset] at hP1
          exact kk H1 locs1 ⟨hP1, hn9, pm_Z_of hZ ha rfl (fun b hb9 => ⟨rfl, rfl, pm_u_ne hb9⟩)⟩ hS1
        · cases hh
      · cases hh
    · cases hh
  · -- arraycopy
    rename_i n
    split at hh
    · rename_i hn
      subst hn
      split at hh
      · rename_i cn dp b sp a r
        split at hh
        · rename_i n0 n1 hsa hsb
          split at hh
          · rename_i hq
            cases hh
            obtain ⟨g1, g2, g3, g4, g5, g6⟩ := hq
            obtain ⟨ha, hs⟩ := pm_sh_spec hsa
            obtain ⟨hb1, hs1⟩ := pm_sh_spec hsb
            obtain ⟨rfl, hor⟩ := ad
            rcases hor with ⟨-, j, hd, w1, w2, w3, w4, w5, w6⟩ | ⟨h0, -⟩
            · obtain ⟨t0, ht⟩ := hty a 0 n0 hs
              obtain ⟨t1, ht1⟩ := hty b 0 n1 hs1
              have he : (pm_w P tA ρ h)[a]? = some (ρ a, .inl (tA 0, n0, .inl (h.1 a))) := by rw [pm_w_get ha]; simp only [pm_E, hs]
              have he1 : (pm_w P tA ρ h)[b]? = some (ρ b, .inl (tA 0, n1, .inl (h.1 b))) := by rw [pm_w_get hb1]; simp only [pm_E, hs1]
              refine va_copyi hx hb hml hown (hts _ w1) (hts _ w2) (hts _ w3) (hts _ w4) hK hP hD hS a b t0 t1 he he1 ht ht1 rfl g1 g2 g3 g4 g5 (fun _ _ => rfl) (by rw [hR.1]; exact w5) (by rw [hR.2, pm_c_sum]; omega) hd (fun H1 locs1 hP1 hD1 hS1 => ?_)
              have hset : (pm_w P tA ρ h).set b (ρ b, .inl (tA 0, n1, .inl (va_cpy (h.1 a) (h.1 b) sp.toNatClampNeg dp.toNatClampNeg cn.toNatClampNeg))) = pm_w P tA ρ (pm_sA h b (va_cpy (h.1 a) (h.1 b) sp.toNatClampNeg dp.toNatClampNeg cn.toNatClampNeg)) := by
                refine pm_w_set rfl ?_ (fun b hb9 => pm_E_congr (pm_r_ne hb9) rfl rfl)
                simp only [pm_E, hs1, pm_r_eq]
              rw [hset] at hP1
              exact kk H1 locs1 ⟨hP1, hn9, pm_Z_of hZ hb1 rfl (fun b hb9 => ⟨pm_r_ne hb9, rfl, rfl⟩)⟩ hS1
            · omega
          · cases hh
        · cases hh
      · cases hh
    · cases hh
  · -- Object.<init>
    rename_i n
    split at hh
    · rename_i hn
      subst hn
      split at hh
      · rename_i a r
        split at hh
        · rename_i hq
          cases hh
          obtain ⟨rfl, hor⟩ := ad
          rcases hor with ⟨-, j, hd, w1, w2, w3, w4, w5⟩ | ⟨h0, -⟩
          · exact W.objInit (g := F0 mi pc ls _) hx hb hown (hts _ w1) (hts _ w2) (hts _ w3) rfl hml.symm rfl hd (by rw [hR.1]; exact w4) (by rw [hR.2, pm_c_sum]; show 2 * 0 + _ + 12 ≤ _; omega) (kk H locs hrel hS)
          · omega
        · cases hh
      · cases hh
    · cases hh
  · -- texts
    split at hh
    · rename_i hn
      subst hn
      exact absurd rfl hnt.1
    · split at hh
      · rename_i hn
        subst hn
        exact absurd rfl hnt.2
      · cases hh
  · -- the script's length
    split at hh
    · rename_i a r
      split at hh
      · rename_i hn
        subst hn
        cases hh
        obtain ⟨-, hd, rfl⟩ := ad
        obtain ⟨L, xs, hX, hlb, hbl, hL, hxs⟩ := hscr (Or.inl rfl)
        have kk1 := kk H locs hrel hS
        rw [List.map_cons] at kk1 ⊢
        rw [show (pm_c ρ (.int (Int32.ofNat (pm_scr P).length))) = Value.int (Int32.ofNat L) by rw [hL]; rfl] at kk1
        exact va_slen hx hb hX hbl (by omega) hS hd kk1
      · cases hh
    · cases hh
  · -- an int of the script
    split at hh
    · rename_i j a r
      split at hh
      · rename_i hn
        obtain ⟨hn, hj⟩ := hn
        subst hn
        cases hh
        obtain ⟨-, hd, rfl⟩ := ad
        obtain ⟨L, xs, hX, hlb, hbl, hL, hxs⟩ := hscr (Or.inr rfl)
        have hin := pm_in_vp hj
        have kk1 := kk H locs hrel hS
        rw [List.map_cons] at kk1
        rw [show (pm_c ρ (.int ((pm_scr P).getD j.toNatClampNeg 0))) = Value.int (xs j.toNatClampNeg) by
          rw [hxs _ (by rw [hL]; exact Nat.not_le.mp fun q => hin (Or.inr q))]; rfl] at kk1
        exact va_sld hx hb hX hbl (by omega) hS (by rw [hL]; exact hin) hd kk1
      · cases hh
    · cases hh
  · cases hh
end SMH
end
section
/-! ONE STEP: cells are made; constants -/
theorem pm_w_push {P : pm_P} {tA : Nat → ClassId} {ρ : Nat → Nat} {h : pm_H} : pm_w P tA ρ (h.1, h.2.1, h.2.2.1, h.2.2.2 + 1) = pm_w P tA ρ h ++ [(ρ h.2.2.2, pm_E P tA ρ h h.2.2.2)] := by
  unfold pm_w
  simp only [List.range_succ, List.map_append, List.map_cons, List.map_nil]
  rfl
theorem pm_Z_push {h : pm_H} (hz : pm_Z h) : pm_Z (h.1, h.2.1, h.2.2.1, h.2.2.2 + 1) := fun a k ha => hz a k (Nat.le_of_succ_le ha)
section SML
variable {P : pm_P} {tbl : List Jvm.Cond} {yN : Nat → MethodName} {byt : Nat → ByteArray} {rT : Nat → Option FieldType} {fr lo : Nat → Nat} {cl : List vw_C} {strs : List (String × Nat × Nat)} {nst : List Jvm.Cond} {ρ : Nat → Nat} {tA : Nat → ClassId} {base : Nat} {D : va_G} {tys : List (ClassId × FieldType)}
variable {p : Program} {l : Launch} {e : Env} {R : Room} {s : State} {mi : MethodId} {args : Array Value} {below : List Frame} {meth : Method} {c : Code} {H : Heap} {locs : List Loc} {Q : State → Prop} {cs : Nat × Nat}
variable {m pc nx : Nat} {i : Instr} {lv st : List Value} {ls : Array Slot} {h : pm_H}
/-- a cell at the end -/
theorem sm_push {H1 : Heap} (hρ : ∀ a, a < 99999 → ρ a = base + a) (hrel : pm_Rel P tA ρ base D cl h H) (hS : va_S (fun q : Nat => base ≤ q) s.heap H locs) (hsz : H.size = base + h.2.2.2) (hn : h.2.2.2 < 99999)
    (o1 : ∀ q, q < H.size → H1[q]? = H[q]?) (z1 : H1.size = H.size + 1) (hat : va_at D cl (ρ h.2.2.2, pm_E P tA ρ h h.2.2.2) H1) : pm_Rel P tA ρ base D cl (h.1, h.2.1, h.2.2.1, h.2.2.2 + 1) H1 ∧ va_S (fun q : Nat => base ≤ q) s.heap H1 locs := by
  obtain ⟨hP, hn9, hZ⟩ := hrel
  refine ⟨⟨?_, by show h.2.2.2 + 1 ≤ _; omega, pm_Z_push hZ⟩, ⟨Nat.le_trans hS.1 (by omega), fun x h1 h2 => (o1 x (Nat.lt_of_lt_of_le h1 hS.1)).trans (hS.2.1 x h1 h2), hS.2.2⟩⟩
  rw [pm_w_push]
  have hk : ∀ (k : Nat) (x : Nat × va_E), (pm_w P tA ρ h)[k]? = some x → H1[x.1]? = H[x.1]? := fun k x hx => o1 x.1 ((hP k x hx).lt)
  refine (hP.kept hk).app (fun k x hx => ?_)
  have hz : k < 1 := (List.getElem?_eq_some_iff.mp hx).1
  rw [show k = 0 by omega] at hx
  cases hx
  exact hat
set_option maxHeartbeats 4000000 in
theorem sm_al {st' : List Value} {h' : pm_H} {cs' : Nat × Nat} (hx : p.tables.exec = Jvm.exec) (hb : c.code = byt m) (hown : s.vm.findClass (yN m).cls = some mi.cls) (hts : ∀ w ∈ tbl, w.before args s = true) (hnst : ∀ w ∈ nst, w.before args s = true) (hK : va_K D cl tys s)
    (hty : ∀ (a t n : Nat), pm_shp P a = some (.inr (t, n)) → ∃ t0 : Nat, tys[t0]? = some (tA t, pm_ft cl t)) (hρ : ∀ a, a < 99999 → ρ a = base + a) (hRc : R.cells = pm_mc P m ∧ R.slots = pm_ms P m)
    (ad : pm_Ad P tbl yN byt rT fr lo cl strs nst m pc (.inr i) nx) (hrel : pm_Rel P tA ρ base D cl h H) (hS : va_S (fun q : Nat => base ≤ q) s.heap H locs) (hsz : H.size = base + h.2.2.2) (hh : pm_al P m i st h cs = some (st', h', cs'))
    (kk : ∀ (H' : Heap), pm_Rel P tA ρ base D cl h' H' → va_S (fun q : Nat => base ≤ q) s.heap H' locs → W p l e R s mi args below meth c H' locs cs'.1 cs'.2 Q (F0 mi nx ls (st'.map (pm_c ρ)))) : W p l e R s mi args below meth c H locs cs.1 cs.2 Q (F0 mi pc ls (st.map (pm_c ρ))) := by
  obtain ⟨hP, hn9, hZ⟩ := id hrel
  have hz0 : h.1 h.2.2.2 = fun _ => 0 := funext fun k => (hZ h.2.2.2 k (Nat.le_refl _)).1
  have hz1 : h.2.1 h.2.2.2 = fun _ => 0 := funext fun k => (hZ h.2.2.2 k (Nat.le_refl _)).2.1
  have hz2 : h.2.2.1 h.2.2.2 = fun _ => none := funext fun k => (hZ h.2.2.2 k (Nat.le_refl _)).2.2
  unfold pm_al at hh
  split at hh
  · -- new
    rename_i cn
    split at hh
    · rename_i hq
      obtain ⟨hs, hc1, hc2, hn⟩ := hq
      cases hh
      obtain ⟨j, C, T, N, ty, hd, rfl, ⟨hc, hN, hin, hty0, hnm, hft⟩, w1, w2, w3⟩ := ad
      have hKn := hK.1 cn _ hc
      have hrn : ρ h.2.2.2 = H.size := by rw [hρ _ hn, hsz]
      refine W.newcK (g := F0 mi pc ls _) hx hb hown (hts _ w1) (hts _ w2) (hts _ w3) rfl hd (by rw [hRc.1]; exact hc1) (by rw [hRc.2, hN]; exact hc2) hKn.2.1 rfl fun H1 kC hkC e1 z1 o1 => ?_
      have hob := u_born ty hts hin hKn hkC e1 hty0
      obtain ⟨r1, r2⟩ := sm_push (H1 := H1) hρ hrel hS hsz hn o1 z1 (by
        simp only [pm_E, hs]
        refine ⟨_, hc, ?_⟩
        rw [hrn]
        refine hob.to (fun k hk => ?_)
        have hk' : k < pm_nf P cn := by rw [← hN]; exact hk
        simp only [vp_V, List.getD_eq_getElem?_getD, List.getElem?_map, List.getElem?_range hk', Option.map_some, Option.getD_some]
        obtain ⟨f1, f2⟩ := hft k hk
        rw [f1]
        revert f2
        cases ty k <;> intro f2 <;> first | (simp [pm_tk] at f2; done) | (simp [pm_tk, pm_g, hz0, hz1, hz2, defaultValue, pm_c, va_rf]; done))
      have := kk H1 r1 r2
      rw [List.map_cons, show pm_c ρ (.ref h.2.2.2) = Value.ref H.size from congrArg Value.ref hrn, ← hN] at this
      exact this
    · cases hh
  · -- newarray
    rename_i t
    split at hh
    · rename_i n r
      split at hh
      · rename_i hq
        obtain ⟨hs, ht4, hn0, hn6, hc1, hc2, hn⟩ := hq
        cases hh
        obtain ⟨hd, rfl, w1⟩ := ad
        have hrn : ρ h.2.2.2 = H.size := by rw [hρ _ hn, hsz]
        obtain ⟨t0, ht⟩ := hty _ _ _ hs
        refine va_newaK (g := F0 mi pc ls _) hx hb (hts _ w1) rfl hd rfl hn0 rfl ?_ (by rw [hRc.1]; exact hc1) (by rw [hRc.2]; exact hc2) rfl fun H1 cA e1 z1 o1 hAr hNm => ?_
        · cases t <;> simp only [newarray.typeOf, componentBytes] <;> omega
        · have hat : va_at D cl (ρ h.2.2.2, pm_E P tA ρ h h.2.2.2) H1 := by
            have hra := (hK.2 t0 _ ht).2
            cases t with
            | int =>
              simp only [pm_E, show pm_shp P h.2.2.2 = _ from hs, pm_at]
              show H1[ρ h.2.2.2]? = some (vp_cell (tA 0) (n.toNatClampNeg, Sum.inl (h.1 h.2.2.2)))
              have hA : tA 0 = cA := Option.some.inj ((show s.vm.findClass _ = some (tA 0) from hra).symm.trans hNm)
              rw [hrn, e1, hA, hz0]
              rfl
            | long =>
              simp only [pm_E, show pm_shp P h.2.2.2 = _ from hs, pm_at]
              show H1[ρ h.2.2.2]? = some (vp_cell (tA 1) (n.toNatClampNeg, Sum.inr (Sum.inl (h.2.1 h.2.2.2))))
              have hA : tA 1 = cA := Option.some.inj ((show s.vm.findClass _ = some (tA 1) from hra).symm.trans hNm)
              rw [hrn, e1, hA, hz1]
              rfl
            | byte =>
              simp only [pm_E, show pm_shp P h.2.2.2 = _ from hs, pm_at]
              show H1[ρ h.2.2.2]? = some (vp_cell (tA 2) (n.toNatClampNeg, Sum.inl (h.1 h.2.2.2)))
              have hA : tA 2 = cA := Option.some.inj ((show s.vm.findClass _ = some (tA 2) from hra).symm.trans hNm)
              rw [hrn, e1, hA, hz0]
              rfl
            | boolean =>
              simp only [pm_E, show pm_shp P h.2.2.2 = _ from hs, pm_at]
              show H1[ρ h.2.2.2]? = some (vp_cell (tA 3) (n.toNatClampNeg, Sum.inl (h.1 h.2.2.2)))
              have hA : tA 3 = cA := Option.some.inj ((show s.vm.findClass _ = some (tA 3) from hra).symm.trans hNm)
              rw [hrn, e1, hA, hz0]
              rfl
            | _ => exact absurd ht4 (by decide)
          obtain ⟨r1, r2⟩ := sm_push (H1 := H1) hρ hrel hS hsz hn o1 z1 hat
          have := kk H1 r1 r2
          rw [List.map_cons, show pm_c ρ (.ref h.2.2.2) = Value.ref H.size from congrArg Value.ref hrn] at this
          exact this
      · cases hh
    · cases hh
  · -- anewarray
    rename_i cn
    split at hh
    · rename_i n r
      split at hh
      · rename_i hq
        obtain ⟨hs, hn0, hn6, hc1, hc2, hn⟩ := hq
        cases hh
        obtain ⟨j, C, T, N, hd, rfl, hc, w1, w2⟩ := ad
        have hrn : ρ h.2.2.2 = H.size := by rw [hρ _ hn, hsz]
        obtain ⟨t0, ht⟩ := hty _ _ _ hs
        refine W.anew (g := F0 mi pc ls _) hx hb hown (hts _ w1) (hnst _ w2) rfl hd rfl hn0 (by omega) (by rw [hRc.1]; exact hc1) (by rw [hRc.2]; exact hc2) fun cA kA comp f1 f2 f3 f4 => ?_
        have hat : va_at D cl (ρ h.2.2.2, pm_E P tA ρ h h.2.2.2) (H.push { cls := cA, slots := Array.replicate n.toNatClampNeg .null, vm := .none }) := by
          have hra := (hK.2 t0 _ ht).2
          simp only [pm_ft, hc, Option.getD_some] at hra
          obtain ⟨kA', comp', g1, g2, g3, g4⟩ := hra
          have hA : tA (cn + 4) = cA := Option.some.inj (g4.symm.trans f1)
          simp only [pm_E, hs]
          show (H.push _)[ρ h.2.2.2]? = some (vp_cell (tA (cn + 4)) (n.toNatClampNeg, _))
          rw [hrn, hA, hz2]
          simp only [Array.getElem?_push_size, vp_cell, arrV]
          congr 2
          apply Array.ext
          · simp
          · intro q _ _
            simp [va_rf]
        obtain ⟨r1, r2⟩ := sm_push hρ hrel hS hsz hn (fun q hq => by simp [Array.getElem?_push, Nat.ne_of_lt hq]) (by simp) hat
        have := kk _ r1 r2
        rw [List.map_cons, show pm_c ρ (.ref h.2.2.2) = Value.ref H.size from congrArg Value.ref hrn] at this
        exact this
      · cases hh
    · cases hh
  · cases hh
/-- ldc_w of a text -/
theorem sm_ldcSw {cells slots : Nat} {rest : List Value} {cc : ByteArray} (hexec : p.tables.exec = Jvm.exec) (hb : c.code = cc) {own tx : String} {index q : Nat} (hown : s.vm.findClass own = some mi.cls) (hZ : vk_R own index tx q s) (hdg : decode cc pc = .ok (.ldc_w index, 3))
    (k : W p l e R s mi args below meth c H locs cells slots Q (F0 mi (pc + 3) ls (.ref q :: rest))) : W p l e R s mi args below meth c H locs cells slots Q (F0 mi pc ls rest) := by
  intro T hT X
  obtain ⟨t, a1, b1⟩ := k T hT X
  exact ⟨t, X.ldcStringW hexec hown (text := tx) (a := q) hZ.1 hZ.2 (g := F0 mi pc ls rest) rfl (by rw [hb]; exact hdg) t a1, b1⟩
theorem sm_c {v : Value} {cells slots : Nat} (hx : p.tables.exec = Jvm.exec) (hb : c.code = byt m) (hown : s.vm.findClass (yN m).cls = some mi.cls) (hts : ∀ w ∈ tbl, w.before args s = true) (hstr : ∀ q ∈ strs, ∃ tx, vk_R q.1 q.2.1 tx (ρ (100000 + q.2.2)) s)
    (ad : pm_Ad P tbl yN byt rT fr lo cl strs nst m pc (.inl v) nx) (kk : W p l e R s mi args below meth c H locs cells slots Q (F0 mi nx ls ((v :: st).map (pm_c ρ)))) : W p l e R s mi args below meth c H locs cells slots Q (F0 mi pc ls (st.map (pm_c ρ))) := by
  rcases ad with ⟨n, hd, rfl, rfl⟩ | ⟨n, hd, rfl, rfl⟩ | ⟨n, hd, rfl, rfl⟩ | ⟨n, hd, rfl, rfl⟩ | ⟨hd, rfl, rfl⟩ | ⟨i, z, hd, rfl, rfl, w⟩ | ⟨i, z, hd, rfl, rfl, w⟩ | ⟨i, z, hd, rfl, rfl, w⟩ | ⟨i, j, hd, rfl, rfl, w⟩ | ⟨i, j, hd, rfl, rfl, w⟩
  · exact lv_iconst hx hb hd rfl kk
  · exact lv_bipush hx hb hd rfl kk
  · exact lv_sipush hx hb hd rfl kk
  · exact lv_lconst hx hb hd rfl kk
  · exact lv_null hx hb hd kk
  · exact lv_ldc hx hb hown (hts _ w) hd kk
  · exact lv_ldcw hx hb hown (hts _ w) hd kk
  · exact lv_ldc2 hx hb hown (hts _ w) hd kk
  · obtain ⟨tx, hz⟩ := hstr _ w
    exact va_ldcS hx hb hown hz hd kk
  · obtain ⟨tx, hz⟩ := hstr _ w
    exact sm_ldcSw hx hb hown hz hd kk
end SML
end
section
/-! THE REAL MACHINE DOES WHAT THE PURE ONE DOES -/
theorem pm_run_v {P : pm_P} : ∀ {f m pc : Nat} {lv st : List Value} {h : pm_H} {cs : Nat × Nat} {v : List Value} {h' : pm_H}, pm_run P f m pc lv st h cs = some (v, h') → v.length ≤ 1 := by
  intro f
  induction f with
  | zero => intro m pc lv st h cs v h' e; simp [pm_run] at e
  | succ f ih =>
    intro m pc lv st h cs v h' e
    rw [pm_run] at e
    split at e
    · exact absurd e (by simp)
    · exact ih e
    · split at e
      · rename_i e1
        cases e
        unfold pm_re at e1
        repeat' split at e1
        all_goals first | (cases e1; simp; done) | (cases e1; done)
      · split at e
        · split at e
          · split at e
            · split at e
              · exact ih e
              · exact absurd e (by simp)
            · exact absurd e (by simp)
          · exact absurd e (by simp)
        · split at e
          · exact ih e
          · exact absurd e (by simp)
theorem pm_re_st {rt : Nat} {i : Instr} {st v : List Value} (e : pm_re rt i st = some v) : st = v := by
  unfold pm_re at e
  repeat' split at e
  all_goals first | (cases e; rfl; done) | (cases e; done)
def pm_rm (P : pm_P) (fr lo : Nat → Nat) (m : Nat) : Room := { frames := fr m, cells := pm_mc P m, slots := pm_ms P m, locals := lo m }
def pm_ws (P : pm_P) (tbl : List Jvm.Cond) (yN : Nat → MethodName) (byt : Nat → ByteArray) (rT : Nat → Option FieldType) (m : Nat) : List Jvm.Cond := .code (yN m) (byt m) (pm_mxl P m) (rT m) :: tbl
section SMS
variable {P : pm_P} {tbl : List Jvm.Cond} {yN : Nat → MethodName} {byt : Nat → ByteArray} {rT : Nat → Option FieldType} {fr lo : Nat → Nat} {cl : List vw_C} {strs : List (String × Nat × Nat)} {nst : List Jvm.Cond} {ρ : Nat → Nat} {tA : Nat → ClassId} {base : Nat} {D : va_G} {tys : List (ClassId × FieldType)}
variable {p : Program} {l : Launch} {e : Env} {R : Room} {s : State} {mi : MethodId} {args : Array Value} {below : List Frame} {meth : Method} {c : Code} {H : Heap} {locs : List Loc} {Q : State → Prop}
/-- how large the heap is at most -/
theorem sm_sz {cells slots : Nat} {g : JFrame} (k : s.heap.size ≤ H.size → H.size ≤ s.heap.size + cells → W p l e R s mi args below meth c H locs cells slots Q g) : W p l e R s mi args below meth c H locs cells slots Q g := by
  intro T hT X
  have h1 : s.heap.size ≤ T.heap.size := X.same.2.1
  have h2 : T.heap.size ≤ s.heap.size + cells := X.same.2.2.1
  rw [hT] at h1 h2
  exact k h1 h2 T hT X
theorem sm_low {h : pm_H} (hρ : ∀ a, a < 99999 → ρ a = base + a) (hrel : pm_Rel P tA ρ base D cl h H) (hb0 : base ≤ H.size) : base + h.2.2.2 ≤ H.size := by
  obtain ⟨hP, hn9, hZ⟩ := hrel
  by_cases hn : h.2.2.2 = 0
  · omega
  · have hlt := (hP (h.2.2.2 - 1) _ (pm_w_get (by omega))).lt
    have hr := hρ (h.2.2.2 - 1) (by omega)
    simp only [hr] at hlt
    omega
/-- behind a call -/
theorem sm_call {cells slots mc ms : Nat} {Qa : State → Outcome → State → Prop} {v rest st0 : List Value} {h' : pm_H} {pc : Nat} {ls : Array Slot} (hr : va_Run p l e R s mi args below meth c H locs cells slots mc ms (F0 mi pc ls st0) rest Qa (fun q : Nat => base ≤ q))
    (hQ : ∀ st₀ o t, Qa st₀ o t → st₀.heap = H → o = .returned ((v.map (pm_c ρ)).head?) ∧ pm_Rel P tA ρ base D cl h' t.heap ∧ va_F (fun q : Nat => base ≤ q) st₀ t) (hv : v.length ≤ 1) (hS : va_S (fun q : Nat => base ≤ q) s.heap H locs)
    (kk : ∀ (H1 : Heap) (locs1 : List Loc), pm_Rel P tA ρ base D cl h' H1 → va_S (fun q : Nat => base ≤ q) s.heap H1 locs1 → W p l e R s mi args below meth c H1 locs1 (cells + mc) (slots + ms) Q (F0 mi (pc + 3) ls (v.map (pm_c ρ) ++ rest))) : W p l e R s mi args below meth c H locs cells slots Q (F0 mi pc ls st0) := by
  intro T hT X
  obtain ⟨v', st₀, t, T', L, h0, X', hL, e1, e2, q, st⟩ := hr T hT X
  obtain ⟨hv', hrel, hz, hk⟩ := hQ _ _ _ q h0
  cases hv'
  rw [h0] at hz hk
  have hvl : ((v.map (pm_c ρ)).head?).toList = v.map (pm_c ρ) := by
    match v, hv with
    | [], _ => rfl
    | [x], _ => rfl
  obtain ⟨t2, a1, b1⟩ := kk T'.heap (locs ++ L) (by rw [e1]; exact hrel)
    ⟨Nat.le_trans hS.1 (by rw [e1]; exact hz), fun q h1 h2 => by rw [e1, hk q (Nat.lt_of_lt_of_le h1 hS.1) h2]; exact hS.2.1 q h1 h2, fun q hq => by
      rcases List.mem_append.mp hq with h | h
      · exact hS.2.2 q h
      · exact hL q h⟩ T' rfl X'
  rw [← hvl] at a1
  exact ⟨t2, st t2 a1, b1⟩
end SMS
/-- a contract out of a walk, of a method of any class for which the tables have no row of their own -/
theorem pm_ofW {l : Launch} {y : MethodName} {ws ws' : List Jvm.Cond} {rm : Room} {Pc : Array Value → State → Prop} {Qc : Array Value → State → Outcome → State → Prop} {mc ms : Nat} {free : Addr → Prop} {cc : ByteArray} {maxL : Nat} {ret : Option FieldType}
    (hy : plainFor y = true) (hw : ws = Jvm.Cond.code y cc maxL ret :: ws')
    (body : ∀ p e s m args below meth c s₁, BodyLoose p l y (headSpec ws rm) cc maxL ret e s m args below meth c s₁ → c.maxLocals = maxL → Pc args s →
      W p l e (headSpec ws rm).room s m args below meth c s.heap [] 0 0 (MQ below Qc args s mc ms free) (entryFrame m args maxL)) : Met l y ws rm Pc Qc mc ms free := by
  refine MetFree.of_bodySF (code := cc) (maxLocals := maxL) (ret := ret) hy ?_ ?_
  · intro args s m h hn
    obtain ⟨meth, c, h1, h2, h3, h4, h5, h6, -, -⟩ := Cond.code_spec hn (atoms_spec (ws := ws) h _ (by rw [hw]; exact List.mem_cons_self))
    exact ⟨meth, c, h1, h2, h3, h4, h5, h6⟩
  · intro p e s m args below meth c s₁ B hml hP _
    have hh0 : s₁.heap = s.heap := by rw [B.state]; rfl
    obtain ⟨t, a1, o, b1, b2, b3⟩ := body p e s m args below meth c s₁ B hml hP s₁ hh0 (Stand.of_body B)
    exact ⟨t, o, a1, b1, b2, ⟨b3.1, b3.2⟩⟩
end
section
section SMT
variable (P : pm_P) (tbl : List Jvm.Cond) (yN : Nat → MethodName) (byt : Nat → ByteArray) (rT : Nat → Option FieldType) (fr lo : Nat → Nat) (cl : List vw_C) (strs : List (String × Nat × Nat)) (nst : List Jvm.Cond) (ρ : Nat → Nat) (tA : Nat → ClassId) (base : Nat) (D : va_G) (tys : List (ClassId × FieldType)) (TT : State → Prop) (l : Launch)
def pm_Pc (as : List Value) (h : pm_H) : Array Value → State → Prop := va_Pc (as.map (pm_c ρ)) (fun U => U.heap.size = base + h.2.2.2 ∧ pm_Rel P tA ρ base D cl h U.heap ∧ va_K D cl tys U ∧ TT U)
def pm_Qc (v : List Value) (h' : pm_H) : Array Value → State → Outcome → State → Prop := fun _ st o t => o = .returned ((v.map (pm_c ρ)).head?) ∧ pm_Rel P tA ρ base D cl h' t.heap ∧ va_F (fun q : Nat => base ≤ q) st t
/-- what stands of the script at a method's start -/
def pm_X (s : State) : Prop := ∃ (L : Nat) (xs : Nat → Int32), va_X (ρ 99999) L xs s s.heap ∧ ρ 99999 < base ∧ ρ 99999 < s.heap.size ∧ L = (pm_scr P).length ∧ ∀ j, j < L → xs j = (pm_scr P).getD j 0
def pm_At (f : Nat) : Prop := ∀ (m : Nat) (p : Program) (e : Env) (s : State) (mi : MethodId) (args : Array Value) (below : List Frame) (meth : Method) (c : Code) (R : Room) (Q : State → Prop) (n0 : Nat) (v : List Value) (h' : pm_H),
  p.tables.exec = Jvm.exec → c.code = byt m → c.maxLocals = pm_mxl P m → s.vm.findClass (yN m).cls = some mi.cls → meth.name = (yN m).name → (∀ w ∈ tbl, w.before args s = true) → va_K D cl tys s → TT s → R = pm_rm P fr lo m → s.heap.size = base + n0 → (m = 0 → pm_X P ρ base s) →
  (∀ (pc nx : Nat) (i : Instr) (cells slots : Nat) (H : Heap) (locs : List Loc) (ls : Array Slot), pm_cod P m pc = some (.inr i, nx) → pm_re (pm_ret P m) i v = some v → pm_Rel P tA ρ base D cl h' H → va_S (fun q : Nat => base ≤ q) s.heap H locs → cells ≤ pm_mc P m → slots ≤ pm_ms P m → W p l e R s mi args below meth c H locs cells slots Q (F0 mi pc ls (v.map (pm_c ρ)))) →
  ∀ (pc : Nat) (lv st : List Value) (h : pm_H) (cs : Nat × Nat) (H : Heap) (locs : List Loc) (ls : Array Slot), pm_run P f m pc lv st h cs = some (v, h') → cs.1 ≤ pm_mc P m → cs.2 ≤ pm_ms P m → h.2.2.2 = n0 + cs.1 → pm_Rel P tA ρ base D cl h H → va_S (fun q : Nat => base ≤ q) s.heap H locs → pm_L ρ ls lv → lv.length = pm_mxl P m →
    W p l e R s mi args below meth c H locs cs.1 cs.2 Q (F0 mi pc ls (st.map (pm_c ρ)))
variable {P tbl yN byt rT fr lo cl strs nst ρ tA base D tys TT l}
set_option maxHeartbeats 4000000 in
theorem pm_met_of {f : Nat} (hAd : ∀ m pc x nx, pm_cod P m pc = some (x, nx) → pm_Ad P tbl yN byt rT fr lo cl strs nst m pc x nx) (hA : pm_At P tbl yN byt fr lo cl ρ tA base D tys TT l f) {m : Nat} {as v : List Value} {h h' : pm_H} (hm0 : 0 < m) (hme : pm_me P yN rT m)
    (hrun : pm_run P f m 0 (pm_en as (pm_mxl P m)) [] h (0, 0) = some (v, h')) (hlen : (pm_sl as).length ≤ pm_mxl P m) :
    Met l (yN m) (pm_ws P tbl yN byt rT m) (pm_rm P fr lo m) (pm_Pc P cl ρ tA base D tys TT as h) (pm_Qc P cl ρ tA base D v h') (pm_mc P m) (pm_ms P m) (fun q : Nat => base ≤ q) := by
  refine pm_ofW (cc := byt m) (maxL := pm_mxl P m) (ret := rT m) hme.1 rfl ?_
  intro p e s mi args below meth c s₁ B hml hv
  obtain ⟨rfl, hsz, hrel, hK, hT⟩ := hv
  have hx := B.exec
  have hb := B.bytes
  have hr := B.returns
  have hts := atoms_spec (ws := pm_ws P tbl yN byt rT m) B.pre
  have hown : s.vm.findClass (yN m).cls = some mi.cls := findClass_of_methodNamed B.named
  have hname : meth.name = (yN m).name := (name_of_methodNamed B.named B.method).1
  have hlocks := B.notSynchronized
  rw [lg_entry_eq]
  refine hA m p e s mi _ below meth c _ _ h.2.2.2 v h' hx hb hml hown hname (fun w hw => hts w (List.mem_cons_of_mem _ hw)) hK hT rfl hsz (fun q => by omega) ?_ 0 _ [] h (0, 0) s.heap [] _ hrun (Nat.zero_le _) (Nat.zero_le _) rfl hrel va_S.rf (pm_L_entry hlen) (pm_en_len hlen)
  intro pc nx i cells slots H locs ls hc hre hrel' hS hcl hsl
  refine W.widen hcl hsl ?_
  have ad := hAd _ _ _ _ hc
  have hq : ∀ t : State, t.heap = H → s.WarmedH t.vm → pm_Qc P cl ρ tA base D v h' (as.map (pm_c ρ)).toArray s (.returned ((v.map (pm_c ρ)).head?)) t := fun t ht hW => ⟨rfl, by rw [ht]; exact hrel', hS.F ht⟩
  have hrk := hme.2
  unfold pm_re at hre
  split at hre
  · split at hre
    · split at hre
      · rename_i h0
        obtain ⟨hd, -⟩ := ad
        have hr0 : rT m = none := by
          rw [h0] at hrk
          revert hrk
          cases hrt : rT m with
          | none => intro _; rfl
          | some t => cases t <;> simp [pm_rk]
        exact W.vret hx hb (by rw [hr, hr0]) hq hS.2.2 hd
      · cases hre
    · cases hre
  · split at hre
    · rename_i x
      split at hre
      · rename_i h0
        obtain ⟨hd, -⟩ := ad
        rcases h0 with h0 | ⟨h0, hx01⟩
        · have hr0 : rT m = some .int := by
            rw [h0] at hrk
            revert hrk
            cases hrt : rT m with
            | none => simp [pm_rk]
            | some t => cases t <;> simp [pm_rk]
          exact W.iret hx hb (by rw [hr, hr0]) hq hS.2.2 hd
        · have hr0 : rT m = some .boolean := by
            rw [h0] at hrk
            revert hrk
            cases hrt : rT m with
            | none => simp [pm_rk]
            | some t => cases t <;> simp [pm_rk]
          exact W.zret hx hb (by rw [hr, hr0]) (by rcases hx01 with rfl | rfl <;> rfl) hq hS.2.2 hd
      · cases hre
    · cases hre
  · split at hre
    · rename_i x
      split at hre
      · rename_i h0
        obtain ⟨hd, -⟩ := ad
        have hr0 : rT m = some .long := by
          rw [h0] at hrk
          revert hrk
          cases hrt : rT m with
          | none => simp [pm_rk]
          | some t => cases t <;> simp [pm_rk]
        exact W.lret hx hb (by rw [hr, hr0]) hq hS.2.2 hd
      · cases hre
    · cases hre
  · have key : pm_ret P m = 3 → ∃ rt, rT m = some rt ∧ ((∃ n, rt = .object n) ∨ ∃ t, rt = .array t) := by
      intro h0
      rw [h0] at hrk
      revert hrk
      cases hrt : rT m with
      | none => simp [pm_rk]
      | some t => cases t <;> simp [pm_rk]
    split at hre
    · rename_i x
      split at hre
      · rename_i h0
        obtain ⟨hd, -⟩ := ad
        obtain ⟨rt, hr0, hr1⟩ := key h0
        exact W.aret hx hb (by rw [hr, hr0]) hr1 (Or.inr ⟨_, rfl⟩) hq hS.2.2 hd
      · cases hre
    · split at hre
      · rename_i h0
        obtain ⟨hd, -⟩ := ad
        obtain ⟨rt, hr0, hr1⟩ := key h0
        exact W.aret hx hb (by rw [hr, hr0]) hr1 (Or.inl rfl) hq hS.2.2 hd
      · cases hre
    · cases hre
  · cases hre
end SMT
end
section
section SMU
variable {P : pm_P} {tbl : List Jvm.Cond} {yN : Nat → MethodName} {byt : Nat → ByteArray} {rT : Nat → Option FieldType} {fr lo : Nat → Nat} {cl : List vw_C} {strs : List (String × Nat × Nat)} {nst : List Jvm.Cond} {ρ : Nat → Nat} {tA : Nat → ClassId} {base : Nat} {D : va_G} {tys : List (ClassId × FieldType)} {TT : State → Prop} {l : Launch}
theorem pm_goodIn (hgood : ∀ w ∈ tbl, (w.onTables && w.keeps) = true ∨ ∃ ty, w = .arrayClass ty) {ws : List Jvm.Cond} (h : ∀ w ∈ ws, w ∈ tbl) : GoodIn tbl ws := fun w hw => ⟨h w hw, hgood w (h w hw)⟩
theorem pm_blind {as : List Value} {h : pm_H} (hT2 : ∀ (U : State) (g : JFrame) (mk : MethodId) (a : Array Value), TT U → TT (U.calling g mk a)) : FrameBlind (pm_Pc P cl ρ tA base D tys TT as h) := by
  intro a U g mk q
  obtain ⟨q0, q1, q2, q3, q4⟩ := q
  exact ⟨q0, q1, q2, va_K.moved (u := U) (U := U.calling g mk a) (Vm.Alike.refl U.vm) q3, hT2 U g mk a q4⟩
theorem pm_pre {s : State} {H : Heap} {locs : List Loc} {as : List Value} {h : pm_H} (hT1 : ∀ s U : State, TT s → s.WarmedH U.vm → (∀ q : Nat, q < s.heap.size → ¬ base ≤ q → U.heap[q]? = s.heap[q]?) → TT U) (hK : va_K D cl tys s) (hTs : TT s) (hsz : H.size = base + h.2.2.2) (hrel : pm_Rel P tA ρ base D cl h H) (hS : va_S (fun q : Nat => base ≤ q) s.heap H locs) :
    ∀ U : State, U.heap = H → s.WarmedH U.vm → pm_Pc P cl ρ tA base D tys TT as h (as.map (pm_c ρ)).toArray U := by
  intro U hU hW
  exact ⟨rfl, by rw [hU]; exact hsz, by rw [hU]; exact hrel, va_K.moved hW.alike hK, hT1 s U hTs hW (fun q h1 h2 => by rw [hU]; exact hS.2.1 q h1 h2)⟩
set_option maxHeartbeats 8000000 in
theorem pm_sim (hAd : ∀ m pc x nx, pm_cod P m pc = some (x, nx) → pm_Ad P tbl yN byt rT fr lo cl strs nst m pc x nx) (hgood : ∀ w ∈ tbl, (w.onTables && w.keeps) = true ∨ ∃ ty, w = .arrayClass ty)
    (hty : ∀ (a t n : Nat), pm_shp P a = some (.inr (t, n)) → ∃ t0 : Nat, tys[t0]? = some (tA t, pm_ft cl t)) (hρ : ∀ a, a < 99999 → ρ a = base + a)
    (hT1 : ∀ s U : State, TT s → s.WarmedH U.vm → (∀ q : Nat, q < s.heap.size → ¬ base ≤ q → U.heap[q]? = s.heap[q]?) → TT U) (hT2 : ∀ (U : State) (g : JFrame) (mk : MethodId) (a : Array Value), TT U → TT (U.calling g mk a))
    (hT3 : ∀ U, TT U → ∀ q ∈ strs, ∃ tx, vk_R q.1 q.2.1 tx (ρ (100000 + q.2.2)) U) (hT4 : ∀ U A, TT U → ∀ w ∈ nst, w.before A U = true)
    (hT5 : ∀ (s : State) (H : Heap) (j : Nat), TT s → 0 < (pm_txt P j).length → (∀ q : Nat, q < s.heap.size → ¬ base ≤ q → H[q]? = s.heap[q]?) → ∃ cell : Cell, H[ρ (100000 + j)]? = some cell ∧ cell.vm.isStatics = false ∧ s.vm.findClass "java/lang/String" = some cell.cls)
    (hM0 : P.2.2.1 9001 = (0, 0) ∧ P.2.2.1 9002 = (0, 0))
    (hM1 : ∀ j, 0 < (pm_txt P j).length → Met l (yN 9001) (pm_ws P tbl yN byt rT 9001) (pm_rm P fr lo 9001) (va_Pc [.ref (ρ (100000 + j))] TT) (fun _ st o t => o = .returned (some (.int (Int32.ofNat (pm_txt P j).length))) ∧ t.heap = st.heap) 0 0 (fun q : Nat => base ≤ q))
    (hM2 : ∀ (j : Nat) (i : Int32), pm_in i (pm_txt P j).length = true → Met l (yN 9002) (pm_ws P tbl yN byt rT 9002) (pm_rm P fr lo 9002) (va_Pc [.ref (ρ (100000 + j)), .int i] TT) (fun _ st o t => o = .returned (some (.int ((pm_txt P j).getD i.toNatClampNeg 0))) ∧ t.heap = st.heap) 0 0 (fun q : Nat => base ≤ q)) :
    ∀ f, pm_At P tbl yN byt fr lo cl ρ tA base D tys TT l f := by
  intro f
  induction f with
  | zero =>
    intro m p e s mi args below meth c R Q n0 v h' hx hb hml hown hname hts hK hTs hR hn0 hX hend pc lv st h cs H locs ls hrun
    simp [pm_run] at hrun
  | succ f ih =>
    intro m p e s mi args below meth c R Q n0 v h' hx hb hml hown hname hts hK hTs hR hn0 hX hend pc lv st h cs H locs ls hrun hc1 hc2 hn hrel hS hL hlen
    have hnst : ∀ w ∈ nst, w.before args s = true := hT4 s args hTs
    have hstr := hT3 s hTs
    have hRf : R.frames = fr m ∧ R.locals = lo m := by rw [hR]; exact ⟨rfl, rfl⟩
    have hRc : R.cells = pm_mc P m ∧ R.slots = pm_ms P m := by rw [hR]; exact ⟨rfl, rfl⟩
    have hls : c.maxLocals = ls.size := by rw [hml, hL.1, hlen]
    have go : ∀ (pc : Nat) (lv st : List Value) (h : pm_H) (cs : Nat × Nat) (H : Heap) (locs : List Loc) (ls : Array Slot), pm_run P f m pc lv st h cs = some (v, h') → cs.1 ≤ pm_mc P m → cs.2 ≤ pm_ms P m → h.2.2.2 = n0 + cs.1 → pm_Rel P tA ρ base D cl h H → va_S (fun q : Nat => base ≤ q) s.heap H locs → pm_L ρ ls lv → lv.length = pm_mxl P m → W p l e R s mi args below meth c H locs cs.1 cs.2 Q (F0 mi pc ls (st.map (pm_c ρ))) :=
      ih m p e s mi args below meth c R Q n0 v h' hx hb hml hown hname hts hK hTs hR hn0 hX hend
    refine sm_sz fun hz1 hz2 => ?_
    have hsz : H.size = base + h.2.2.2 := by
      have := sm_low hρ hrel (by omega)
      omega
    rw [pm_run] at hrun
    split at hrun
    · cases hrun
    · rename_i v1 nx hcod
      exact sm_c hx hb hown hts hstr (hAd _ _ _ _ hcod) (go nx lv (v1 :: st) h cs H locs ls hrun hc1 hc2 hn hrel hS hL hlen)
    · rename_i i nx hcod
      have ad := hAd _ _ _ _ hcod
      split at hrun
      · rename_i v1 hre
        cases hrun
        have := pm_re_st hre
        subst this
        exact hend pc nx i cs.1 cs.2 H locs ls hcod hre hrel hS hc1 hc2
      · split at hrun
        · rename_i k as r hca
          split at hrun
          · rename_i hm
            split at hrun
            · rename_i v1 h1 hrun1
              split at hrun
              · rename_i hnk
                have hv1 := pm_run_v hrun1
                have hn1 : h1.2.2.2 = n0 + (cs.1 + pm_mc P k) := by
                  rcases hnk with q | q
                  · rw [pm_n0 q hrun1, q, hn]; omega
                  · rw [q, hn]; omega
                have kk : ∀ (H1 : Heap) (locs1 : List Loc), pm_Rel P tA ρ base D cl h1 H1 → va_S (fun q : Nat => base ≤ q) s.heap H1 locs1 → W p l e R s mi args below meth c H1 locs1 (cs.1 + pm_mc P k) (cs.2 + pm_ms P k) Q (F0 mi nx ls (v1.map (pm_c ρ) ++ r.map (pm_c ρ))) := by
                  intro H1 locs1 hr1 hS1
                  rw [← List.map_append]
                  exact go nx lv (v1 ++ r) h1 (cs.1 + pm_mc P k, cs.2 + pm_ms P k) H1 locs1 ls hrun hm.1 hm.2 hn1 hr1 hS1 hL hlen
                have hQa : ∀ (a : Array Value) (st₀ : State) (o : Outcome) (t : State), pm_Qc P cl ρ tA base D v1 h1 a st₀ o t → st₀.heap = H → o = .returned ((v1.map (pm_c ρ)).head?) ∧ pm_Rel P tA ρ base D cl h1 t.heap ∧ va_F (fun q : Nat => base ≤ q) st₀ t := fun a st₀ o t q _ => q
                unfold pm_ca at hca
                split at hca
                · -- static
                  split at hca
                  · rename_i hq
                    cases hca
                    obtain ⟨q1, q2, q3, q4⟩ := hq
                    obtain ⟨rfl, hor⟩ := ad
                    rcases hor with ⟨w0, -⟩ | ⟨-, j, hd, hl, ⟨w1, w2, w3, wk, w4, w5⟩, w6, w7⟩
                    · omega
                    · have hM := pm_met_of hAd ih wk w7 hrun1 q4
                      have hstack : st.map (pm_c ρ) = (((st.take (pm_nar P k)).reverse).map (pm_c ρ)).reverse ++ (st.drop (pm_nar P k)).map (pm_c ρ) := by
                        rw [List.map_reverse, List.reverse_reverse, ← List.map_append, List.take_append_drop]
                      have hlenA : (((st.take (pm_nar P k)).reverse).map (pm_c ρ)).length = pm_nar P k := by simp; omega
                      have hG : GoodIn tbl (pm_ws P tbl yN byt rT k) := pm_goodIn hgood (fun w hw => by rcases List.mem_cons.mp hw with rfl | hw; exact w2; exact hw)
                      have hRk : (pm_rm P fr lo k).frames + 1 ≤ R.frames ∧ 8 + (pm_mxl P k + 11) + (pm_rm P fr lo k).locals ≤ R.locals := by rw [hRf.1, hRf.2]; exact ⟨w4, w5⟩
                      rcases hl with hl | ⟨host, hl⟩
                      · refine sm_call (va_runS (nL := ls.size) (As := ((st.take (pm_nar P k)).reverse).map (pm_c ρ)) ⟨hx, hb, hls, hown, hts⟩ hM ⟨callB_of (pm_nar P k) hts hG rfl rfl rfl (hts _ w1) (hts _ hl) w3 hRk, hts _ w6⟩ ⟨pm_blind hT2, pm_pre hT1 hK hTs hsz hrel hS⟩ rfl hlenA rfl hstack (by rw [pm_c_sum]; show 2 * 0 + _ ≤ 8; omega) hd ⟨by rw [hRc.1]; exact hm.1, by rw [hRc.2]; exact hm.2⟩) (hQa _) hv1 hS kk
                      · refine sm_call (va_runSN (nL := ls.size) (As := ((st.take (pm_nar P k)).reverse).map (pm_c ρ)) ⟨hx, hb, hls, hown, hts⟩ hM ⟨va_cnB (pm_nar P k) hts hG rfl rfl rfl (va_Nw.of rfl (hnst _ hl)) (hts _ w1) w3 hRk, hts _ w6, trivial⟩ ⟨pm_blind hT2, pm_pre hT1 hK hTs hsz hrel hS⟩ rfl hlenA rfl hstack (by rw [pm_c_sum]; show 2 * 0 + _ ≤ 8; omega) hd ⟨by rw [hRc.1]; exact hm.1, by rw [hRc.2]; exact hm.2⟩) (hQa _) hv1 hS kk
                  · cases hca
                · -- special
                  split at hca
                  · rename_i hq
                    obtain ⟨q1, q3⟩ := hq
                    split at hca
                    · rename_i a as1 htk
                      split at hca
                      · rename_i hq2
                        cases hca
                        obtain ⟨q2, q4⟩ := hq2
                        obtain ⟨rfl, hor⟩ := ad
                        rcases hor with ⟨w0, -⟩ | ⟨-, j, hd, hl, ⟨w1, w2, w3, wk, w4, w5⟩, w6, w8, w9, w7⟩
                        · omega
                        · have hM := pm_met_of hAd ih wk w7 hrun1 q4
                          have htk2 : st.take (pm_nar P k) = as1.reverse ++ [.ref a] := by
                            have := congrArg List.reverse htk
                            simpa using this
                          have hstack : st.map (pm_c ρ) = (as1.map (pm_c ρ)).reverse ++ Value.ref (ρ a) :: (st.drop (pm_nar P k)).map (pm_c ρ) := by
                            conv => lhs; rw [← List.take_append_drop (pm_nar P k) st, htk2]
                            simp [pm_c]
                          have hlenA : (as1.map (pm_c ρ)).length = pm_nar P k - 1 := by simp; omega
                          have hG : GoodIn tbl (pm_ws P tbl yN byt rT k) := pm_goodIn hgood (fun w hw => by rcases List.mem_cons.mp hw with rfl | hw; exact w2; exact hw)
                          have hRk : (pm_rm P fr lo k).frames + 1 ≤ R.frames ∧ 8 + (pm_mxl P k + 11) + (pm_rm P fr lo k).locals ≤ R.locals := by rw [hRf.1, hRf.2]; exact ⟨w4, w5⟩
                          have hws : pm_ws P tbl yN byt rT k = .code (yN k) (byt k) (pm_mxl P k) none :: tbl := by rw [← w9]; rfl
                          rcases hl with hl | ⟨host, hl⟩
                          · refine sm_call (va_runI (nL := ls.size) (b := ρ a) (As := as1.map (pm_c ρ)) ⟨hx, hb, hls, hown, hts⟩ hM ⟨callB_of (pm_nar P k - 1) hts hG hws rfl rfl (hts _ w1) (hts _ hl) w3 hRk, w8, hts _ w6⟩ ⟨pm_blind hT2, pm_pre (as := .ref a :: as1) hT1 hK hTs hsz hrel hS⟩ rfl hlenA rfl hstack (by rw [pm_c_sum]; show 2 * 0 + _ ≤ 8; omega) hd ⟨by rw [hRc.1]; exact hm.1, by rw [hRc.2]; exact hm.2⟩) (hQa _) hv1 hS kk
                          · refine sm_call (va_runIN (nL := ls.size) (b := ρ a) (As := as1.map (pm_c ρ)) ⟨hx, hb, hls, hown, hts⟩ hM ⟨va_cnB (pm_nar P k - 1) hts hG hws rfl rfl (va_Nw.of rfl (hnst _ hl)) (hts _ w1) w3 hRk, w8, hts _ w6⟩ ⟨pm_blind hT2, pm_pre (as := .ref a :: as1) hT1 hK hTs hsz hrel hS⟩ rfl hlenA rfl hstack (by rw [pm_c_sum]; show 2 * 0 + _ ≤ 8; omega) hd ⟨by rw [hRc.1]; exact hm.1, by rw [hRc.2]; exact hm.2⟩) (hQa _) hv1 hS kk
                      · cases hca
                    · cases hca
                  · cases hca
                · -- virtual
                  split at hca
                  · rename_i hq
                    obtain ⟨q1, q3⟩ := hq
                    split at hca
                    · rename_i a as1 htk
                      split at hca
                      · rename_i hq2
                        cases hca
                        obtain ⟨q2, q5, q4⟩ := hq2
                        obtain ⟨rfl, hor⟩ := ad
                        rcases hor with ⟨w0, -⟩ | ⟨-, j, hd, hl, ⟨w1, w2, w3, wk, w4, w5⟩, w6, w8, ⟨T, N, w9⟩, w7⟩
                        · omega
                        · have hM := pm_met_of hAd ih wk w7 hrun1 q4
                          have htk2 : st.take (pm_nar P k) = as1.reverse ++ [.ref a] := by
                            have := congrArg List.reverse htk
                            simpa using this
                          have hstack : st.map (pm_c ρ) = (as1.map (pm_c ρ)).reverse ++ Value.ref (ρ a) :: (st.drop (pm_nar P k)).map (pm_c ρ) := by
                            conv => lhs; rw [← List.take_append_drop (pm_nar P k) st, htk2]
                            simp [pm_c]
                          have hlenA : (as1.map (pm_c ρ)).length = pm_nar P k - 1 := by simp; omega
                          have hG : GoodIn tbl (pm_ws P tbl yN byt rT k) := pm_goodIn hgood (fun w hw => by rcases List.mem_cons.mp hw with rfl | hw; exact w2; exact hw)
                          have hRk : (pm_rm P fr lo k).frames + 1 ≤ R.frames ∧ 8 + (pm_mxl P k + 11) + (pm_rm P fr lo k).locals ≤ R.locals := by rw [hRf.1, hRf.2]; exact ⟨w4, w5⟩
                          obtain ⟨ha, hs⟩ := pm_sh_spec q5
                          have hrecv : ∃ cell : Cell, H[ρ a]? = some cell ∧ cell.vm.isStatics = false ∧ s.vm.findClass (yN k).cls = some cell.cls := by
                            have he : (pm_w P tA ρ h)[a]? = some (ρ a, pm_E P tA ρ h a) := pm_w_get ha
                            simp only [pm_E, hs] at he
                            exact va_recv hK hrel.1 w9 he
                          rcases hl with hl | ⟨host, hl⟩
                          · refine sm_call (va_runV (nL := ls.size) (b := ρ a) (C := (yN k).cls) (As := as1.map (pm_c ρ)) ⟨hx, hb, hls, hown, hts⟩ hM ⟨callB_of (pm_nar P k - 1) hts hG rfl rfl rfl (hts _ w1) (hts _ hl) w3 hRk, hts _ w6, hts _ w8⟩ ⟨pm_blind hT2, hrecv, pm_pre (as := .ref a :: as1) hT1 hK hTs hsz hrel hS⟩ rfl hlenA rfl hstack (by rw [pm_c_sum]; show 2 * 0 + _ ≤ 8; omega) hd ⟨by rw [hRc.1]; exact hm.1, by rw [hRc.2]; exact hm.2⟩) (hQa _) hv1 hS kk
                          · refine sm_call (va_runVN (nL := ls.size) (b := ρ a) (C := (yN k).cls) (As := as1.map (pm_c ρ)) ⟨hx, hb, hls, hown, hts⟩ hM ⟨va_cnB (pm_nar P k - 1) hts hG rfl rfl rfl (va_Nw.of rfl (hnst _ hl)) (hts _ w1) w3 hRk, hts _ w6, hts _ w8⟩ ⟨pm_blind hT2, hrecv, pm_pre (as := .ref a :: as1) hT1 hK hTs hsz hrel hS⟩ rfl hlenA rfl hstack (by rw [pm_c_sum]; show 2 * 0 + _ ≤ 8; omega) hd ⟨by rw [hRc.1]; exact hm.1, by rw [hRc.2]; exact hm.2⟩) (hQa _) hv1 hS kk
                      · cases hca
                    · cases hca
                  · cases hca
                · cases hca
              · cases hrun
            · cases hrun
          · cases hrun
        · split at hrun
          · rename_i pc' lv' st' h1 cs' hstep
            unfold pm_s at hstep
            split at hstep
            · rename_i r1 h1e
              cases hstep
              obtain ⟨r11, r12⟩ := r1
              have hlen' : r11.length = pm_mxl P m := by
                rw [← hlen]
                unfold pm_lo at h1e
                repeat' split at h1e
                all_goals first | (cases h1e; first | rfl | exact pm_st1_len _ _ _ | exact pm_st2_len _ _ _) | (cases h1e; done)
              exact sm_lo hx hb ad hL h1e (fun ls' hL' => go nx r11 r12 h cs H locs ls' hrun hc1 hc2 hn hrel hS hL' hlen')
            · split at hstep
              · rename_i r1 h1e
                cases hstep
                exact sm_ar hx hb ad h1e (go nx lv _ h cs H locs ls hrun hc1 hc2 hn hrel hS hL hlen)
              · split at hstep
                · rename_i r1 h1e
                  obtain ⟨r11, r12⟩ := r1
                  cases hstep
                  exact sm_br hx hb ad h1e (go _ lv _ h cs H locs ls hrun hc1 hc2 hn hrel hS hL hlen)
                · split at hstep
                  · rename_i r1 h1e
                    cases hstep
                    obtain ⟨r11, r12⟩ := r1
                    have hn1 : r12.2.2.2 = n0 + cs.1 := by rw [pm_he_n h1e, hn]
                    by_cases ht : i ≠ .invokevirtual 9001 ∧ i ≠ .invokevirtual 9002
                    · exact sm_he hx hb hls hown hname hts hnst hK hty hρ hRf (fun q => hX (by rcases q with rfl | rfl; exact ad.1; exact ad.1)) ad hrel hS ht h1e (fun H' locs' hr' hS' => go nx lv r11 r12 cs H' locs' ls hrun hc1 hc2 hn1 hr' hS' hL hlen)
                    · have kk0 : ∀ (H1 : Heap) (locs1 : List Loc), pm_Rel P tA ρ base D cl r12 H1 → va_S (fun q : Nat => base ≤ q) s.heap H1 locs1 → W p l e R s mi args below meth c H1 locs1 (cs.1 + 0) (cs.2 + 0) Q (F0 mi nx ls (r11.map (pm_c ρ))) := fun H1 locs1 hr1 hS1 => go nx lv r11 r12 cs H1 locs1 ls hrun hc1 hc2 hn1 hr1 hS1 hL hlen
                      have hbl : ∀ as : List Value, FrameBlind (va_Pc as TT) := fun as a U g mk q => ⟨q.1, hT2 U g mk a q.2⟩
                      have hpr : ∀ as : List Value, ∀ U : State, U.heap = H → s.WarmedH U.vm → va_Pc as TT as.toArray U := fun as U hU hW => ⟨rfl, hT1 s U hTs hW (fun q h1 h2 => by rw [hU]; exact hS.2.1 q h1 h2)⟩
                      have hi : i = .invokevirtual 9001 ∨ i = .invokevirtual 9002 := by
                        by_cases q : i = .invokevirtual 9001
                        · exact Or.inl q
                        · exact Or.inr (Classical.byContradiction fun q2 => ht ⟨q, q2⟩)
                      rcases hi with rfl | rfl
                      · simp only [pm_he, if_true] at h1e
                        split at h1e
                        · rename_i a r
                          split at h1e
                          · rename_i hq
                            obtain ⟨q1, q2, q3⟩ := hq
                            cases h1e
                            obtain ⟨rfl, hor⟩ := ad
                            rcases hor with ⟨-, -, j, hd, hl, ⟨w1, w2, w3, wk, w4, w5⟩, w6, w8, w10⟩ | ⟨w0, -⟩
                            · obtain ⟨j0, rfl⟩ := Nat.exists_eq_add_of_le q2
                              rw [Nat.add_sub_cancel_left] at q3 kk0
                              have hG : GoodIn tbl (pm_ws P tbl yN byt rT 9001) := pm_goodIn hgood (fun w hw => by rcases List.mem_cons.mp hw with rfl | hw; exact w2; exact hw)
                              have hRk : (pm_rm P fr lo 9001).frames + 1 ≤ R.frames ∧ 8 + (pm_mxl P 9001 + 11) + (pm_rm P fr lo 9001).locals ≤ R.locals := by rw [hRf.1, hRf.2]; exact ⟨w4, w5⟩
                              have hrecv := hT5 s H j0 hTs q3 hS.2.1
                              rw [← w10] at hrecv
                              exact sm_call (v := [.int (Int32.ofNat (pm_txt P j0).length)]) (va_runV (nL := ls.size) (b := ρ (100000 + j0)) (C := (yN 9001).cls) (As := []) ⟨hx, hb, hls, hown, hts⟩ (hM1 j0 q3) ⟨callB_of 0 hts hG rfl (by simp [pm_rm, pm_mc, hM0.1]) (by simp [pm_rm, pm_ms, hM0.1]) (hts _ w1) (hts _ hl) w3 hRk, hts _ w6, hts _ w8⟩ ⟨hbl _, hrecv, hpr _⟩ rfl rfl rfl rfl (by rw [pm_c_sum]; show 2 * 0 + _ ≤ 8; omega) hd ⟨by rw [hRc.1]; exact hc1, by rw [hRc.2]; exact hc2⟩) (fun st₀ o t q h0 => ⟨q.1, by rw [q.2, h0]; exact hrel, ⟨by rw [q.2]; exact Nat.le_refl _, fun x _ _ => by rw [q.2]⟩⟩) (by simp) hS kk0
                            · omega
                          · cases h1e
                        · cases h1e
                      · simp only [pm_he] at h1e
                        rw [if_neg (by decide), if_pos trivial] at h1e
                        split at h1e
                        · rename_i ji a r
                          split at h1e
                          · rename_i hq
                            obtain ⟨q1, q2, q3⟩ := hq
                            cases h1e
                            obtain ⟨rfl, hor⟩ := ad
                            rcases hor with ⟨-, -, j, hd, hl, ⟨w1, w2, w3, wk, w4, w5⟩, w6, w8, w10⟩ | ⟨w0, -⟩
                            · obtain ⟨j0, rfl⟩ := Nat.exists_eq_add_of_le q2
                              rw [Nat.add_sub_cancel_left] at q3 kk0
                              have hG : GoodIn tbl (pm_ws P tbl yN byt rT 9002) := pm_goodIn hgood (fun w hw => by rcases List.mem_cons.mp hw with rfl | hw; exact w2; exact hw)
                              have hRk : (pm_rm P fr lo 9002).frames + 1 ≤ R.frames ∧ 8 + (pm_mxl P 9002 + 11) + (pm_rm P fr lo 9002).locals ≤ R.locals := by rw [hRf.1, hRf.2]; exact ⟨w4, w5⟩
                              have hrecv := hT5 s H j0 hTs (Nat.pos_of_ne_zero fun q0 => by rw [q0] at q3; exact pm_in_vp q3 (Or.inr (Nat.zero_le _))) hS.2.1
                              rw [← w10] at hrecv
                              exact sm_call (v := [.int ((pm_txt P j0).getD (Int32.toNatClampNeg _) 0)]) (va_runV (nL := ls.size) (b := ρ (100000 + j0)) (C := (yN 9002).cls) (As := [.int _]) ⟨hx, hb, hls, hown, hts⟩ (hM2 j0 _ q3) ⟨callB_of 1 hts hG rfl (by simp [pm_rm, pm_mc, hM0.2]) (by simp [pm_rm, pm_ms, hM0.2]) (hts _ w1) (hts _ hl) w3 hRk, hts _ w6, hts _ w8⟩ ⟨hbl _, hrecv, hpr _⟩ rfl rfl rfl rfl (by rw [pm_c_sum]; show 2 * 0 + _ ≤ 8; omega) hd ⟨by rw [hRc.1]; exact hc1, by rw [hRc.2]; exact hc2⟩) (fun st₀ o t q h0 => ⟨q.1, by rw [q.2, h0]; exact hrel, ⟨by rw [q.2]; exact Nat.le_refl _, fun x _ _ => by rw [q.2]⟩⟩) (by simp) hS kk0
                            · omega
                          · cases h1e
                        · cases h1e
                  · split at hstep
                    · rename_i r1 h1e
                      cases hstep
                      obtain ⟨r11, r12, r13⟩ := r1
                      have hal : r13.1 ≤ pm_mc P m ∧ r13.2 ≤ pm_ms P m ∧ r12.2.2.2 = n0 + r13.1 := by
                        unfold pm_al at h1e
                        repeat' split at h1e
                        all_goals first | (cases h1e; done) | (rename_i hq; cases h1e; refine ⟨?_, ?_, ?_⟩ <;> simp only [] <;> omega)
                      exact sm_al hx hb hown hts hnst hK hty hρ hRc ad hrel hS hsz h1e (fun H' hr' hS' => go nx lv r11 r12 r13 H' locs ls hrun hal.1 hal.2.1 hal.2.2 hr' hS' hL hlen)
                    · cases hstep
          · cases hrun
end SMU
end
section
/-! THE TABLES, CHECKED BY COUNTING: a Bool for an instruction, and what it says -/
section CHK
variable (P : pm_P) (byt : Nat → ByteArray) (fr lo : Nat → Nat) (oc : Nat → Nat) (ini fin : Nat → Bool)
  (FL FP ML : Nat → Nat → Option Nat) (knd : Nat → Nat) (NW AW : Nat → Nat → Option Nat) (AT : List Nat) (CI : Nat → Nat → Option Int32) (CJ : Nat → Nat → Option Int64) (CS : Nat → Nat → Option Nat) (OI AC : Nat → Nat → Bool)
def pm_dn (x y : Except String (Instr × Nat)) : Bool := match x, y with
  | .ok a, .ok b => decide (a = b)
  | _, _ => false
/-- one instruction -/
def pm_chk (m pc : Nat) (x : pm_I) (nx : Nat) : Bool := match decode (byt m) pc with
  | .error _ => false
  | .ok (ri, len) => match x with
    | .inl v => match ri with
      | .iconst n => decide (len = 1 ∧ v = .int (Int32.ofInt n) ∧ nx = pc + 1)
      | .bipush n => decide (len = 2 ∧ v = .int (Int8.ofInt n).toInt32 ∧ nx = pc + 2)
      | .sipush n => decide (len = 3 ∧ v = .int (Int16.ofInt n).toInt32 ∧ nx = pc + 3)
      | .lconst n => decide (len = 1 ∧ v = .long (Int64.ofNat (n : Nat)) ∧ nx = pc + 1)
      | .aconst_null => decide (len = 1 ∧ v = .null ∧ nx = pc + 1)
      | .ldc i => match v with
        | .int z => decide (len = 2 ∧ nx = pc + 2 ∧ CI (oc m) i = some z)
        | .ref a => decide (len = 2 ∧ nx = pc + 2 ∧ 100000 ≤ a ∧ CS (oc m) i = some (a - 100000))
        | _ => false
      | .ldc_w i => match v with
        | .int z => decide (len = 3 ∧ nx = pc + 3 ∧ CI (oc m) i = some z)
        | .ref a => decide (len = 3 ∧ nx = pc + 3 ∧ 100000 ≤ a ∧ CS (oc m) i = some (a - 100000))
        | _ => false
      | .ldc2_w i => match v with
        | .long z => decide (len = 3 ∧ nx = pc + 3 ∧ CJ (oc m) i = some z)
        | _ => false
      | _ => false
    | .inr i => match i with
      | .iload k => match ri with
        | .iload_n n => decide (len = 1 ∧ (n : Nat) = k ∧ nx = pc + 1)
        | .iload n => decide (len = 2 ∧ n = k ∧ nx = pc + 2)
        | _ => false
      | .lload k => match ri with
        | .lload_n n => decide (len = 1 ∧ (n : Nat) = k ∧ nx = pc + 1)
        | .lload n => decide (len = 2 ∧ n = k ∧ nx = pc + 2)
        | _ => false
      | .aload k => match ri with
        | .aload_n n => decide (len = 1 ∧ (n : Nat) = k ∧ nx = pc + 1)
        | .aload n => decide (len = 2 ∧ n = k ∧ nx = pc + 2)
        | _ => false
      | .istore k => match ri with
        | .istore_n n => decide (len = 1 ∧ (n : Nat) = k ∧ nx = pc + 1)
        | .istore n => decide (len = 2 ∧ n = k ∧ nx = pc + 2)
        | _ => false
      | .lstore k => match ri with
        | .lstore_n n => decide (len = 1 ∧ (n : Nat) = k ∧ nx = pc + 1)
        | .lstore n => decide (len = 2 ∧ n = k ∧ nx = pc + 2)
        | _ => false
      | .astore k => match ri with
        | .astore_n n => decide (len = 1 ∧ (n : Nat) = k ∧ nx = pc + 1)
        | .astore n => decide (len = 2 ∧ n = k ∧ nx = pc + 2)
        | _ => false
      | .iinc k n => decide (ri = .iinc k n ∧ len = 3 ∧ nx = pc + 3)
      | .goto t => match ri with
        | .goto o => decide (len = 3 ∧ (pc : Int) + o = t ∧ 0 ≤ t)
        | _ => false
      | .ifCond c t => match ri with
        | .ifCond c' o => decide (len = 3 ∧ c' = c ∧ (pc : Int) + o = t ∧ 0 ≤ t ∧ nx = pc + 3)
        | _ => false
      | .if_icmp c t => match ri with
        | .if_icmp c' o => decide (len = 3 ∧ c' = c ∧ (pc : Int) + o = t ∧ 0 ≤ t ∧ nx = pc + 3)
        | _ => false
      | .ifnull t => match ri with
        | .ifnull o => decide (len = 3 ∧ (pc : Int) + o = t ∧ 0 ≤ t ∧ nx = pc + 3)
        | _ => false
      | .ifnonnull t => match ri with
        | .ifnonnull o => decide (len = 3 ∧ (pc : Int) + o = t ∧ 0 ≤ t ∧ nx = pc + 3)
        | _ => false
      | .tableswitch d a b ts => match ri with
        | .tableswitch o a' b' os => decide (a' = a ∧ b' = b ∧ (pc : Int) + o = d ∧ 0 ≤ d ∧ ts = os.map (fun z => (pc : Int) + z) ∧ ∀ z ∈ os, 0 ≤ (pc : Int) + z)
        | _ => false
      | .lookupswitch d qs => match ri with
        | .lookupswitch o ps => decide ((pc : Int) + o = d ∧ 0 ≤ d ∧ qs = ps.map (fun z => (z.1, (pc : Int) + z.2)) ∧ (∀ z ∈ ps, 0 ≤ (pc : Int) + z.2) ∧ (ps.toList.zip (ps.toList.drop 1)).all (fun (a, next) => a.1 < next.1) = true)
        | _ => false
      | .getfield n => match ri with
        | .getfield j => decide (len = 3 ∧ nx = pc + 3 ∧ FL (oc m) j = some n)
        | _ => false
      | .putfield n => match ri with
        | .putfield j => decide (len = 3 ∧ nx = pc + 3 ∧ FP (oc m) j = some n ∧ (fin n = true → ini m = true))
        | _ => false
      | .caload => decide (m = 0 ∧ ri = .arraylength ∧ len = 1 ∧ nx = pc + 1)
      | .saload => decide (m = 0 ∧ ri = .iaload ∧ len = 1 ∧ nx = pc + 1)
      | .new c => match ri with
        | .new j => decide (len = 3 ∧ nx = pc + 3 ∧ NW (oc m) j = some c)
        | _ => false
      | .newarray t => decide (ri = .newarray t ∧ len = 2 ∧ nx = pc + 2 ∧ pm_at t ∈ AT)
      | .anewarray c => match ri with
        | .anewarray j => decide (len = 3 ∧ nx = pc + 3 ∧ AW (oc m) j = some c)
        | _ => false
      | .invokestatic k => match ri with
        | .invokestatic j => decide (len = 3 ∧ nx = pc + 3) && ((decide (k = 9000) && AC (oc m) j && decide (1 ≤ fr m ∧ 8 + (nativeFrameWords "java/lang/System" "arraycopy" 5 + 11) ≤ lo m)) || (decide (0 < k ∧ k < 9000) && decide (ML (oc m) j = some k) && decide (knd k = 1) && decide (fr k + 1 ≤ fr m ∧ 8 + (pm_mxl P k + 11) + lo k ≤ lo m)))
        | _ => false
      | .invokespecial k => match ri with
        | .invokespecial j => decide (len = 3 ∧ nx = pc + 3) && ((decide (k = 9003) && OI (oc m) j && decide (1 ≤ fr m ∧ 20 ≤ lo m)) || (decide (0 < k ∧ k < 9000) && decide (ML (oc m) j = some k) && decide (knd k = 3) && decide (fr k + 1 ≤ fr m ∧ 8 + (pm_mxl P k + 11) + lo k ≤ lo m)))
        | _ => false
      | .invokevirtual k => match ri with
        | .invokevirtual j => decide (len = 3 ∧ nx = pc + 3) && ((decide (9000 < k ∧ k < 9003) && decide (ML (oc m) j = some k) && decide (fr k + 1 ≤ fr m ∧ 8 + (pm_mxl P k + 11) + lo k ≤ lo m)) || (decide (0 < k ∧ k < 9000) && decide (ML (oc m) j = some k) && decide (knd k = 2) && decide (fr k + 1 ≤ fr m ∧ 8 + (pm_mxl P k + 11) + lo k ≤ lo m)))
        | _ => false
      | i => decide (ri = i ∧ len = 1 ∧ nx = pc + 1)
variable {P byt fr lo oc ini fin FL FP ML knd NW AW AT CI CJ CS OI AC}
variable {tbl : List Jvm.Cond} {yN : Nat → MethodName} {rT : Nat → Option FieldType} {cl : List vw_C} {strs : List (String × Nat × Nat)} {nst : List Jvm.Cond} (cn : Nat → String)
/-- what a method that is called has in the tables -/
def pm_kf (P : pm_P) (tbl : List Jvm.Cond) (yN : Nat → MethodName) (byt : Nat → ByteArray) (rT : Nat → Option FieldType) (k n : Nat) : Prop := Jvm.Cond.initialized (yN k).cls ∈ tbl ∧ Jvm.Cond.code (yN k) (byt k) (pm_mxl P k) (rT k) ∈ tbl ∧ ((yN k).cls ≠ "java/lang/invoke/MethodHandle" ∧ (yN k).cls ≠ "java/lang/invoke/VarHandle" ∧ (parseMethodDescriptor (yN k).desc).map (fun d => d.parameters.length) = some n)
set_option maxHeartbeats 8000000 in
theorem pm_chk_ok {m pc nx : Nat} {x : pm_I} (hcn : (yN m).cls = cn (oc m)) (hini : ini m = true → (yN m).name = "<init>")
    (hFL : ∀ c j n, FL c j = some n → pm_fl P tbl cl nst (cn c) j (n / 64) (n % 64)) (hFP : ∀ c j n, FP c j = some n → ∀ nm, (fin n = true → nm = "<init>") → pm_fp P tbl cl nst (cn c) nm j (n / 64) (n % 64))
    (hML : ∀ c j k, ML c j = some k → pm_lk1 tbl yN nst (cn c) j k) (hMS : ∀ c j k, ML c j = some k → 9000 < k → Jvm.Cond.methodLink (cn c) j (yN k) ∈ tbl)
    (hST : ∀ k, knd k = 1 → pm_kf P tbl yN byt rT k (pm_nar P k) ∧ Jvm.Cond.static (yN k) ∈ tbl ∧ pm_me P yN rT k)
    (hVI : ∀ k, knd k = 2 → pm_kf P tbl yN byt rT k (pm_nar P k - 1) ∧ Jvm.Cond.instanceMethod (yN k) ∈ tbl ∧ Jvm.Cond.selects (yN k).cls (yN k) (yN k) ∈ tbl ∧ (∃ (T : u_T) (N : Nat), cl[pm_rcv P k]? = some ((yN k).cls, T, N)) ∧ pm_me P yN rT k)
    (hSP : ∀ k, knd k = 3 → pm_kf P tbl yN byt rT k (pm_nar P k - 1) ∧ Jvm.Cond.instanceMethod (yN k) ∈ tbl ∧ (yN k).name = "<init>" ∧ rT k = none ∧ pm_me P yN rT k)
    (hSM : ∀ k, 9000 < k → k < 9003 → pm_kf P tbl yN byt rT k (k - 9001) ∧ Jvm.Cond.instanceMethod (yN k) ∈ tbl ∧ Jvm.Cond.selects (yN k).cls (yN k) (yN k) ∈ tbl ∧ (yN k).cls = "java/lang/String")
    (hNW : ∀ c j n, NW c j = some n → ∃ (C : String) (T : u_T) (N : Nat) (ty : Nat → FieldType), pm_Cls P tbl cl n C T N ty ∧ Jvm.Cond.classLink (cn c) j C ∈ tbl ∧ Jvm.Cond.instantiable C N ∈ tbl ∧ Jvm.Cond.initialized C ∈ tbl)
    (hAW : ∀ c j n, AW c j = some n → ∃ (C : String) (T : u_T) (N : Nat), cl[n]? = some (C, T, N) ∧ Jvm.Cond.classLink (cn c) j C ∈ tbl ∧ Jvm.Cond.arrayOver (.object C) ∈ nst)
    (hAT : ∀ t : ArrayType, pm_at t ∈ AT → Jvm.Cond.arrayClass (newarray.typeOf t) ∈ tbl) (hCI : ∀ c j z, CI c j = some z → Jvm.Cond.constant (cn c) j z ∈ tbl) (hCJ : ∀ c j z, CJ c j = some z → Jvm.Cond.constantLong (cn c) j z ∈ tbl) (hCS : ∀ c j z, CS c j = some z → (cn c, j, z) ∈ strs)
    (hOI : ∀ c j, OI c j = true → Jvm.Cond.methodLink (cn c) j objectInit ∈ tbl ∧ Jvm.Cond.instanceMethod objectInit ∈ tbl ∧ Jvm.Cond.code objectInit ⟨#[0xb1]⟩ 1 none ∈ tbl)
    (hAC : ∀ c j, AC c j = true → Jvm.Cond.methodLink (cn c) j arraycopyName ∈ tbl ∧ Jvm.Cond.native arraycopyName ∈ tbl ∧ Jvm.Cond.static arraycopyName ∈ tbl ∧ Jvm.Cond.initialized "java/lang/System" ∈ tbl)
    (h : pm_chk P byt fr lo oc ini fin FL FP ML knd NW AW AT CI CJ CS OI AC m pc x nx = true) : pm_Ad P tbl yN byt rT fr lo cl strs nst m pc x nx := by
  unfold pm_chk at h
  split at h
  · cases h
  · rename_i ri len hdec
    split at h
    · rename_i v
      split at h
      · obtain ⟨rfl, h2, h3⟩ := of_decide_eq_true h
        exact Or.inl ⟨_, hdec, h2, h3⟩
      · obtain ⟨rfl, h2, h3⟩ := of_decide_eq_true h
        exact Or.inr (Or.inl ⟨_, hdec, h2, h3⟩)
      · obtain ⟨rfl, h2, h3⟩ := of_decide_eq_true h
        exact Or.inr (Or.inr (Or.inl ⟨_, hdec, h2, h3⟩))
      · obtain ⟨rfl, h2, h3⟩ := of_decide_eq_true h
        exact Or.inr (Or.inr (Or.inr (Or.inl ⟨_, hdec, h2, h3⟩)))
      · obtain ⟨rfl, h2, h3⟩ := of_decide_eq_true h
        exact Or.inr (Or.inr (Or.inr (Or.inr (Or.inl ⟨hdec, h2, h3⟩))))
      · split at h
        · obtain ⟨rfl, h2, h3⟩ := of_decide_eq_true h
          exact Or.inr (Or.inr (Or.inr (Or.inr (Or.inr (Or.inl ⟨_, _, hdec, rfl, h2, by rw [hcn]; exact hCI _ _ _ h3⟩)))))
        · obtain ⟨rfl, h2, h3, h4⟩ := of_decide_eq_true h
          obtain ⟨j, rfl⟩ := Nat.exists_eq_add_of_le h3
          rw [Nat.add_sub_cancel_left] at h4
          exact Or.inr (Or.inr (Or.inr (Or.inr (Or.inr (Or.inr (Or.inr (Or.inr (Or.inl ⟨_, _, hdec, rfl, h2, by rw [hcn]; exact hCS _ _ _ h4⟩))))))))
        · cases h
      · split at h
        · obtain ⟨rfl, h2, h3⟩ := of_decide_eq_true h
          exact Or.inr (Or.inr (Or.inr (Or.inr (Or.inr (Or.inr (Or.inl ⟨_, _, hdec, rfl, h2, by rw [hcn]; exact hCI _ _ _ h3⟩))))))
        · obtain ⟨rfl, h2, h3, h4⟩ := of_decide_eq_true h
          obtain ⟨j, rfl⟩ := Nat.exists_eq_add_of_le h3
          rw [Nat.add_sub_cancel_left] at h4
          exact Or.inr (Or.inr (Or.inr (Or.inr (Or.inr (Or.inr (Or.inr (Or.inr (Or.inr ⟨_, _, hdec, rfl, h2, by rw [hcn]; exact hCS _ _ _ h4⟩))))))))
        · cases h
      · split at h
        · obtain ⟨rfl, h2, h3⟩ := of_decide_eq_true h
          exact Or.inr (Or.inr (Or.inr (Or.inr (Or.inr (Or.inr (Or.inr (Or.inl ⟨_, _, hdec, rfl, h2, by rw [hcn]; exact hCJ _ _ _ h3⟩)))))))
        · cases h
      · cases h
    · rename_i i
      split at h
      · split at h
        · obtain ⟨rfl, h2, h3⟩ := of_decide_eq_true h; exact Or.inl ⟨_, hdec, h2, h3⟩
        · obtain ⟨rfl, rfl, h3⟩ := of_decide_eq_true h; exact Or.inr ⟨hdec, h3⟩
        · cases h
      · split at h
        · obtain ⟨rfl, h2, h3⟩ := of_decide_eq_true h; exact Or.inl ⟨_, hdec, h2, h3⟩
        · obtain ⟨rfl, rfl, h3⟩ := of_decide_eq_true h; exact Or.inr ⟨hdec, h3⟩
        · cases h
      · split at h
        · obtain ⟨rfl, h2, h3⟩ := of_decide_eq_true h; exact Or.inl ⟨_, hdec, h2, h3⟩
        · obtain ⟨rfl, rfl, h3⟩ := of_decide_eq_true h; exact Or.inr ⟨hdec, h3⟩
        · cases h
      · split at h
        · obtain ⟨rfl, h2, h3⟩ := of_decide_eq_true h; exact Or.inl ⟨_, hdec, h2, h3⟩
        · obtain ⟨rfl, rfl, h3⟩ := of_decide_eq_true h; exact Or.inr ⟨hdec, h3⟩
        · cases h
      · split at h
        · obtain ⟨rfl, h2, h3⟩ := of_decide_eq_true h; exact Or.inl ⟨_, hdec, h2, h3⟩
        · obtain ⟨rfl, rfl, h3⟩ := of_decide_eq_true h; exact Or.inr ⟨hdec, h3⟩
        · cases h
      · split at h
        · obtain ⟨rfl, h2, h3⟩ := of_decide_eq_true h; exact Or.inl ⟨_, hdec, h2, h3⟩
        · obtain ⟨rfl, rfl, h3⟩ := of_decide_eq_true h; exact Or.inr ⟨hdec, h3⟩
        · cases h
      · obtain ⟨rfl, rfl, h3⟩ := of_decide_eq_true h; exact ⟨hdec, h3⟩
      · split at h
        · obtain ⟨rfl, h2, h3⟩ := of_decide_eq_true h; exact ⟨_, _, hdec, (Int.toNat_of_nonneg h3).symm, by rw [Int.toNat_of_nonneg h3]; exact h2⟩
        · cases h
      · split at h
        · obtain ⟨rfl, rfl, h2, h3, h4⟩ := of_decide_eq_true h; exact ⟨_, _, hdec, (Int.toNat_of_nonneg h3).symm, by rw [Int.toNat_of_nonneg h3]; exact h2, h4⟩
        · cases h
      · split at h
        · obtain ⟨rfl, rfl, h2, h3, h4⟩ := of_decide_eq_true h; exact ⟨_, _, hdec, (Int.toNat_of_nonneg h3).symm, by rw [Int.toNat_of_nonneg h3]; exact h2, h4⟩
        · cases h
      · split at h
        · obtain ⟨rfl, h2, h3, h4⟩ := of_decide_eq_true h; exact ⟨_, _, hdec, (Int.toNat_of_nonneg h3).symm, by rw [Int.toNat_of_nonneg h3]; exact h2, h4⟩
        · cases h
      · split at h
        · obtain ⟨rfl, h2, h3, h4⟩ := of_decide_eq_true h; exact ⟨_, _, hdec, (Int.toNat_of_nonneg h3).symm, by rw [Int.toNat_of_nonneg h3]; exact h2, h4⟩
        · cases h
      · split at h
        · obtain ⟨rfl, rfl, h2, h3, h4, h5⟩ := of_decide_eq_true h; exact ⟨_, _, _, _, hdec, (Int.toNat_of_nonneg h3).symm, by rw [Int.toNat_of_nonneg h3]; exact h2, h4, h5⟩
        · cases h
      · split at h
        · obtain ⟨h2, h3, h4, h5, h6⟩ := of_decide_eq_true h; exact ⟨_, _, _, _, hdec, (Int.toNat_of_nonneg h3).symm, by rw [Int.toNat_of_nonneg h3]; exact h2, h4, h5, h6⟩
        · cases h
      · split at h
        · obtain ⟨rfl, h2, h3⟩ := of_decide_eq_true h; exact ⟨_, hdec, h2, by rw [hcn]; exact hFL _ _ _ h3⟩
        · cases h
      · split at h
        · obtain ⟨rfl, h2, h3, h4⟩ := of_decide_eq_true h; exact ⟨_, hdec, h2, by rw [hcn]; exact hFP _ _ _ h3 _ (fun q => hini (h4 q))⟩
        · cases h
      · obtain ⟨rfl, rfl, rfl, h3⟩ := of_decide_eq_true h; exact ⟨rfl, hdec, h3⟩
      · obtain ⟨rfl, rfl, rfl, h3⟩ := of_decide_eq_true h; exact ⟨rfl, hdec, h3⟩
      · split at h
        · obtain ⟨rfl, h2, h3⟩ := of_decide_eq_true h
          obtain ⟨C, T, N, ty, g1, g2, g3, g4⟩ := hNW _ _ _ h3
          exact ⟨_, C, T, N, ty, hdec, h2, g1, by rw [hcn]; exact g2, g3, g4⟩
        · cases h
      · obtain ⟨rfl, rfl, h2, h3⟩ := of_decide_eq_true h; exact ⟨hdec, h2, hAT _ h3⟩
      · split at h
        · obtain ⟨rfl, h2, h3⟩ := of_decide_eq_true h
          obtain ⟨C, T, N, g1, g2, g3⟩ := hAW _ _ _ h3
          exact ⟨_, C, T, N, hdec, h2, g1, by rw [hcn]; exact g2, g3⟩
        · cases h
      · split at h
        · rename_i k j
          simp only [Bool.and_eq_true, Bool.or_eq_true, decide_eq_true_eq] at h
          obtain ⟨⟨rfl, h2⟩, h3⟩ := h
          refine ⟨h2, ?_⟩
          rcases h3 with ⟨⟨rfl, g1⟩, g2⟩ | ⟨⟨⟨g0, g1⟩, g2⟩, g3⟩
          · obtain ⟨a1, a2, a3, a4⟩ := hAC _ _ g1
            exact Or.inl ⟨rfl, _, hdec, by rw [hcn]; exact a1, a2, a3, a4, g2.1, g2.2⟩
          · obtain ⟨⟨b1, b2, b3⟩, b4, b5⟩ := hST _ g2
            exact Or.inr ⟨g0.2, _, hdec, by rw [hcn]; exact hML _ _ _ g1, ⟨b1, b2, b3, g0.1, g3.1, g3.2⟩, b4, b5⟩
        · cases h
      · split at h
        · rename_i k j
          simp only [Bool.and_eq_true, Bool.or_eq_true, decide_eq_true_eq] at h
          obtain ⟨⟨rfl, h2⟩, h3⟩ := h
          refine ⟨h2, ?_⟩
          rcases h3 with ⟨⟨rfl, g1⟩, g2⟩ | ⟨⟨⟨g0, g1⟩, g2⟩, g3⟩
          · obtain ⟨a1, a2, a3⟩ := hOI _ _ g1
            exact Or.inl ⟨rfl, _, hdec, by rw [hcn]; exact a1, a2, a3, g2.1, g2.2⟩
          · obtain ⟨⟨b1, b2, b3⟩, b4, b5, b6, b7⟩ := hSP _ g2
            exact Or.inr ⟨g0.2, _, hdec, by rw [hcn]; exact hML _ _ _ g1, ⟨b1, b2, b3, g0.1, g3.1, g3.2⟩, b4, b5, b6, b7⟩
        · cases h
      · split at h
        · rename_i k j
          simp only [Bool.and_eq_true, Bool.or_eq_true, decide_eq_true_eq] at h
          obtain ⟨⟨rfl, h2⟩, h3⟩ := h
          refine ⟨h2, ?_⟩
          rcases h3 with ⟨⟨g0, g1⟩, g3⟩ | ⟨⟨⟨g0, g1⟩, g2⟩, g3⟩
          · obtain ⟨⟨b1, b2, b3⟩, b4, b5, b6⟩ := hSM _ g0.1 g0.2
            exact Or.inl ⟨g0.1, g0.2, _, hdec, by rw [hcn]; exact hMS _ _ _ g1 g0.1, ⟨b1, b2, b3, by omega, g3.1, g3.2⟩, b4, b5, b6⟩
          · obtain ⟨⟨b1, b2, b3⟩, b4, b5, b6, b7⟩ := hVI _ g2
            exact Or.inr ⟨g0.2, _, hdec, by rw [hcn]; exact hML _ _ _ g1, ⟨b1, b2, b3, g0.1, g3.1, g3.2⟩, b4, b5, b6, b7⟩
        · cases h
      · obtain ⟨rfl, rfl, h3⟩ := of_decide_eq_true h
        unfold pm_Ad
        dsimp only
        split
        all_goals first | (exact ⟨hdec, h3⟩; done) | skip
        all_goals (clear hFL hFP hML hMS hST hVI hSP hSM hNW hAW hAT hCI hCJ hCS hOI hAC hcn hini hdec; exfalso; first | (simp_all; done) | solve_by_elim)
end CHK
/-- a list in pieces -/
theorem pm_allc {α : Type} {l : List α} {f : α → Bool} (n c : Nat) (hl : l.length ≤ n * c) (h : ∀ i, i < c → ((l.drop (n * i)).take n).all f = true) : l.all f = true := by
  rw [List.all_eq_true]
  intro x hx
  obtain ⟨j, hj⟩ := List.getElem?_of_mem hx
  have hj2 : j < l.length := (List.getElem?_eq_some_iff.mp hj).1
  have hn : 0 < n := by
    rcases Nat.eq_zero_or_pos n with q | q
    · subst q; simp at hl; subst hl; simp at hx
    · exact q
  have hi : j / n < c := Nat.div_lt_of_lt_mul (Nat.lt_of_lt_of_le hj2 hl)
  have := List.all_eq_true.mp (h (j / n) hi) x
  apply this
  apply List.mem_of_getElem? (i := j % n)
  rw [List.getElem?_take, if_pos (Nat.mod_lt _ hn), List.getElem?_drop, Nat.div_add_mod]
  exact hj
end
section
/-! PRINTED BY wip/gen.py, wip/gen2.py out of the Statement: names, shapes, code of every method as the pure machine has it -/
def RC0 : String := "MaskBench"
def TC0 : u_T := fun k => match k with
  | 0 => ("MaskBench", "tape", "LMaskBench$Paper;", true)
  | 1 => ("MaskBench", "printed", "LMaskBench$Paper;", true)
  | 2 => ("MaskBench", "loader", "LMaskBench$Loader;", true)
  | 3 => ("MaskBench", "history", "LMaskBench$History;", true)
  | 4 => ("MaskBench", "picture", "LMaskBench$Picture;", true)
  | 5 => ("MaskBench", "counted", "[I", true)
  | 6 => ("MaskBench", "bench", "LMaskBench$Bench;", false)
  | 7 => ("MaskBench", "spare", "LMaskBench$Bench;", false)
  | 8 => ("MaskBench", "camera", "LMaskBench$Camera;", true)
  | 9 => ("MaskBench", "trial", "LMaskBench$Camera;", true)
  | 10 => ("MaskBench", "state", "I", false)
  | 11 => ("MaskBench", "faultKind", "I", false)
  | _ => ("MaskBench", "faultPlace", "I", false)
def yC0 : Nat → FieldType := fun k => match k with
  | 0 => (.object "MaskBench$Paper")
  | 1 => (.object "MaskBench$Paper")
  | 2 => (.object "MaskBench$Loader")
  | 3 => (.object "MaskBench$History")
  | 4 => (.object "MaskBench$Picture")
  | 5 => (.array .int)
  | 6 => (.object "MaskBench$Bench")
  | 7 => (.object "MaskBench$Bench")
  | 8 => (.object "MaskBench$Camera")
  | 9 => (.object "MaskBench$Camera")
  | 10 => .int
  | 11 => .int
  | _ => .int
def RC1 : String := "MaskBench$Paper"
def TC1 : u_T := fun k => match k with
  | 0 => ("MaskBench$Paper", "bytes", "[I", true)
  | _ => ("MaskBench$Paper", "length", "I", false)
def yC1 : Nat → FieldType := fun k => match k with
  | 0 => (.array .int)
  | _ => .int
def RC2 : String := "MaskBench$Loader"
def TC2 : u_T := fun k => match k with
  | 0 => ("MaskBench$Loader", "tokens", "LMaskBench$Tokens;", true)
  | 1 => ("MaskBench$Loader", "given", "[I", true)
  | 2 => ("MaskBench$Loader", "givenCount", "I", false)
  | 3 => ("MaskBench$Loader", "here", "I", false)
  | 4 => ("MaskBench$Loader", "fault", "I", false)
  | _ => ("MaskBench$Loader", "place", "I", false)
def yC2 : Nat → FieldType := fun k => match k with
  | 0 => (.object "MaskBench$Tokens")
  | 1 => (.array .int)
  | 2 => .int
  | 3 => .int
  | 4 => .int
  | _ => .int
def RC3 : String := "MaskBench$Tokens"
def TC3 : u_T := fun k => match k with
  | 0 => ("MaskBench$Tokens", "kind", "[I", true)
  | 1 => ("MaskBench$Tokens", "from", "[I", true)
  | 2 => ("MaskBench$Tokens", "end", "[I", true)
  | 3 => ("MaskBench$Tokens", "value", "[I", true)
  | _ => ("MaskBench$Tokens", "count", "I", false)
def yC3 : Nat → FieldType := fun k => match k with
  | 0 => (.array .int)
  | 1 => (.array .int)
  | 2 => (.array .int)
  | 3 => (.array .int)
  | _ => .int
def RC4 : String := "MaskBench$History"
def TC4 : u_T := fun k => match k with
  | 0 => ("MaskBench$History", "ring", "[LMaskBench$Scene;", true)
  | 1 => ("MaskBench$History", "first", "I", false)
  | _ => ("MaskBench$History", "count", "I", false)
def yC4 : Nat → FieldType := fun k => match k with
  | 0 => (.array (.object "MaskBench$Scene"))
  | 1 => .int
  | _ => .int
def RC5 : String := "MaskBench$Scene"
def TC5 : u_T := fun k => match k with
  | 0 => ("MaskBench$Scene", "sources", "LMaskBench$Marks;", true)
  | 1 => ("MaskBench$Scene", "lost", "LMaskBench$Marks;", true)
  | 2 => ("MaskBench$Scene", "strays", "LMaskBench$Marks;", true)
  | 3 => ("MaskBench$Scene", "back", "I", false)
  | _ => ("MaskBench$Scene", "used", "I", false)
def yC5 : Nat → FieldType := fun k => match k with
  | 0 => (.object "MaskBench$Marks")
  | 1 => (.object "MaskBench$Marks")
  | 2 => (.object "MaskBench$Marks")
  | 3 => .int
  | _ => .int
def RC6 : String := "MaskBench$Marks"
def TC6 : u_T := fun k => match k with
  | 0 => ("MaskBench$Marks", "x", "[I", true)
  | 1 => ("MaskBench$Marks", "y", "[I", true)
  | 2 => ("MaskBench$Marks", "counts", "[I", true)
  | _ => ("MaskBench$Marks", "count", "I", false)
def yC6 : Nat → FieldType := fun k => match k with
  | 0 => (.array .int)
  | 1 => (.array .int)
  | 2 => (.array .int)
  | _ => .int
def RC7 : String := "MaskBench$Picture"
def TC7 : u_T := fun k => match k with
  | 0 => ("MaskBench$Picture", "row", "[I", true)
  | 1 => ("MaskBench$Picture", "wide", "I", false)
  | 2 => ("MaskBench$Picture", "high", "I", false)
  | 3 => ("MaskBench$Picture", "laidPlace", "I", false)
  | _ => ("MaskBench$Picture", "laidSum", "J", false)
def yC7 : Nat → FieldType := fun k => match k with
  | 0 => (.array .int)
  | 1 => .int
  | 2 => .int
  | 3 => .int
  | _ => .long
def RC8 : String := "MaskBench$Bench"
def TC8 : u_T := fun k => match k with
  | 0 => ("MaskBench$Bench", "row", "[LMaskBench$Plate;", true)
  | 1 => ("MaskBench$Bench", "scene", "LMaskBench$Scene;", true)
  | 2 => ("MaskBench$Bench", "told", "LMaskBench$Paper;", true)
  | _ => ("MaskBench$Bench", "plates", "I", false)
def yC8 : Nat → FieldType := fun k => match k with
  | 0 => (.array (.object "MaskBench$Plate"))
  | 1 => (.object "MaskBench$Scene")
  | 2 => (.object "MaskBench$Paper")
  | _ => .int
def RC9 : String := "MaskBench$Plate"
def TC9 : u_T := fun k => match k with
  | 0 => ("MaskBench$Plate", "hole", "[I", true)
  | 1 => ("MaskBench$Plate", "weight", "[I", true)
  | 2 => ("MaskBench$Plate", "side", "[I", true)
  | 3 => ("MaskBench$Plate", "name", "I", false)
  | 4 => ("MaskBench$Plate", "wide", "I", false)
  | 5 => ("MaskBench$Plate", "high", "I", false)
  | 6 => ("MaskBench$Plate", "cells", "I", false)
  | 7 => ("MaskBench$Plate", "holes", "I", false)
  | 8 => ("MaskBench$Plate", "weights", "I", false)
  | 9 => ("MaskBench$Plate", "sidesKnown", "Z", false)
  | 10 => ("MaskBench$Plate", "leastSide", "I", false)
  | _ => ("MaskBench$Plate", "greatestSide", "I", false)
def yC9 : Nat → FieldType := fun k => match k with
  | 0 => (.array .int)
  | 1 => (.array .int)
  | 2 => (.array .int)
  | 3 => .int
  | 4 => .int
  | 5 => .int
  | 6 => .int
  | 7 => .int
  | 8 => .int
  | 9 => .boolean
  | 10 => .int
  | _ => .int
def RC10 : String := "MaskBench$Camera"
def TC10 : u_T := fun k => match k with
  | 0 => ("MaskBench$Camera", "lost", "[I", true)
  | 1 => ("MaskBench$Camera", "whole", "[I", true)
  | 2 => ("MaskBench$Camera", "shadow", "[I", true)
  | 3 => ("MaskBench$Camera", "truth", "[I", true)
  | 4 => ("MaskBench$Camera", "decoded", "[I", true)
  | 5 => ("MaskBench$Camera", "made", "[I", true)
  | 6 => ("MaskBench$Camera", "work", "[I", true)
  | 7 => ("MaskBench$Camera", "findPlace", "[I", true)
  | 8 => ("MaskBench$Camera", "findCounts", "[I", true)
  | 9 => ("MaskBench$Camera", "finds", "I", false)
  | 10 => ("MaskBench$Camera", "worstPlace", "I", false)
  | 11 => ("MaskBench$Camera", "worstError", "I", false)
  | 12 => ("MaskBench$Camera", "lostCells", "I", false)
  | 13 => ("MaskBench$Camera", "plate", "LMaskBench$Plate;", false)
  | 14 => ("MaskBench$Camera", "scene", "LMaskBench$Scene;", false)
  | 15 => ("MaskBench$Camera", "aimed", "Z", false)
  | 16 => ("MaskBench$Camera", "isDecoded", "Z", false)
  | 17 => ("MaskBench$Camera", "isSought", "Z", false)
  | _ => ("MaskBench$Camera", "isWorstKnown", "Z", false)
def yC10 : Nat → FieldType := fun k => match k with
  | 0 => (.array .int)
  | 1 => (.array .int)
  | 2 => (.array .int)
  | 3 => (.array .int)
  | 4 => (.array .int)
  | 5 => (.array .int)
  | 6 => (.array .int)
  | 7 => (.array .int)
  | 8 => (.array .int)
  | 9 => .int
  | 10 => .int
  | 11 => .int
  | 12 => .int
  | 13 => (.object "MaskBench$Plate")
  | 14 => (.object "MaskBench$Scene")
  | 15 => .boolean
  | 16 => .boolean
  | 17 => .boolean
  | _ => .boolean
def RC11 : String := "MaskBenchModel"
def TC11 : u_T := fun k => match k with
  | 0 => ("MaskBenchModel", "status", "I", false)
  | 1 => ("MaskBenchModel", "thrown", "I", false)
  | 2 => ("MaskBenchModel", "places", "[I", true)
  | 3 => ("MaskBenchModel", "newPlaces", "[I", true)
  | 4 => ("MaskBenchModel", "plate", "[I", true)
  | 5 => ("MaskBenchModel", "newPlate", "[I", true)
  | 6 => ("MaskBenchModel", "hole", "[I", true)
  | 7 => ("MaskBenchModel", "newHole", "[I", true)
  | 8 => ("MaskBenchModel", "weight", "[I", true)
  | 9 => ("MaskBenchModel", "newWeight", "[I", true)
  | 10 => ("MaskBenchModel", "bits", "[J", true)
  | 11 => ("MaskBenchModel", "newBits", "[J", true)
  | 12 => ("MaskBenchModel", "names", "[J", true)
  | 13 => ("MaskBenchModel", "newNames", "[J", true)
  | 14 => ("MaskBenchModel", "plates", "I", false)
  | 15 => ("MaskBenchModel", "newPlates", "I", false)
  | 16 => ("MaskBenchModel", "now", "[I", true)
  | 17 => ("MaskBenchModel", "newNow", "[I", true)
  | 18 => ("MaskBenchModel", "past", "[I", true)
  | 19 => ("MaskBenchModel", "pastMany", "I", false)
  | 20 => ("MaskBenchModel", "leastSide", "[I", true)
  | 21 => ("MaskBenchModel", "mostSide", "[I", true)
  | 22 => ("MaskBenchModel", "peakSide", "[I", true)
  | 23 => ("MaskBenchModel", "areSides", "[Z", true)
  | 24 => ("MaskBenchModel", "used", "I", false)
  | 25 => ("MaskBenchModel", "shift", "I", false)
  | 26 => ("MaskBenchModel", "isNegative", "Z", false)
  | 27 => ("MaskBenchModel", "isLost", "[Z", true)
  | 28 => ("MaskBenchModel", "whole", "[I", true)
  | 29 => ("MaskBenchModel", "shadow", "[I", true)
  | 30 => ("MaskBenchModel", "decoded", "[I", true)
  | 31 => ("MaskBenchModel", "restored", "[I", true)
  | 32 => ("MaskBenchModel", "mostX", "I", false)
  | 33 => ("MaskBenchModel", "mostY", "I", false)
  | 34 => ("MaskBenchModel", "mostMany", "I", false)
  | 35 => ("MaskBenchModel", "foundRow", "[I", true)
  | 36 => ("MaskBenchModel", "foundMany", "I", false)
  | 37 => ("MaskBenchModel", "aside", "[I", true)
  | 38 => ("MaskBenchModel", "picture", "[I", true)
  | 39 => ("MaskBenchModel", "pictureWide", "I", false)
  | 40 => ("MaskBenchModel", "pictureHigh", "I", false)
  | 41 => ("MaskBenchModel", "hasPicture", "Z", false)
  | 42 => ("MaskBenchModel", "tape", "[B", true)
  | 43 => ("MaskBenchModel", "taped", "I", false)
  | 44 => ("MaskBenchModel", "faultKind", "I", false)
  | 45 => ("MaskBenchModel", "faultAt", "I", false)
  | 46 => ("MaskBenchModel", "wrong", "I", false)
  | 47 => ("MaskBenchModel", "wrongAt", "I", false)
  | 48 => ("MaskBenchModel", "place", "I", false)
  | 49 => ("MaskBenchModel", "then", "I", false)
  | 50 => ("MaskBenchModel", "sort", "I", false)
  | 51 => ("MaskBenchModel", "number", "I", false)
  | 52 => ("MaskBenchModel", "end", "I", false)
  | 53 => ("MaskBenchModel", "bitMany", "I", false)
  | 54 => ("MaskBenchModel", "word", "J", false)
  | 55 => ("MaskBenchModel", "words", "[J", true)
  | 56 => ("MaskBenchModel", "out", "[I", true)
  | _ => ("MaskBenchModel", "outMany", "I", false)
def yC11 : Nat → FieldType := fun k => match k with
  | 0 => .int
  | 1 => .int
  | 2 => (.array .int)
  | 3 => (.array .int)
  | 4 => (.array .int)
  | 5 => (.array .int)
  | 6 => (.array .int)
  | 7 => (.array .int)
  | 8 => (.array .int)
  | 9 => (.array .int)
  | 10 => (.array .long)
  | 11 => (.array .long)
  | 12 => (.array .long)
  | 13 => (.array .long)
  | 14 => .int
  | 15 => .int
  | 16 => (.array .int)
  | 17 => (.array .int)
  | 18 => (.array .int)
  | 19 => .int
  | 20 => (.array .int)
  | 21 => (.array .int)
  | 22 => (.array .int)
  | 23 => (.array .boolean)
  | 24 => .int
  | 25 => .int
  | 26 => .boolean
  | 27 => (.array .boolean)
  | 28 => (.array .int)
  | 29 => (.array .int)
  | 30 => (.array .int)
  | 31 => (.array .int)
  | 32 => .int
  | 33 => .int
  | 34 => .int
  | 35 => (.array .int)
  | 36 => .int
  | 37 => (.array .int)
  | 38 => (.array .int)
  | 39 => .int
  | 40 => .int
  | 41 => .boolean
  | 42 => (.array .byte)
  | 43 => .int
  | 44 => .int
  | 45 => .int
  | 46 => .int
  | 47 => .int
  | 48 => .int
  | 49 => .int
  | 50 => .int
  | 51 => .int
  | 52 => .int
  | 53 => .int
  | 54 => .long
  | 55 => (.array .long)
  | 56 => (.array .int)
  | _ => .int
def gCl : List vw_C := [(RC0, TC0, 13), (RC1, TC1, 2), (RC2, TC2, 6), (RC3, TC3, 5), (RC4, TC4, 3), (RC5, TC5, 5), (RC6, TC6, 4), (RC7, TC7, 5), (RC8, TC8, 4), (RC9, TC9, 12), (RC10, TC10, 19), (RC11, TC11, 58)]
def gCn_0 : List String := ["MaskBenchLaw", "MaskBench", "MaskBench$Paper", "java/lang/Math", "MaskBench$Loader", "MaskBench$Tokens", "MaskBench$History", "MaskBench$Scene", "MaskBench$Marks", "MaskBench$Picture", "MaskBench$Bench", "MaskBench$Plate", "MaskBench$Camera", "java/util/Arrays", "MaskBenchModel"]
def gCn : List String := gCn_0
def gY_0 : List MethodName := [⟨"MaskBenchLaw", "law", "([I)Z"⟩, ⟨"MaskBench", "<init>", "()V"⟩, ⟨"MaskBench$Paper", "<init>", "(I)V"⟩, ⟨"java/lang/Math", "max", "(II)I"⟩, ⟨"MaskBench$Loader", "<init>", "()V"⟩, ⟨"MaskBench$Tokens", "<init>", "()V"⟩, ⟨"MaskBench$History", "<init>", "()V"⟩, ⟨"MaskBench$Scene", "<init>", "()V"⟩, ⟨"MaskBench$Marks", "<init>", "(I)V"⟩, ⟨"MaskBench$Picture", "<init>", "()V"⟩, ⟨"MaskBench$Bench", "<init>", "()V"⟩, ⟨"MaskBench$Plate", "<init>", "()V"⟩, ⟨"MaskBench$Camera", "<init>", "(LMaskBench$Plate;LMaskBench$Scene;)V"⟩, ⟨"MaskBench", "status", "()I"⟩, ⟨"MaskBench", "feed", "(IIIII)I"⟩, ⟨"MaskBench$Paper", "putInt", "(I)V"⟩, ⟨"MaskBench$Paper", "put", "(I)V"⟩, ⟨"MaskBench", "load", "(I)I"⟩, ⟨"MaskBench", "refuse", "(I)I"⟩, ⟨"MaskBench$Loader", "read", "(LMaskBench$Paper;ILMaskBench$Bench;)Z"⟩, ⟨"MaskBench$Bench", "clear", "()V"⟩, ⟨"MaskBench$Scene", "clear", "()V"⟩, ⟨"MaskBench$Paper", "clear", "()V"⟩, ⟨"MaskBench$Tokens", "split", "(LMaskBench$Paper;I)V"⟩, ⟨"java/lang/Math", "min", "(II)I"⟩, ⟨"MaskBench$Tokens", "cut", "(LMaskBench$Paper;II)I"⟩, ⟨"MaskBench$Paper", "endOfRun", "(IIII)I"⟩, ⟨"MaskBench$Tokens", "wordOf", "(LMaskBench$Paper;II)I"⟩, ⟨"MaskBench", "packed", "(II)I"⟩, ⟨"MaskBench$Tokens", "append", "(IIII)V"⟩, ⟨"MaskBench$Tokens", "numberOf", "(LMaskBench$Paper;II)I"⟩, ⟨"MaskBench$Loader", "readLine", "(LMaskBench$Paper;LMaskBench$Bench;)Z"⟩, ⟨"MaskBench$Loader", "takeLineWord", "(LMaskBench$Bench;)Z"⟩, ⟨"MaskBench$Loader", "expect", "(I)Z"⟩, ⟨"MaskBench$Loader", "wrong", "(I)Z"⟩, ⟨"MaskBench", "keyword", "(I)I"⟩, ⟨"MaskBench$Bench", "isFullOf", "(I)Z"⟩, ⟨"MaskBench$Marks", "isFull", "()Z"⟩, ⟨"MaskBench$Loader", "takeNewName", "(LMaskBench$Bench;)Z"⟩, ⟨"MaskBench$Bench", "numberOf", "(I)I"⟩, ⟨"MaskBench$Bench", "next", "()LMaskBench$Plate;"⟩, ⟨"MaskBench$Loader", "takeFormWord", "()Z"⟩, ⟨"MaskBench$Loader", "slotsOf", "(I)Ljava/lang/String;"⟩, ⟨"MaskBench$Loader", "takeSlot", "(ILMaskBench$Paper;LMaskBench$Bench;)Z"⟩, ⟨"MaskBench$Loader", "takePrime", "(I)Z"⟩, ⟨"MaskBench", "isPrime", "(I)Z"⟩, ⟨"MaskBench$Loader", "take", "(I)Z"⟩, ⟨"MaskBench$Loader", "takeBits", "(LMaskBench$Paper;LMaskBench$Plate;)Z"⟩, ⟨"MaskBench$Plate", "makeClosedRow", "(I)V"⟩, ⟨"MaskBench$Plate", "resize", "(II)V"⟩, ⟨"java/util/Arrays", "fill", "([IIII)V"⟩, ⟨"java/util/Arrays", "rangeCheck", "(III)V"⟩, ⟨"MaskBench$Loader", "takeNumber", "(II)Z"⟩, ⟨"MaskBench$Loader", "takePlaces", "(LMaskBench$Plate;)Z"⟩, ⟨"MaskBench$Plate", "has", "(II)Z"⟩, ⟨"MaskBench$Loader", "takeNamed", "(LMaskBench$Bench;II)Z"⟩, ⟨"MaskBench$Bench", "plateOf", "(I)LMaskBench$Plate;"⟩, ⟨"MaskBench$Bench", "named", "(I)LMaskBench$Plate;"⟩, ⟨"MaskBench$Loader", "takeSign", "()Z"⟩, ⟨"MaskBench$Loader", "finishPlate", "(ILMaskBench$Bench;)V"⟩, ⟨"MaskBench$Plate", "makeRow", "(I)V"⟩, ⟨"MaskBench", "leastRoot", "(II)I"⟩, ⟨"MaskBench$Plate", "weighByHoles", "()V"⟩, ⟨"MaskBench$Plate", "makeSquare", "(I)V"⟩]
def gY_1 : List MethodName := [⟨"MaskBench$Plate", "makeTurned", "(LMaskBench$Plate;II)V"⟩, ⟨"MaskBench$Plate", "addShifted", "([I[IIII)V"⟩, ⟨"java/lang/Math", "floorMod", "(II)I"⟩, ⟨"MaskBench$Plate", "makeNegative", "(LMaskBench$Plate;)V"⟩, ⟨"MaskBench$Plate", "makeBoth", "(LMaskBench$Plate;LMaskBench$Plate;)V"⟩, ⟨"MaskBench$Plate", "xOf", "(I)I"⟩, ⟨"MaskBench$Plate", "yOf", "(I)I"⟩, ⟨"MaskBench$Plate", "countUp", "()V"⟩, ⟨"MaskBench", "sumOf", "([III)I"⟩, ⟨"MaskBench$Loader", "tellLine", "(ILMaskBench$Paper;LMaskBench$Paper;)V"⟩, ⟨"MaskBench$Paper", "putBlank", "()V"⟩, ⟨"MaskBench$Loader", "finishScene", "(ILMaskBench$Scene;)V"⟩, ⟨"MaskBench$Marks", "append", "(III)V"⟩, ⟨"MaskBench$History", "clear", "()V"⟩, ⟨"MaskBench$Picture", "clear", "()V"⟩, ⟨"MaskBench$Camera", "forget", "()V"⟩, ⟨"MaskBench", "answer", "(I)I"⟩, ⟨"MaskBench", "fault", "(I)I"⟩, ⟨"MaskBench", "many", "(I)I"⟩, ⟨"MaskBench", "plate", "(II)I"⟩, ⟨"MaskBench$Plate", "figure", "(I)I"⟩, ⟨"MaskBench$Plate", "knowSides", "()V"⟩, ⟨"MaskBench$Plate", "addOverHoles", "([I[I)V"⟩, ⟨"MaskBench$Plate", "leastBehindFirst", "([I)I"⟩, ⟨"MaskBench$Plate", "greatestBehindFirst", "([I)I"⟩, ⟨"MaskBench", "cell", "(IIII)I"⟩, ⟨"MaskBench", "differences", "(II)I"⟩, ⟨"MaskBench$Plate", "timesBehindFirst", "([II)I"⟩, ⟨"MaskBench", "window", "(IIIII)I"⟩, ⟨"MaskBench$Plate", "indexOf", "(II)I"⟩, ⟨"MaskBench", "alike", "(II)I"⟩, ⟨"MaskBench$Plate", "isTurned", "(LMaskBench$Plate;)Z"⟩, ⟨"MaskBench$Plate", "hasHolesOf", "(LMaskBench$Plate;II)Z"⟩, ⟨"MaskBench", "root", "(II)I"⟩, ⟨"MaskBench", "thing", "(III)I"⟩, ⟨"MaskBench$Scene", "marksOf", "(I)LMaskBench$Marks;"⟩, ⟨"MaskBench$Marks", "has", "(I)Z"⟩, ⟨"MaskBench", "add", "(IIII)I"⟩, ⟨"MaskBench", "isCounting", "(I)Z"⟩, ⟨"MaskBench", "isPlace", "(II)Z"⟩, ⟨"MaskBench", "beginAct", "()V"⟩, ⟨"MaskBench$History", "save", "(LMaskBench$Scene;)V"⟩, ⟨"MaskBench$Scene", "copyFrom", "(LMaskBench$Scene;)V"⟩, ⟨"MaskBench$Marks", "copyFrom", "(LMaskBench$Marks;)V"⟩, ⟨"MaskBench", "drop", "(II)I"⟩, ⟨"MaskBench", "takeOut", "(LMaskBench$Marks;I)I"⟩, ⟨"MaskBench$Marks", "takeOut", "(I)V"⟩, ⟨"MaskBench", "lose", "(II)I"⟩, ⟨"MaskBench$Marks", "tells", "(II)Z"⟩, ⟨"MaskBench", "heal", "(I)I"⟩, ⟨"MaskBench", "light", "(I)I"⟩, ⟨"MaskBench", "use", "(I)I"⟩, ⟨"MaskBench", "slide", "(II)I"⟩, ⟨"MaskBench$Marks", "shift", "(II)V"⟩, ⟨"MaskBench", "undo", "()I"⟩, ⟨"MaskBench$History", "takeBack", "(LMaskBench$Scene;)V"⟩, ⟨"MaskBench", "at", "(III)I"⟩, ⟨"MaskBench", "lookAt", "(II)I"⟩, ⟨"MaskBench", "look", "()I"⟩, ⟨"MaskBench$Bench", "plateInUse", "()LMaskBench$Plate;"⟩, ⟨"MaskBench$Camera", "aim", "(LMaskBench$Plate;LMaskBench$Scene;)V"⟩, ⟨"MaskBench$Camera", "markLost", "()V"⟩, ⟨"MaskBench$Camera", "addCounts", "([ILMaskBench$Marks;)V"⟩, ⟨"MaskBench$Camera", "throwAll", "([II)V"⟩]
def gY_2 : List MethodName := [⟨"MaskBench", "lookToRestore", "()I"⟩, ⟨"MaskBench$Plate", "canRestore", "()Z"⟩, ⟨"MaskBench$Camera", "figureAt", "(II)I"⟩, ⟨"MaskBench$Camera", "decode", "()V"⟩, ⟨"MaskBench$Plate", "decodeAll", "([I[I)V"⟩, ⟨"MaskBench$Plate", "addMirrored", "([I[III)V"⟩, ⟨"MaskBench$Camera", "findMoved", "()V"⟩, ⟨"MaskBench$Camera", "lightSeen", "()I"⟩, ⟨"MaskBench$Camera", "floorBy", "(I)I"⟩, ⟨"MaskBench$Camera", "lightByHoles", "(I)I"⟩, ⟨"java/lang/Math", "floorDiv", "(II)I"⟩, ⟨"MaskBench$Camera", "restoredBy", "(II)I"⟩, ⟨"MaskBench", "all", "(I)I"⟩, ⟨"MaskBench$Camera", "figure", "(I)I"⟩, ⟨"MaskBench$Camera", "errorOf", "([II)I"⟩, ⟨"java/lang/Math", "abs", "(I)I"⟩, ⟨"MaskBench$Camera", "movedPlaces", "()I"⟩, ⟨"MaskBench$Camera", "farthestMoved", "()I"⟩, ⟨"MaskBench", "peak", "(I)I"⟩, ⟨"MaskBench$Camera", "timesGreatest", "([I)I"⟩, ⟨"MaskBench$Camera", "placeOfGreatest", "([I)I"⟩, ⟨"MaskBench$Camera", "figureOfGreatest", "([II)I"⟩, ⟨"MaskBench$Plate", "xOrY", "(II)I"⟩, ⟨"MaskBench", "found", "(II)I"⟩, ⟨"MaskBench$Camera", "seekSources", "()V"⟩, ⟨"MaskBench$Camera", "takeFromMade", "(II)I"⟩, ⟨"MaskBench$Camera", "throwsOn", "(II)I"⟩, ⟨"MaskBench", "frames", "(IIII)I"⟩, ⟨"MaskBench$Camera", "frameAt", "(III)I"⟩, ⟨"MaskBench$Camera", "clearLost", "([I)V"⟩, ⟨"MaskBench$Plate", "weighed", "([III)I"⟩, ⟨"MaskBench", "filled", "(I)I"⟩, ⟨"MaskBench$Camera", "fillLost", "()V"⟩, ⟨"MaskBench$Camera", "thrownByFound", "(I)I"⟩, ⟨"MaskBench$Camera", "errorFilled", "()I"⟩, ⟨"MaskBench$Camera", "farthestFilled", "()I"⟩, ⟨"MaskBench", "coarse", "(II)I"⟩, ⟨"MaskBench", "anti", "(II)I"⟩, ⟨"MaskBench$Camera", "antiAt", "(II)I"⟩, ⟨"MaskBench", "keep", "()I"⟩, ⟨"MaskBench$Picture", "take", "(LMaskBench$Camera;)V"⟩, ⟨"MaskBench", "match", "(I)J"⟩, ⟨"MaskBench$Picture", "fits", "(LMaskBench$Plate;)Z"⟩, ⟨"MaskBench$Picture", "lay", "(LMaskBench$Camera;)V"⟩, ⟨"MaskBench$Picture", "sumAt", "(LMaskBench$Camera;II)J"⟩, ⟨"MaskBench", "minus", "(II)I"⟩, ⟨"MaskBench", "shots", "(III)I"⟩, ⟨"MaskBench$Camera", "shoot", "(III)I"⟩, ⟨"MaskBench$Camera", "placeOfNumber", "(I)I"⟩, ⟨"MaskBench$Camera", "figureOfShots", "(I)I"⟩, ⟨"MaskBench", "best", "(I)I"⟩, ⟨"MaskBench", "worst", "(I)I"⟩, ⟨"MaskBench$Camera", "seekWorst", "()V"⟩, ⟨"MaskBench", "print", "()I"⟩, ⟨"MaskBench$Paper", "putAll", "(LMaskBench$Paper;)V"⟩, ⟨"MaskBench", "printMarks", "(Ljava/lang/String;LMaskBench$Marks;Z)V"⟩, ⟨"MaskBench$Paper", "putWord", "(Ljava/lang/String;)V"⟩, ⟨"MaskBench$Paper", "putNumber", "(I)V"⟩, ⟨"MaskBench$Paper", "putName", "(I)V"⟩, ⟨"MaskBench", "out", "(I)I"⟩, ⟨"MaskBenchModel", "<init>", "()V"⟩, ⟨"MaskBenchModel", "status", "()I"⟩, ⟨"MaskBenchModel", "many", "(I)I"⟩, ⟨"MaskBenchModel", "isIn", "(JJJ)Z"⟩]
def gY_3 : List MethodName := [⟨"MaskBenchModel", "is", "(I)Z"⟩, ⟨"MaskBenchModel", "plate", "(II)I"⟩, ⟨"MaskBenchModel", "isPlate", "(I)Z"⟩, ⟨"MaskBenchModel", "cellsOf", "(I)I"⟩, ⟨"MaskBenchModel", "wideOf", "(I)I"⟩, ⟨"MaskBenchModel", "highOf", "(I)I"⟩, ⟨"MaskBenchModel", "laysSides", "(I)V"⟩, ⟨"MaskBenchModel", "sideOf", "(III)I"⟩, ⟨"MaskBenchModel", "isHole", "(III)Z"⟩, ⟨"MaskBenchModel", "indexOf", "(III)I"⟩, ⟨"MaskBenchModel", "round", "(II)I"⟩, ⟨"MaskBenchModel", "weightOf", "(III)I"⟩, ⟨"MaskBenchModel", "holesOf", "(I)I"⟩, ⟨"MaskBenchModel", "weightsOf", "(I)I"⟩, ⟨"MaskBenchModel", "isFlat", "(I)Z"⟩, ⟨"MaskBenchModel", "cell", "(IIII)I"⟩, ⟨"MaskBenchModel", "isOn", "(III)Z"⟩, ⟨"MaskBenchModel", "alike", "(II)I"⟩, ⟨"MaskBenchModel", "areAlike", "(IIII)Z"⟩, ⟨"MaskBenchModel", "root", "(II)I"⟩, ⟨"MaskBenchModel", "isPrime", "(I)Z"⟩, ⟨"MaskBenchModel", "rootOf", "(II)I"⟩, ⟨"MaskBenchModel", "differences", "(II)I"⟩, ⟨"MaskBenchModel", "differencesAt", "(III)I"⟩, ⟨"MaskBenchModel", "window", "(IIIII)I"⟩, ⟨"MaskBenchModel", "thing", "(III)I"⟩, ⟨"MaskBenchModel", "isThing", "(II)Z"⟩, ⟨"MaskBenchModel", "manyOf", "(I)I"⟩, ⟨"MaskBenchModel", "rowOf", "(I)I"⟩, ⟨"MaskBenchModel", "add", "(IIII)I"⟩, ⟨"MaskBenchModel", "comes", "(IIII)I"⟩, ⟨"MaskBenchModel", "remembers", "()V"⟩, ⟨"MaskBenchModel", "drop", "(II)I"⟩, ⟨"MaskBenchModel", "goes", "(II)I"⟩, ⟨"MaskBenchModel", "lose", "(II)I"⟩, ⟨"MaskBenchModel", "heal", "(I)I"⟩, ⟨"MaskBenchModel", "light", "(I)I"⟩, ⟨"MaskBenchModel", "changes", "(II)I"⟩, ⟨"MaskBenchModel", "use", "(I)I"⟩, ⟨"MaskBenchModel", "slide", "(II)I"⟩, ⟨"MaskBenchModel", "undo", "()I"⟩, ⟨"MaskBenchModel", "at", "(III)I"⟩, ⟨"MaskBenchModel", "whyAt", "(ZII)I"⟩, ⟨"MaskBenchModel", "canRestore", "(I)Z"⟩, ⟨"MaskBenchModel", "uses", "(I)V"⟩, ⟨"MaskBenchModel", "laysShadows", "()V"⟩, ⟨"MaskBenchModel", "laysLost", "()V"⟩, ⟨"MaskBenchModel", "cellAt", "(II)I"⟩, ⟨"MaskBenchModel", "high", "()I"⟩, ⟨"MaskBenchModel", "wide", "()I"⟩, ⟨"MaskBenchModel", "wholeAt", "(II)I"⟩, ⟨"MaskBenchModel", "letsThrough", "(II)Z"⟩, ⟨"MaskBenchModel", "cells0", "()I"⟩, ⟨"MaskBenchModel", "decodedAt", "([III)I"⟩, ⟨"MaskBenchModel", "restoredFrom", "(I)I"⟩, ⟨"MaskBenchModel", "light", "()I"⟩, ⟨"MaskBenchModel", "lostCells", "()I"⟩, ⟨"MaskBenchModel", "downBy", "(II)I"⟩, ⟨"MaskBenchModel", "trueAt", "(II)I"⟩, ⟨"MaskBenchModel", "all", "(I)I"⟩, ⟨"MaskBenchModel", "whyAll", "(I)I"⟩, ⟨"MaskBenchModel", "sumOf", "([IZ)I"⟩, ⟨"MaskBenchModel", "errorNow", "()I"⟩, ⟨"MaskBenchModel", "decodes", "([I)V"⟩]
def gY_4 : List MethodName := [⟨"MaskBenchModel", "moved", "(Z)I"⟩, ⟨"MaskBenchModel", "peak", "(I)I"⟩, ⟨"MaskBenchModel", "laysMost", "()I"⟩, ⟨"MaskBenchModel", "found", "(II)I"⟩, ⟨"MaskBenchModel", "finds", "()V"⟩, ⟨"MaskBenchModel", "refuse", "(I)I"⟩, ⟨"MaskBenchModel", "filled", "(I)I"⟩, ⟨"MaskBenchModel", "fills", "()I"⟩, ⟨"MaskBenchModel", "coarse", "(II)I"⟩, ⟨"MaskBenchModel", "frames", "(IIII)I"⟩, ⟨"MaskBenchModel", "anti", "(II)I"⟩, ⟨"MaskBenchModel", "keep", "()I"⟩, ⟨"MaskBenchModel", "match", "(I)J"⟩, ⟨"MaskBenchModel", "fitsPicture", "()Z"⟩, ⟨"MaskBenchModel", "matchAt", "(II)J"⟩, ⟨"MaskBenchModel", "minus", "(II)I"⟩, ⟨"MaskBenchModel", "shots", "(III)I"⟩, ⟨"MaskBenchModel", "cellOf", "(J)I"⟩, ⟨"MaskBenchModel", "best", "(I)I"⟩, ⟨"MaskBenchModel", "worst", "(I)I"⟩, ⟨"MaskBenchModel", "feed", "(IIIII)I"⟩, ⟨"MaskBenchModel", "feeds", "(I)V"⟩, ⟨"MaskBenchModel", "load", "(I)I"⟩, ⟨"MaskBenchModel", "reads", "()V"⟩, ⟨"MaskBenchModel", "isOf", "(III)Z"⟩, ⟨"MaskBenchModel", "good", "()Z"⟩, ⟨"MaskBenchModel", "line", "()V"⟩, ⟨"MaskBenchModel", "isWord", "(I)Z"⟩, ⟨"MaskBenchModel", "readsPlate", "()V"⟩, ⟨"MaskBenchModel", "begins", "(II)Z"⟩, ⟨"MaskBenchModel", "must", "(ZI)V"⟩, ⟨"MaskBenchModel", "goesOn", "()V"⟩, ⟨"MaskBenchModel", "isName", "()Z"⟩, ⟨"MaskBenchModel", "plateNamed", "()I"⟩, ⟨"MaskBenchModel", "readsForm", "()V"⟩, ⟨"MaskBenchModel", "takesPrime", "(I)I"⟩, ⟨"MaskBenchModel", "makesRow", "(I)V"⟩, ⟨"MaskBenchModel", "tells", "(IIII)V"⟩, ⟨"MaskBenchModel", "sizes", "(II)V"⟩, ⟨"MaskBenchModel", "isResidue", "(II)Z"⟩, ⟨"MaskBenchModel", "puts", "(IZI)V"⟩, ⟨"MaskBenchModel", "makesSquare", "(I)V"⟩, ⟨"MaskBenchModel", "makesBits", "(JI)V"⟩, ⟨"MaskBenchModel", "makesSet", "()V"⟩, ⟨"MaskBenchModel", "takesNumber", "(II)I"⟩, ⟨"MaskBenchModel", "takesPlate", "(ZI)I"⟩, ⟨"MaskBenchModel", "makesTurn", "(III)V"⟩, ⟨"MaskBenchModel", "makesNegative", "(I)V"⟩, ⟨"MaskBenchModel", "makesBoth", "(II)V"⟩, ⟨"MaskBenchModel", "readsThing", "(II)V"⟩, ⟨"MaskBenchModel", "fault", "(I)I"⟩, ⟨"MaskBenchModel", "print", "()I"⟩, ⟨"MaskBenchModel", "saysPlate", "(I)V"⟩, ⟨"MaskBenchModel", "saysWord", "(JZ)V"⟩, ⟨"MaskBenchModel", "says", "(I)V"⟩, ⟨"MaskBenchModel", "saysNumber", "(I)V"⟩, ⟨"MaskBenchModel", "saysBits", "(I)V"⟩, ⟨"MaskBenchModel", "saysThings", "(I)V"⟩, ⟨"MaskBenchModel", "out", "(I)I"⟩]
def gY : List MethodName := gY_0 ++ (gY_1 ++ (gY_2 ++ (gY_3 ++ (gY_4))))
def gB_0 : List ByteArray := [code, prog_1_method_1_code, prog_7_method_1_code, prog_14_method_65_code, prog_5_method_1_code, prog_11_method_1_code, prog_4_method_1_code, prog_10_method_1_code, prog_6_method_1_code, prog_8_method_1_code, prog_2_method_1_code, prog_9_method_1_code, prog_3_method_1_code, prog_1_method_2_code, prog_1_method_3_code, prog_7_method_4_code, prog_7_method_3_code, prog_1_method_4_code, prog_1_method_39_code, prog_5_method_2_code, prog_2_method_2_code, prog_10_method_3_code, prog_7_method_2_code, prog_11_method_2_code, prog_14_method_69_code, prog_11_method_3_code, prog_7_method_6_code, prog_11_method_5_code, prog_1_method_51_code, prog_11_method_4_code, prog_11_method_6_code, prog_5_method_3_code, prog_5_method_6_code, prog_5_method_16_code, prog_5_method_17_code, prog_1_method_52_code, prog_2_method_7_code, prog_6_method_3_code, prog_5_method_8_code, prog_2_method_8_code, prog_2_method_6_code, prog_5_method_7_code, prog_5_method_4_code, prog_5_method_5_code, prog_5_method_11_code, prog_1_method_49_code, prog_5_method_15_code, prog_5_method_12_code, prog_9_method_7_code, prog_9_method_13_code, prog_19_method_104_code, prog_19_method_30_code, prog_5_method_10_code, prog_5_method_13_code, prog_9_method_2_code, prog_5_method_9_code, prog_2_method_3_code, prog_2_method_5_code, prog_5_method_14_code, prog_5_method_18_code, prog_9_method_8_code, prog_1_method_50_code, prog_9_method_14_code, prog_9_method_9_code]
def gB_1 : List ByteArray := [prog_9_method_10_code, prog_9_method_16_code, prog_14_method_50_code, prog_9_method_11_code, prog_9_method_12_code, prog_9_method_4_code, prog_9_method_5_code, prog_9_method_15_code, prog_1_method_48_code, prog_5_method_20_code, prog_7_method_7_code, prog_5_method_19_code, prog_6_method_5_code, prog_4_method_2_code, prog_8_method_2_code, prog_3_method_2_code, prog_1_method_38_code, prog_1_method_5_code, prog_1_method_6_code, prog_1_method_7_code, prog_9_method_25_code, prog_9_method_24_code, prog_9_method_18_code, prog_9_method_21_code, prog_9_method_22_code, prog_1_method_8_code, prog_1_method_9_code, prog_9_method_23_code, prog_1_method_10_code, prog_9_method_3_code, prog_1_method_11_code, prog_9_method_27_code, prog_9_method_28_code, prog_1_method_12_code, prog_1_method_13_code, prog_10_method_2_code, prog_6_method_2_code, prog_1_method_14_code, prog_1_method_46_code, prog_1_method_47_code, prog_1_method_40_code, prog_4_method_3_code, prog_10_method_4_code, prog_6_method_8_code, prog_1_method_15_code, prog_1_method_44_code, prog_6_method_6_code, prog_1_method_16_code, prog_6_method_4_code, prog_1_method_17_code, prog_1_method_18_code, prog_1_method_19_code, prog_1_method_20_code, prog_6_method_7_code, prog_1_method_21_code, prog_4_method_4_code, prog_1_method_22_code, prog_1_method_42_code, prog_1_method_41_code, prog_2_method_4_code, prog_3_method_3_code, prog_3_method_4_code, prog_3_method_5_code, prog_3_method_6_code]
def gB_2 : List ByteArray := [prog_1_method_43_code, prog_9_method_26_code, prog_3_method_9_code, prog_3_method_8_code, prog_9_method_19_code, prog_9_method_17_code, prog_3_method_16_code, prog_3_method_11_code, prog_3_method_13_code, prog_3_method_12_code, prog_14_method_47_code, prog_3_method_14_code, prog_1_method_23_code, prog_3_method_10_code, prog_3_method_15_code, prog_14_method_59_code, prog_3_method_17_code, prog_3_method_18_code, prog_1_method_24_code, prog_3_method_20_code, prog_3_method_19_code, prog_3_method_21_code, prog_9_method_6_code, prog_1_method_25_code, prog_3_method_22_code, prog_3_method_23_code, prog_3_method_24_code, prog_1_method_26_code, prog_3_method_25_code, prog_3_method_7_code, prog_9_method_20_code, prog_1_method_27_code, prog_3_method_26_code, prog_3_method_27_code, prog_3_method_28_code, prog_3_method_29_code, prog_1_method_28_code, prog_1_method_29_code, prog_3_method_30_code, prog_1_method_30_code, prog_8_method_4_code, prog_1_method_31_code, prog_8_method_3_code, prog_8_method_5_code, prog_8_method_6_code, prog_1_method_32_code, prog_1_method_33_code, prog_3_method_31_code, prog_3_method_32_code, prog_3_method_33_code, prog_1_method_34_code, prog_1_method_35_code, prog_3_method_34_code, prog_1_method_36_code, prog_7_method_5_code, prog_1_method_45_code, prog_7_method_8_code, prog_7_method_9_code, prog_7_method_10_code, prog_1_method_37_code, prog_13_method_1_code, prog_13_method_3_code, prog_13_method_40_code, prog_13_method_6_code]
def gB_3 : List ByteArray := [prog_13_method_5_code, prog_13_method_41_code, prog_13_method_9_code, prog_13_method_12_code, prog_13_method_10_code, prog_13_method_11_code, prog_13_method_20_code, prog_13_method_19_code, prog_13_method_14_code, prog_13_method_13_code, prog_13_method_8_code, prog_13_method_15_code, prog_13_method_17_code, prog_13_method_18_code, prog_13_method_21_code, prog_13_method_42_code, prog_13_method_16_code, prog_13_method_44_code, prog_13_method_43_code, prog_13_method_47_code, prog_13_method_45_code, prog_13_method_46_code, prog_13_method_49_code, prog_13_method_48_code, prog_13_method_50_code, prog_13_method_54_code, prog_13_method_53_code, prog_13_method_51_code, prog_13_method_52_code, prog_13_method_58_code, prog_13_method_56_code, prog_13_method_55_code, prog_13_method_59_code, prog_13_method_57_code, prog_13_method_60_code, prog_13_method_61_code, prog_13_method_63_code, prog_13_method_62_code, prog_13_method_64_code, prog_13_method_65_code, prog_13_method_66_code, prog_13_method_68_code, prog_13_method_67_code, prog_13_method_22_code, prog_13_method_23_code, prog_13_method_31_code, prog_13_method_29_code, prog_13_method_28_code, prog_13_method_26_code, prog_13_method_25_code, prog_13_method_30_code, prog_13_method_24_code, prog_13_method_27_code, prog_13_method_32_code, prog_13_method_36_code, prog_13_method_35_code, prog_13_method_34_code, prog_13_method_7_code, prog_13_method_37_code, prog_13_method_72_code, prog_13_method_71_code, prog_13_method_70_code, prog_13_method_38_code, prog_13_method_33_code]
def gB_4 : List ByteArray := [prog_13_method_69_code, prog_13_method_73_code, prog_13_method_39_code, prog_13_method_75_code, prog_13_method_74_code, prog_13_method_4_code, prog_13_method_77_code, prog_13_method_76_code, prog_13_method_78_code, prog_13_method_79_code, prog_13_method_80_code, prog_13_method_81_code, prog_13_method_84_code, prog_13_method_82_code, prog_13_method_83_code, prog_13_method_85_code, prog_13_method_87_code, prog_13_method_86_code, prog_13_method_88_code, prog_13_method_89_code, prog_13_method_91_code, prog_13_method_90_code, prog_13_method_119_code, prog_13_method_93_code, prog_13_method_92_code, prog_13_method_94_code, prog_13_method_118_code, prog_13_method_97_code, prog_13_method_116_code, prog_13_method_102_code, prog_13_method_95_code, prog_13_method_96_code, prog_13_method_98_code, prog_13_method_100_code, prog_13_method_115_code, prog_13_method_114_code, prog_13_method_107_code, prog_13_method_104_code, prog_13_method_103_code, prog_13_method_106_code, prog_13_method_105_code, prog_13_method_108_code, prog_13_method_109_code, prog_13_method_110_code, prog_13_method_99_code, prog_13_method_101_code, prog_13_method_111_code, prog_13_method_112_code, prog_13_method_113_code, prog_13_method_117_code, prog_13_method_120_code, prog_13_method_127_code, prog_13_method_125_code, prog_13_method_122_code, prog_13_method_121_code, prog_13_method_123_code, prog_13_method_124_code, prog_13_method_126_code, prog_13_method_128_code]
def gB : List ByteArray := gB_0 ++ (gB_1 ++ (gB_2 ++ (gB_3 ++ (gB_4))))
def gR_0 : List (Option FieldType) := [some .boolean, none, none, some .int, none, none, none, none, none, none, none, none, none, some .int, some .int, none, none, some .int, some .int, some .boolean, none, none, none, none, some .int, some .int, some .int, some .int, some .int, none, some .int, some .boolean, some .boolean, some .boolean, some .boolean, some .int, some .boolean, some .boolean, some .boolean, some .int, some (.object "MaskBench$Plate"), some .boolean, some (.object "java/lang/String"), some .boolean, some .boolean, some .boolean, some .boolean, some .boolean, none, none, none, none, some .boolean, some .boolean, some .boolean, some .boolean, some (.object "MaskBench$Plate"), some (.object "MaskBench$Plate"), some .boolean, none, none, some .int, none, none]
def gR_1 : List (Option FieldType) := [none, none, some .int, none, none, some .int, some .int, none, some .int, none, none, none, none, none, none, none, some .int, some .int, some .int, some .int, some .int, none, none, some .int, some .int, some .int, some .int, some .int, some .int, some .int, some .int, some .boolean, some .boolean, some .int, some .int, some (.object "MaskBench$Marks"), some .boolean, some .int, some .boolean, some .boolean, none, none, none, none, some .int, some .int, none, some .int, some .boolean, some .int, some .int, some .int, some .int, none, some .int, none, some .int, some .int, some .int, some (.object "MaskBench$Plate"), none, none, none, none]
def gR_2 : List (Option FieldType) := [some .int, some .boolean, some .int, none, none, none, none, some .int, some .int, some .int, some .int, some .int, some .int, some .int, some .int, some .int, some .int, some .int, some .int, some .int, some .int, some .int, some .int, some .int, none, some .int, some .int, some .int, some .int, none, some .int, some .int, none, some .int, some .int, some .int, some .int, some .int, some .int, some .int, none, some .long, some .boolean, none, some .long, some .int, some .int, some .int, some .int, some .int, some .int, some .int, none, some .int, none, none, none, none, none, some .int, none, some .int, some .int, some .boolean]
def gR_3 : List (Option FieldType) := [some .boolean, some .int, some .boolean, some .int, some .int, some .int, none, some .int, some .boolean, some .int, some .int, some .int, some .int, some .int, some .boolean, some .int, some .boolean, some .int, some .boolean, some .int, some .boolean, some .int, some .int, some .int, some .int, some .int, some .boolean, some .int, some .int, some .int, some .int, none, some .int, some .int, some .int, some .int, some .int, some .int, some .int, some .int, some .int, some .int, some .int, some .boolean, none, none, none, some .int, some .int, some .int, some .int, some .boolean, some .int, some .int, some .int, some .int, some .int, some .int, some .int, some .int, some .int, some .int, some .int, none]
def gR_4 : List (Option FieldType) := [some .int, some .int, some .int, some .int, none, some .int, some .int, some .int, some .int, some .int, some .int, some .int, some .long, some .boolean, some .long, some .int, some .int, some .int, some .int, some .int, some .int, none, some .int, none, some .boolean, some .boolean, none, some .boolean, none, some .boolean, none, none, some .boolean, some .int, none, some .int, none, none, none, some .boolean, none, none, none, none, some .int, some .int, none, none, none, none, some .int, some .int, none, none, none, none, none, none, some .int]
def gR : List (Option FieldType) := gR_0 ++ (gR_1 ++ (gR_2 ++ (gR_3 ++ (gR_4))))
def gM_0 : List (Nat × Nat × Nat × Nat) := [(1, 4, 0, 4), (1, 1, 0, 0), (2, 2, 1, 0), (2, 2, 0, 1), (1, 1, 2, 0), (1, 1, 3, 0), (1, 2, 4, 0), (1, 1, 5, 0), (2, 3, 6, 0), (1, 1, 7, 0), (1, 2, 8, 0), (1, 1, 9, 0), (3, 3, 10, 0), (1, 1, 0, 1), (6, 6, 0, 1), (2, 3, 1, 0), (2, 2, 1, 0), (2, 4, 0, 1), (2, 2, 0, 1), (4, 5, 2, 4), (1, 1, 8, 0), (1, 1, 5, 0), (1, 1, 1, 0), (3, 6, 3, 0), (2, 2, 0, 1), (4, 7, 3, 1), (5, 6, 1, 1), (3, 5, 3, 1), (2, 2, 0, 1), (5, 5, 3, 0), (3, 5, 3, 1), (3, 7, 2, 4), (2, 3, 2, 4), (2, 2, 2, 4), (2, 2, 2, 4), (1, 5, 0, 1), (2, 2, 8, 4), (1, 1, 6, 4), (2, 3, 2, 4), (2, 3, 8, 1), (1, 1, 8, 3), (1, 2, 2, 4), (1, 1, 2, 3), (4, 4, 2, 4), (2, 3, 2, 4), (1, 2, 0, 4), (2, 2, 2, 4), (3, 5, 2, 4), (2, 2, 9, 0), (3, 4, 9, 0), (4, 5, 0, 0), (3, 3, 0, 0), (3, 4, 2, 4), (2, 4, 2, 4), (3, 3, 9, 4), (4, 6, 2, 4), (2, 2, 8, 3), (2, 2, 8, 3), (1, 1, 2, 4), (3, 4, 2, 0), (2, 3, 9, 0), (2, 3, 0, 1), (1, 2, 9, 0), (2, 7, 9, 0)]
def gM_1 : List (Nat × Nat × Nat × Nat) := [(4, 4, 9, 0), (6, 12, 9, 0), (2, 3, 0, 1), (2, 3, 9, 0), (3, 6, 9, 0), (2, 2, 9, 1), (2, 2, 9, 1), (1, 1, 9, 0), (3, 5, 0, 1), (4, 6, 2, 0), (1, 1, 1, 0), (3, 3, 2, 0), (4, 4, 6, 0), (1, 1, 4, 0), (1, 1, 7, 0), (1, 1, 10, 0), (2, 2, 0, 1), (2, 2, 0, 1), (2, 2, 0, 1), (3, 4, 0, 1), (2, 2, 9, 1), (1, 1, 9, 0), (3, 4, 9, 0), (2, 4, 9, 1), (2, 4, 9, 1), (5, 7, 0, 1), (3, 5, 0, 1), (3, 5, 9, 1), (6, 10, 0, 1), (3, 3, 9, 1), (3, 5, 0, 1), (2, 3, 9, 4), (4, 5, 9, 4), (3, 4, 0, 1), (4, 5, 0, 1), (2, 2, 5, 3), (2, 2, 6, 4), (5, 6, 0, 1), (1, 1, 0, 4), (2, 2, 0, 4), (1, 1, 0, 0), (2, 2, 4, 0), (2, 2, 5, 0), (2, 3, 6, 0), (3, 3, 0, 1), (3, 3, 0, 1), (2, 3, 6, 0), (3, 4, 0, 1), (3, 4, 6, 4), (2, 2, 0, 1), (2, 3, 0, 1), (2, 3, 0, 1), (3, 4, 0, 1), (3, 4, 6, 0), (1, 1, 0, 1), (2, 2, 4, 0), (4, 5, 0, 1), (3, 4, 0, 1), (1, 2, 0, 1), (1, 1, 8, 3), (3, 4, 10, 0), (1, 3, 10, 0), (3, 4, 10, 0), (3, 5, 10, 0)]
def gM_2 : List (Nat × Nat × Nat × Nat) := [(1, 2, 0, 1), (1, 1, 9, 4), (3, 3, 10, 1), (1, 1, 10, 0), (3, 4, 9, 0), (5, 10, 9, 0), (1, 2, 10, 0), (1, 1, 10, 1), (2, 2, 10, 1), (2, 2, 10, 1), (2, 3, 0, 1), (3, 4, 10, 1), (2, 3, 0, 1), (2, 2, 10, 1), (3, 6, 10, 1), (1, 1, 0, 1), (1, 3, 10, 1), (1, 3, 10, 1), (2, 3, 0, 1), (2, 5, 10, 1), (2, 4, 10, 1), (3, 4, 10, 1), (3, 3, 9, 1), (3, 4, 0, 1), (1, 5, 10, 0), (3, 5, 10, 1), (3, 5, 10, 1), (5, 8, 0, 1), (4, 4, 10, 1), (2, 3, 10, 0), (4, 6, 9, 1), (2, 3, 0, 1), (1, 2, 10, 0), (2, 4, 10, 1), (1, 1, 10, 1), (1, 3, 10, 1), (3, 4, 0, 1), (3, 4, 0, 1), (3, 6, 10, 1), (1, 2, 0, 1), (2, 2, 7, 0), (2, 3, 0, 2), (2, 2, 7, 4), (2, 6, 7, 0), (4, 11, 7, 2), (3, 5, 0, 1), (4, 7, 0, 1), (4, 9, 10, 1), (2, 4, 10, 1), (2, 2, 10, 1), (2, 7, 0, 1), (2, 3, 0, 1), (1, 4, 10, 0), (1, 2, 0, 1), (2, 3, 1, 0), (4, 5, 0, 0), (2, 3, 1, 0), (2, 3, 1, 0), (2, 4, 1, 0), (2, 2, 0, 1), (1, 1, 11, 0), (1, 1, 11, 1), (2, 2, 11, 1), (3, 6, 11, 4)]
def gM_3 : List (Nat × Nat × Nat × Nat) := [(2, 2, 11, 4), (3, 3, 11, 1), (2, 2, 11, 4), (2, 2, 11, 1), (2, 2, 11, 1), (2, 2, 11, 1), (2, 6, 11, 0), (4, 7, 11, 1), (4, 4, 11, 4), (4, 4, 11, 1), (2, 2, 11, 1), (4, 4, 11, 1), (2, 4, 11, 1), (2, 4, 11, 1), (2, 2, 11, 4), (5, 5, 11, 1), (4, 4, 11, 4), (3, 5, 11, 1), (5, 7, 11, 4), (3, 3, 11, 1), (1, 2, 11, 4), (2, 3, 11, 1), (3, 8, 11, 1), (4, 7, 11, 1), (6, 9, 11, 1), (4, 5, 11, 1), (3, 3, 11, 4), (1, 1, 11, 1), (1, 1, 11, 1), (5, 6, 11, 1), (5, 7, 11, 1), (1, 2, 11, 0), (3, 3, 11, 1), (3, 4, 11, 1), (3, 5, 11, 1), (2, 2, 11, 1), (2, 2, 11, 1), (3, 4, 11, 1), (2, 2, 11, 1), (3, 5, 11, 1), (1, 2, 11, 1), (4, 5, 11, 1), (4, 4, 11, 1), (2, 2, 11, 4), (2, 2, 11, 0), (1, 3, 11, 0), (1, 2, 11, 0), (3, 3, 11, 1), (1, 1, 11, 1), (1, 1, 11, 1), (3, 5, 11, 1), (3, 3, 11, 4), (1, 1, 11, 1), (4, 7, 11, 1), (2, 3, 11, 1), (1, 3, 11, 1), (1, 3, 11, 1), (2, 3, 11, 1), (3, 5, 11, 1), (2, 2, 11, 1), (2, 2, 11, 1), (3, 5, 11, 1), (1, 8, 11, 1), (2, 4, 11, 0)]
def gM_4 : List (Nat × Nat × Nat × Nat) := [(2, 6, 11, 1), (2, 3, 11, 1), (1, 3, 11, 1), (3, 4, 11, 1), (1, 3, 11, 0), (2, 2, 11, 1), (2, 3, 11, 1), (1, 5, 11, 1), (3, 6, 11, 1), (5, 7, 11, 1), (3, 4, 11, 1), (1, 2, 11, 1), (2, 10, 11, 2), (1, 1, 11, 4), (3, 7, 11, 2), (3, 5, 11, 1), (4, 10, 11, 1), (2, 6, 11, 1), (2, 6, 11, 1), (2, 7, 11, 1), (6, 6, 11, 1), (2, 3, 11, 0), (2, 3, 11, 1), (1, 1, 11, 0), (4, 4, 11, 4), (1, 1, 11, 4), (1, 1, 11, 0), (2, 2, 11, 4), (1, 1, 11, 0), (3, 3, 11, 4), (3, 3, 11, 0), (1, 1, 11, 0), (1, 2, 11, 4), (1, 2, 11, 1), (1, 4, 11, 0), (2, 3, 11, 1), (2, 4, 11, 0), (5, 6, 11, 0), (3, 3, 11, 0), (2, 2, 11, 4), (4, 4, 11, 0), (2, 5, 11, 0), (3, 6, 11, 0), (1, 3, 11, 0), (3, 4, 11, 1), (3, 4, 11, 1), (4, 9, 11, 0), (2, 3, 11, 0), (3, 7, 11, 0), (3, 5, 11, 0), (2, 2, 11, 1), (1, 2, 11, 1), (2, 5, 11, 0), (3, 6, 11, 0), (2, 2, 11, 0), (2, 3, 11, 0), (2, 3, 11, 0), (2, 4, 11, 0), (2, 2, 11, 1)]
def gM : List (Nat × Nat × Nat × Nat) := gM_0 ++ (gM_1 ++ (gM_2 ++ (gM_3 ++ (gM_4))))
def gK_0 : List (Nat × Nat) := [(600000, 7302250), (274, 23668), (1, 1322), (0, 0), (6, 3212), (4, 3204), (157, 1224), (12, 96), (3, 36), (1, 289), (40, 6195), (3, 867), (9, 2039), (0, 0), (0, 0), (0, 0), (0, 0), (0, 0), (0, 0), (0, 0), (0, 0), (0, 0), (0, 0), (0, 0), (0, 0), (0, 0), (0, 0), (0, 0), (0, 0), (0, 0), (0, 0), (0, 0), (0, 0), (0, 0), (0, 0), (0, 0), (0, 0), (0, 0), (0, 0), (0, 0), (0, 0), (0, 0), (0, 0), (0, 0), (0, 0), (0, 0), (0, 0), (0, 0), (0, 0), (0, 0), (0, 0), (0, 0), (0, 0), (0, 0), (0, 0), (0, 0), (0, 0), (0, 0), (0, 0), (0, 0), (0, 0), (0, 0), (0, 0), (0, 0)]
def gK_1 : List (Nat × Nat) := [(0, 0), (0, 0), (0, 0), (0, 0), (0, 0), (0, 0), (0, 0), (0, 0), (0, 0), (0, 0), (0, 0), (0, 0), (0, 0), (0, 0), (0, 0), (0, 0), (0, 0), (0, 0), (0, 0), (0, 0), (0, 0), (0, 0), (0, 0), (0, 0), (0, 0), (0, 0), (0, 0), (0, 0), (0, 0), (0, 0), (0, 0), (0, 0), (0, 0), (0, 0), (0, 0), (0, 0), (0, 0), (0, 0), (0, 0), (0, 0), (0, 0), (0, 0), (0, 0), (0, 0), (0, 0), (0, 0), (0, 0), (0, 0), (0, 0), (0, 0), (0, 0), (0, 0), (0, 0), (0, 0), (0, 0), (0, 0), (0, 0), (0, 0), (0, 0), (0, 0), (0, 0), (0, 0), (0, 0), (0, 0)]
def gK_2 : List (Nat × Nat) := [(0, 0), (0, 0), (0, 0), (0, 0), (0, 0), (0, 0), (0, 0), (0, 0), (0, 0), (0, 0), (0, 0), (0, 0), (0, 0), (0, 0), (0, 0), (0, 0), (0, 0), (0, 0), (0, 0), (0, 0), (0, 0), (0, 0), (0, 0), (0, 0), (0, 0), (0, 0), (0, 0), (0, 0), (0, 0), (0, 0), (0, 0), (0, 0), (0, 0), (0, 0), (0, 0), (0, 0), (0, 0), (0, 0), (0, 0), (0, 0), (0, 0), (0, 0), (0, 0), (0, 0), (0, 0), (0, 0), (0, 0), (0, 0), (0, 0), (0, 0), (0, 0), (0, 0), (0, 0), (0, 0), (0, 0), (0, 0), (0, 0), (0, 0), (0, 0), (0, 0), (30, 13738), (0, 0), (0, 0), (0, 0)]
def gK_3 : List (Nat × Nat) := [(0, 0), (0, 0), (0, 0), (0, 0), (0, 0), (0, 0), (0, 0), (0, 0), (0, 0), (0, 0), (0, 0), (0, 0), (0, 0), (0, 0), (0, 0), (0, 0), (0, 0), (0, 0), (0, 0), (0, 0), (0, 0), (0, 0), (0, 0), (0, 0), (0, 0), (0, 0), (0, 0), (0, 0), (0, 0), (0, 0), (0, 0), (0, 0), (0, 0), (0, 0), (0, 0), (0, 0), (0, 0), (0, 0), (0, 0), (0, 0), (0, 0), (0, 0), (0, 0), (0, 0), (0, 0), (0, 0), (0, 0), (0, 0), (0, 0), (0, 0), (0, 0), (0, 0), (0, 0), (0, 0), (0, 0), (0, 0), (0, 0), (0, 0), (0, 0), (0, 0), (0, 0), (0, 0), (0, 0), (0, 0)]
def gK_4 : List (Nat × Nat) := [(0, 0), (0, 0), (0, 0), (0, 0), (0, 0), (0, 0), (0, 0), (0, 0), (0, 0), (0, 0), (0, 0), (0, 0), (0, 0), (0, 0), (0, 0), (0, 0), (0, 0), (0, 0), (0, 0), (0, 0), (0, 0), (0, 0), (0, 0), (0, 0), (0, 0), (0, 0), (0, 0), (0, 0), (0, 0), (0, 0), (0, 0), (0, 0), (0, 0), (0, 0), (0, 0), (0, 0), (0, 0), (0, 0), (0, 0), (0, 0), (0, 0), (0, 0), (0, 0), (0, 0), (0, 0), (0, 0), (0, 0), (0, 0), (0, 0), (0, 0), (0, 0), (0, 0), (0, 0), (0, 0), (0, 0), (0, 0), (0, 0), (0, 0), (0, 0)]
def gK : List (Nat × Nat) := gK_0 ++ (gK_1 ++ (gK_2 ++ (gK_3 ++ (gK_4))))
def gFr_0 : List Nat := [13, 4, 1, 0, 2, 1, 3, 2, 1, 1, 3, 1, 1, 0, 2, 1, 0, 9, 0, 8, 1, 0, 0, 3, 0, 2, 0, 1, 0, 0, 0, 7, 5, 1, 0, 4, 1, 0, 5, 0, 1, 5, 0, 6, 2, 0, 0, 3, 2, 0, 1, 0, 2, 3, 0, 5, 0, 0, 2, 4, 3, 0, 0, 1]
def gFr_1 : List Nat := [2, 1, 0, 1, 1, 0, 0, 1, 0, 2, 1, 2, 1, 0, 0, 0, 0, 0, 1, 5, 4, 3, 2, 1, 1, 4, 3, 0, 2, 1, 4, 3, 2, 1, 1, 0, 0, 5, 0, 0, 4, 3, 2, 1, 6, 5, 1, 5, 0, 6, 5, 5, 5, 0, 4, 3, 7, 6, 5, 1, 4, 2, 2, 3]
def gFr_2 : List Nat := [6, 4, 4, 3, 2, 1, 3, 1, 2, 1, 0, 1, 7, 5, 3, 0, 4, 4, 6, 1, 0, 2, 1, 7, 4, 3, 2, 7, 4, 0, 2, 7, 5, 3, 4, 1, 6, 7, 3, 6, 1, 6, 0, 1, 0, 7, 6, 2, 0, 3, 6, 7, 4, 6, 1, 5, 4, 2, 2, 1, 1, 0, 1, 0]
def gFr_3 : List Nat := [0, 6, 1, 1, 0, 0, 4, 3, 2, 1, 0, 2, 2, 2, 5, 4, 1, 4, 3, 2, 1, 0, 4, 3, 3, 2, 1, 0, 0, 2, 1, 0, 2, 1, 2, 2, 2, 1, 2, 1, 1, 7, 2, 6, 0, 5, 3, 2, 1, 1, 4, 3, 2, 3, 5, 4, 3, 0, 3, 8, 7, 3, 5, 4]
def gFr_4 : List Nat := [4, 6, 3, 7, 6, 0, 8, 7, 6, 6, 6, 6, 6, 1, 3, 6, 6, 0, 7, 7, 1, 0, 9, 2, 1, 0, 8, 1, 7, 4, 0, 3, 1, 0, 6, 4, 2, 0, 0, 1, 0, 2, 1, 5, 4, 4, 1, 1, 1, 5, 0, 3, 2, 1, 0, 1, 1, 2, 1]
def gFr : List Nat := gFr_0 ++ (gFr_1 ++ (gFr_2 ++ (gFr_3 ++ (gFr_4))))
def gLo_0 : List Nat := [504, 84, 21, 0, 40, 20, 63, 43, 21, 20, 63, 20, 20, 0, 43, 21, 0, 207, 0, 183, 20, 0, 0, 71, 0, 45, 0, 21, 0, 0, 0, 157, 109, 21, 0, 85, 20, 0, 109, 0, 21, 109, 0, 134, 42, 0, 0, 67, 46, 0, 22, 0, 42, 67, 0, 109, 0, 0, 42, 89, 67, 0, 0, 23]
def gLo_1 : List Nat := [53, 22, 0, 23, 23, 0, 0, 24, 0, 41, 21, 43, 20, 0, 0, 0, 0, 0, 21, 117, 96, 76, 53, 21, 21, 96, 76, 0, 44, 22, 90, 68, 44, 22, 21, 0, 0, 105, 0, 0, 85, 64, 43, 21, 127, 105, 21, 105, 0, 127, 105, 105, 105, 0, 85, 64, 158, 135, 114, 21, 91, 46, 44, 67]
def gLo_2 : List Nat := [135, 96, 94, 73, 50, 21, 73, 24, 43, 22, 0, 22, 156, 116, 64, 0, 94, 94, 135, 23, 0, 43, 21, 156, 93, 68, 44, 158, 91, 0, 44, 156, 117, 68, 89, 21, 135, 158, 69, 135, 72, 135, 0, 30, 0, 158, 135, 46, 0, 73, 137, 156, 93, 131, 21, 107, 85, 41, 41, 21, 20, 0, 25, 0]
def gLo_3 : List Nat := [0, 139, 25, 21, 0, 0, 93, 67, 44, 21, 0, 44, 42, 42, 118, 93, 25, 93, 67, 46, 25, 0, 93, 67, 67, 47, 25, 0, 0, 47, 21, 0, 47, 21, 47, 47, 44, 21, 46, 25, 21, 160, 48, 139, 0, 113, 63, 41, 21, 21, 89, 67, 42, 67, 106, 84, 62, 0, 63, 181, 160, 62, 116, 93]
def gLo_4 : List Nat := [93, 135, 62, 160, 128, 0, 174, 150, 135, 135, 135, 135, 135, 21, 63, 135, 135, 0, 160, 160, 22, 0, 196, 48, 25, 0, 176, 20, 156, 88, 0, 68, 20, 0, 133, 88, 43, 0, 0, 22, 0, 43, 25, 111, 88, 88, 25, 25, 25, 111, 0, 70, 46, 21, 0, 21, 21, 46, 21]
def gLo : List Nat := gLo_0 ++ (gLo_1 ++ (gLo_2 ++ (gLo_3 ++ (gLo_4))))
def gO_0 : List Nat := [0, 1, 2, 3, 4, 5, 6, 7, 8, 9, 10, 11, 12, 1, 1, 2, 2, 1, 1, 4, 10, 7, 2, 5, 3, 5, 2, 5, 1, 5, 5, 4, 4, 4, 4, 1, 10, 8, 4, 10, 10, 4, 4, 4, 4, 1, 4, 4, 11, 11, 13, 13, 4, 4, 11, 4, 10, 10, 4, 4, 11, 1, 11, 11]
def gO_1 : List Nat := [11, 11, 3, 11, 11, 11, 11, 11, 1, 4, 2, 4, 8, 6, 9, 12, 1, 1, 1, 1, 11, 11, 11, 11, 11, 1, 1, 11, 1, 11, 1, 11, 11, 1, 1, 7, 8, 1, 1, 1, 1, 6, 7, 8, 1, 1, 8, 1, 8, 1, 1, 1, 1, 8, 1, 6, 1, 1, 1, 10, 12, 12, 12, 12]
def gO_2 : List Nat := [1, 11, 12, 12, 11, 11, 12, 12, 12, 12, 3, 12, 1, 12, 12, 3, 12, 12, 1, 12, 12, 12, 11, 1, 12, 12, 12, 1, 12, 12, 11, 1, 12, 12, 12, 12, 1, 1, 12, 1, 9, 1, 9, 9, 9, 1, 1, 12, 12, 12, 1, 1, 12, 1, 2, 1, 2, 2, 2, 1, 14, 14, 14, 14]
def gO_3 : List Nat := [14, 14, 14, 14, 14, 14, 14, 14, 14, 14, 14, 14, 14, 14, 14, 14, 14, 14, 14, 14, 14, 14, 14, 14, 14, 14, 14, 14, 14, 14, 14, 14, 14, 14, 14, 14, 14, 14, 14, 14, 14, 14, 14, 14, 14, 14, 14, 14, 14, 14, 14, 14, 14, 14, 14, 14, 14, 14, 14, 14, 14, 14, 14, 14]
def gO_4 : List Nat := [14, 14, 14, 14, 14, 14, 14, 14, 14, 14, 14, 14, 14, 14, 14, 14, 14, 14, 14, 14, 14, 14, 14, 14, 14, 14, 14, 14, 14, 14, 14, 14, 14, 14, 14, 14, 14, 14, 14, 14, 14, 14, 14, 14, 14, 14, 14, 14, 14, 14, 14, 14, 14, 14, 14, 14, 14, 14, 14]
def gO : List Nat := gO_0 ++ (gO_1 ++ (gO_2 ++ (gO_3 ++ (gO_4))))
def gI_0 : List Bool := [false, true, true, false, true, true, true, true, true, true, true, true, true, false, false, false, false, false, false, false, false, false, false, false, false, false, false, false, false, false, false, false, false, false, false, false, false, false, false, false, false, false, false, false, false, false, false, false, false, false, false, false, false, false, false, false, false, false, false, false, false, false, false, false]
def gI_1 : List Bool := [false, false, false, false, false, false, false, false, false, false, false, false, false, false, false, false, false, false, false, false, false, false, false, false, false, false, false, false, false, false, false, false, false, false, false, false, false, false, false, false, false, false, false, false, false, false, false, false, false, false, false, false, false, false, false, false, false, false, false, false, false, false, false, false]
def gI_2 : List Bool := [false, false, false, false, false, false, false, false, false, false, false, false, false, false, false, false, false, false, false, false, false, false, false, false, false, false, false, false, false, false, false, false, false, false, false, false, false, false, false, false, false, false, false, false, false, false, false, false, false, false, false, false, false, false, false, false, false, false, false, false, true, false, false, false]
def gI_3 : List Bool := [false, false, false, false, false, false, false, false, false, false, false, false, false, false, false, false, false, false, false, false, false, false, false, false, false, false, false, false, false, false, false, false, false, false, false, false, false, false, false, false, false, false, false, false, false, false, false, false, false, false, false, false, false, false, false, false, false, false, false, false, false, false, false, false]
def gI_4 : List Bool := [false, false, false, false, false, false, false, false, false, false, false, false, false, false, false, false, false, false, false, false, false, false, false, false, false, false, false, false, false, false, false, false, false, false, false, false, false, false, false, false, false, false, false, false, false, false, false, false, false, false, false, false, false, false, false, false, false, false, false]
def gI : List Bool := gI_0 ++ (gI_1 ++ (gI_2 ++ (gI_3 ++ (gI_4))))
def gS_0 : List pm_S := [.inl 0, .inl 1, .inr (0, 800), .inl 1, .inr (0, 1322), .inl 2, .inl 3, .inr (0, 801), .inr (0, 801), .inr (0, 801), .inr (0, 801), .inr (0, 3), .inl 4, .inr (9, 12), .inl 5, .inl 6, .inr (0, 8), .inr (0, 8), .inr (0, 8), .inl 6, .inr (0, 12), .inr (0, 12), .inr (0, 12), .inl 6, .inr (0, 8), .inr (0, 8), .inr (0, 8), .inl 5, .inl 6, .inr (0, 8), .inr (0, 8), .inr (0, 8), .inl 6, .inr (0, 12), .inr (0, 12), .inr (0, 12), .inl 6, .inr (0, 8), .inr (0, 8), .inr (0, 8), .inl 5, .inl 6, .inr (0, 8), .inr (0, 8), .inr (0, 8), .inl 6, .inr (0, 12), .inr (0, 12), .inr (0, 12), .inl 6, .inr (0, 8), .inr (0, 8), .inr (0, 8), .inl 5, .inl 6, .inr (0, 8), .inr (0, 8), .inr (0, 8), .inl 6, .inr (0, 12), .inr (0, 12), .inr (0, 12), .inl 6, .inr (0, 8)]
def gS_1 : List pm_S := [.inr (0, 8), .inr (0, 8), .inl 5, .inl 6, .inr (0, 8), .inr (0, 8), .inr (0, 8), .inl 6, .inr (0, 12), .inr (0, 12), .inr (0, 12), .inl 6, .inr (0, 8), .inr (0, 8), .inr (0, 8), .inl 5, .inl 6, .inr (0, 8), .inr (0, 8), .inr (0, 8), .inl 6, .inr (0, 12), .inr (0, 12), .inr (0, 12), .inl 6, .inr (0, 8), .inr (0, 8), .inr (0, 8), .inl 5, .inl 6, .inr (0, 8), .inr (0, 8), .inr (0, 8), .inl 6, .inr (0, 12), .inr (0, 12), .inr (0, 12), .inl 6, .inr (0, 8), .inr (0, 8), .inr (0, 8), .inl 5, .inl 6, .inr (0, 8), .inr (0, 8), .inr (0, 8), .inl 6, .inr (0, 12), .inr (0, 12), .inr (0, 12), .inl 6, .inr (0, 8), .inr (0, 8), .inr (0, 8), .inl 5, .inl 6, .inr (0, 8), .inr (0, 8), .inr (0, 8), .inl 6, .inr (0, 12), .inr (0, 12), .inr (0, 12), .inl 6]
def gS_2 : List pm_S := [.inr (0, 8), .inr (0, 8), .inr (0, 8), .inl 5, .inl 6, .inr (0, 8), .inr (0, 8), .inr (0, 8), .inl 6, .inr (0, 12), .inr (0, 12), .inr (0, 12), .inl 6, .inr (0, 8), .inr (0, 8), .inr (0, 8), .inl 5, .inl 6, .inr (0, 8), .inr (0, 8), .inr (0, 8), .inl 6, .inr (0, 12), .inr (0, 12), .inr (0, 12), .inl 6, .inr (0, 8), .inr (0, 8), .inr (0, 8), .inl 5, .inl 6, .inr (0, 8), .inr (0, 8), .inr (0, 8), .inl 6, .inr (0, 12), .inr (0, 12), .inr (0, 12), .inl 6, .inr (0, 8), .inr (0, 8), .inr (0, 8), .inl 7, .inr (0, 289), .inr (0, 289), .inl 8, .inr (13, 6), .inl 5, .inl 6, .inr (0, 8), .inr (0, 8), .inr (0, 8), .inl 6, .inr (0, 12), .inr (0, 12), .inr (0, 12), .inl 6, .inr (0, 8), .inr (0, 8), .inr (0, 8), .inl 1, .inr (0, 812), .inl 9, .inr (0, 289)]
def gS_3 : List pm_S := [.inr (0, 289), .inr (0, 289), .inl 9, .inr (0, 289), .inr (0, 289), .inr (0, 289), .inl 9, .inr (0, 289), .inr (0, 289), .inr (0, 289), .inl 9, .inr (0, 289), .inr (0, 289), .inr (0, 289), .inl 9, .inr (0, 289), .inr (0, 289), .inr (0, 289), .inl 9, .inr (0, 289), .inr (0, 289), .inr (0, 289), .inl 8, .inr (13, 6), .inl 5, .inl 6, .inr (0, 8), .inr (0, 8), .inr (0, 8), .inl 6, .inr (0, 12), .inr (0, 12), .inr (0, 12), .inl 6, .inr (0, 8), .inr (0, 8), .inr (0, 8), .inl 1, .inr (0, 812), .inl 9, .inr (0, 289), .inr (0, 289), .inr (0, 289), .inl 9, .inr (0, 289), .inr (0, 289), .inr (0, 289), .inl 9, .inr (0, 289), .inr (0, 289), .inr (0, 289), .inl 9, .inr (0, 289), .inr (0, 289), .inr (0, 289), .inl 9, .inr (0, 289), .inr (0, 289), .inr (0, 289), .inl 9, .inr (0, 289), .inr (0, 289), .inr (0, 289), .inl 10]
def gS_4 : List pm_S := [.inr (0, 289), .inr (0, 289), .inr (0, 289), .inr (0, 289), .inr (0, 289), .inr (0, 289), .inr (0, 289), .inr (0, 8), .inr (0, 8), .inl 10, .inr (0, 289), .inr (0, 289), .inr (0, 289), .inr (0, 289), .inr (0, 289), .inr (0, 289), .inr (0, 289), .inr (0, 8), .inr (0, 8), .inl 11, .inr (0, 282), .inr (0, 282), .inr (0, 42), .inr (0, 42), .inr (0, 1734), .inr (0, 1734), .inr (0, 1734), .inr (0, 1734), .inr (1, 6), .inr (1, 6), .inr (1, 6), .inr (1, 6), .inr (0, 89), .inr (0, 89), .inr (0, 1068), .inr (0, 6), .inr (0, 6), .inr (0, 6), .inr (3, 6), .inr (3, 289), .inr (0, 289), .inr (0, 289), .inr (0, 289), .inr (0, 289), .inr (0, 24), .inr (0, 289), .inr (0, 289), .inr (2, 800), .inr (1, 13), .inr (0, 2000)]
def gS : List pm_S := gS_0 ++ (gS_1 ++ (gS_2 ++ (gS_3 ++ (gS_4))))
def gF : List (List Nat) := [[2, 2, 2, 2, 2, 2, 2, 2, 2, 2, 0, 0, 0], [2, 0], [2, 2, 0, 0, 0, 0], [2, 2, 2, 2, 0], [2, 0, 0], [2, 2, 2, 0, 0], [2, 2, 2, 0], [2, 0, 0, 0, 1], [2, 2, 2, 0], [2, 2, 2, 0, 0, 0, 0, 0, 0, 3, 0, 0], [2, 2, 2, 2, 2, 2, 2, 2, 2, 0, 0, 0, 0, 2, 2, 3, 3, 3, 3], [0, 0, 2, 2, 2, 2, 2, 2, 2, 2, 2, 2, 2, 2, 0, 0, 2, 2, 2, 0, 2, 2, 2, 2, 0, 0, 3, 2, 2, 2, 2, 2, 0, 0, 0, 2, 0, 2, 2, 0, 0, 3, 2, 0, 0, 0, 0, 0, 0, 0, 0, 0, 0, 0, 1, 2, 2, 0]]
def gT : List (List Int32) := [[112, 108, 97, 116, 101, 32, 114, 111, 119, 32, 98, 105, 116, 115, 32, 115, 101, 116, 32, 116, 117, 114, 110, 32, 110, 101, 103, 32, 98, 111, 116, 104, 32, 115, 113, 117, 97, 114, 101, 32, 115, 111, 117, 114, 99, 101, 32, 108, 111, 115, 116, 32, 115, 116, 114, 97, 121, 32, 98, 97, 99, 107, 32, 117, 115, 101, 32], [114, 59], [113, 59], [35, 59], [119, 42, 59], [110, 120, 120, 59], [97, 98, 59], [120, 120, 59], [120, 59], [110, 59], [120, 120, 99, 59], [115, 111, 117, 114, 99, 101], [108, 111, 115, 116], [115, 116, 114, 97, 121], [98, 97, 99, 107], [117, 115, 101]]
def g_cn (c : Nat) : String := gCn.getD c ""
def g_y (k : Nat) : MethodName := if k = 9001 then ⟨"java/lang/String", "length", "()I"⟩ else if k = 9002 then ⟨"java/lang/String", "charAt", "(I)C"⟩ else gY.getD k ⟨"", "", ""⟩
def g_b (k : Nat) : ByteArray := if k = 9001 then prog_15_method_54_code else if k = 9002 then prog_15_method_56_code else gB.getD k ⟨#[]⟩
def g_r (k : Nat) : Option FieldType := if k = 9001 then some .int else if k = 9002 then some .char else gR.getD k none
def g_m (k : Nat) : Nat × Nat × Nat × Nat := if k = 9001 then (1, 1, 0, 1) else if k = 9002 then (2, 2, 0, 77) else gM.getD k (0, 0, 0, 0)
def g_k (k : Nat) : Nat × Nat := gK.getD k (0, 0)
def g_fr (k : Nat) : Nat := if k = 9001 then 1 else if k = 9002 then 3 else gFr.getD k 0
def g_lo (k : Nat) : Nat := if k = 9001 then 20 else if k = 9002 then 64 else gLo.getD k 0
def g_o (k : Nat) : Nat := gO.getD k 0
def g_i (k : Nat) : Bool := gI.getD k false
end
section
/-! PRINTED: code, by method and place -/
/-- MaskBenchLaw.law([I)Z -/
def c_0 : List (Nat × pm_I × Nat) := [(0, .inr (.new 0), 3), (3, .inr .dup, 4), (4, .inr (.invokespecial 1), 7), (7, .inr (.astore 1), 8), (8, .inr (.new 11), 11), (11, .inr .dup, 12), (12, .inr (.invokespecial 188), 15), (15, .inr (.astore 2), 16), (16, .inl (.int 0), 17), (17, .inr (.istore 3), 18), (18, .inr (.iload 3), 19), (19, .inr (.aload 0), 20), (20, .inr .caload, 21), (21, .inl (.int 6), 23), (23, .inr .isub, 24), (24, .inr (.if_icmp .gt 1327), 27), (27, .inr (.aload 0), 28), (28, .inr (.iload 3), 29), (29, .inr .saload, 30), (30, .inl (.int 63), 32), (32, .inr .iand, 33), (33, .inr (.tableswitch 1321 0 35 #[192, 205, 268, 291, 314, 337, 370, 423, 456, 519, 552, 585, 628, 681, 714, 747, 770, 793, 816, 849, 862, 905, 928, 951, 984, 1037, 1060, 1093, 1126, 1139, 1163, 1196, 1239, 1262, 1285, 1298]), 192), (192, .inr (.aload 1), 193), (193, .inr (.invokevirtual 13), 196), (196, .inr (.aload 2), 197), (197, .inr (.invokevirtual 189), 200), (200, .inr (.if_icmp .eq 1321), 203), (203, .inl (.int 0), 204), (204, .inr .ireturn, 205), (205, .inr (.aload 1), 206), (206, .inr (.aload 0), 207), (207, .inr (.iload 3), 208), (208, .inl (.int 1), 209), (209, .inr .iadd, 210), (210, .inr .saload, 211), (211, .inr (.aload 0), 212), (212, .inr (.iload 3), 213), (213, .inl (.int 2), 214), (214, .inr .iadd, 215), (215, .inr .saload, 216), (216, .inr (.aload 0), 217), (217, .inr (.iload 3), 218), (218, .inl (.int 3), 219), (219, .inr .iadd, 220), (220, .inr .saload, 221), (221, .inr (.aload 0), 222), (222, .inr (.iload 3), 223), (223, .inl (.int 4), 224), (224, .inr .iadd, 225), (225, .inr .saload, 226), (226, .inr (.aload 0), 227), (227, .inr (.iload 3), 228), (228, .inl (.int 5), 229), (229, .inr .iadd, 230), (230, .inr .saload, 231), (231, .inr (.invokevirtual 14), 234), (234, .inr (.aload 2), 235), (235, .inr (.aload 0), 236), (236, .inr (.iload 3), 237), (237, .inl (.int 1), 238), (238, .inr .iadd, 239), (239, .inr .saload, 240), (240, .inr (.aload 0), 241), (241, .inr (.iload 3), 242), (242, .inl (.int 2), 243), (243, .inr .iadd, 244), (244, .inr .saload, 245), (245, .inr (.aload 0), 246), (246, .inr (.iload 3), 247), (247, .inl (.int 3), 248), (248, .inr .iadd, 249), (249, .inr .saload, 250), (250, .inr (.aload 0), 251), (251, .inr (.iload 3), 252), (252, .inl (.int 4), 253), (253, .inr .iadd, 254), (254, .inr .saload, 255), (255, .inr (.aload 0), 256), (256, .inr (.iload 3), 257), (257, .inl (.int 5), 258), (258, .inr .iadd, 259), (259, .inr .saload, 260), (260, .inr (.invokevirtual 276), 263), (263, .inr (.if_icmp .eq 1321), 266), (266, .inl (.int 0), 267), (267, .inr .ireturn, 268), (268, .inr (.aload 1), 269), (269, .inr (.aload 0), 270), (270, .inr (.iload 3), 271), (271, .inl (.int 1), 272), (272, .inr .iadd, 273), (273, .inr .saload, 274), (274, .inr (.invokevirtual 17), 277), (277, .inr (.aload 2), 278), (278, .inr (.aload 0), 279), (279, .inr (.iload 3), 280), (280, .inl (.int 1), 281), (281, .inr .iadd, 282), (282, .inr .saload, 283), (283, .inr (.invokevirtual 278), 286), (286, .inr (.if_icmp .eq 1321), 289), (289, .inl (.int 0), 290), (290, .inr .ireturn, 291), (291, .inr (.aload 1), 292), (292, .inr (.aload 0), 293), (293, .inr (.iload 3), 294), (294, .inl (.int 1), 295), (295, .inr .iadd, 296), (296, .inr .saload, 297), (297, .inr (.invokevirtual 81), 300), (300, .inr (.aload 2), 301), (301, .inr (.aload 0), 302), (302, .inr (.iload 3), 303), (303, .inl (.int 1), 304), (304, .inr .iadd, 305), (305, .inr .saload, 306), (306, .inr (.invokevirtual 306), 309), (309, .inr (.if_icmp .eq 1321), 312), (312, .inl (.int 0), 313), (313, .inr .ireturn, 314), (314, .inr (.aload 1), 315), (315, .inr (.aload 0), 316), (316, .inr (.iload 3), 317), (317, .inl (.int 1), 318), (318, .inr .iadd, 319), (319, .inr .saload, 320), (320, .inr (.invokevirtual 82), 323), (323, .inr (.aload 2), 324), (324, .inr (.aload 0), 325), (325, .inr (.iload 3), 326), (326, .inl (.int 1), 327), (327, .inr .iadd, 328), (328, .inr .saload, 329), (329, .inr (.invokevirtual 190), 332), (332, .inr (.if_icmp .eq 1321), 335), (335, .inl (.int 0), 336), (336, .inr .ireturn, 337), (337, .inr (.aload 1), 338), (338, .inr (.aload 0), 339), (339, .inr (.iload 3), 340), (340, .inl (.int 1), 341), (341, .inr .iadd, 342), (342, .inr .saload, 343), (343, .inr (.aload 0), 344), (344, .inr (.iload 3), 345), (345, .inl (.int 2), 346), (346, .inr .iadd, 347), (347, .inr .saload, 348), (348, .inr (.invokevirtual 83), 351), (351, .inr (.aload 2), 352), (352, .inr (.aload 0), 353), (353, .inr (.iload 3), 354), (354, .inl (.int 1), 355), (355, .inr .iadd, 356), (356, .inr .saload, 357), (357, .inr (.aload 0), 358), (358, .inr (.iload 3), 359), (359, .inl (.int 2), 360), (360, .inr .iadd, 361), (361, .inr .saload, 362), (362, .inr (.invokevirtual 193), 365), (365, .inr (.if_icmp .eq 1321), 368), (368, .inl (.int 0), 369), (369, .inr .ireturn, 370), (370, .inr (.aload 1), 371), (371, .inr (.aload 0), 372), (372, .inr (.iload 3), 373), (373, .inl (.int 1), 374), (374, .inr .iadd, 375), (375, .inr .saload, 376), (376, .inr (.aload 0), 377), (377, .inr (.iload 3), 378), (378, .inl (.int 2), 379), (379, .inr .iadd, 380), (380, .inr .saload, 381), (381, .inr (.aload 0), 382), (382, .inr (.iload 3), 383), (383, .inl (.int 3), 384), (384, .inr .iadd, 385), (385, .inr .saload, 386), (386, .inr (.aload 0), 387), (387, .inr (.iload 3), 388), (388, .inl (.int 4), 389), (389, .inr .iadd, 390), (390, .inr .saload, 391), (391, .inr (.invokevirtual 89), 394), (394, .inr (.aload 2), 395), (395, .inr (.aload 0), 396), (396, .inr (.iload 3), 397), (397, .inl (.int 1), 398), (398, .inr .iadd, 399), (399, .inr .saload, 400), (400, .inr (.aload 0), 401), (401, .inr (.iload 3), 402), (402, .inl (.int 2), 403), (403, .inr .iadd, 404), (404, .inr .saload, 405), (405, .inr (.aload 0), 406), (406, .inr (.iload 3), 407), (407, .inl (.int 3), 408), (408, .inr .iadd, 409), (409, .inr .saload, 410), (410, .inr (.aload 0), 411), (411, .inr (.iload 3), 412), (412, .inl (.int 4), 413), (413, .inr .iadd, 414), (414, .inr .saload, 415), (415, .inr (.invokevirtual 207), 418), (418, .inr (.if_icmp .eq 1321), 421), (421, .inl (.int 0), 422), (422, .inr .ireturn, 423), (423, .inr (.aload 1), 424), (424, .inr (.aload 0), 425), (425, .inr (.iload 3), 426), (426, .inl (.int 1), 427), (427, .inr .iadd, 428), (428, .inr .saload, 429), (429, .inr (.aload 0), 430), (430, .inr (.iload 3), 431), (431, .inl (.int 2), 432), (432, .inr .iadd, 433), (433, .inr .saload, 434), (434, .inr (.invokevirtual 90), 437), (437, .inr (.aload 2), 438), (438, .inr (.aload 0), 439), (439, .inr (.iload 3), 440), (440, .inl (.int 1), 441), (441, .inr .iadd, 442), (442, .inr .saload, 443), (443, .inr (.aload 0), 444), (444, .inr (.iload 3), 445), (445, .inl (.int 2), 446), (446, .inr .iadd, 447), (447, .inr .saload, 448), (448, .inr (.invokevirtual 214), 451), (451, .inr (.if_icmp .eq 1321), 454), (454, .inl (.int 0), 455), (455, .inr .ireturn, 456), (456, .inr (.aload 1), 457), (457, .inr (.aload 0), 458), (458, .inr (.iload 3), 459), (459, .inl (.int 1), 460), (460, .inr .iadd, 461), (461, .inr .saload, 462), (462, .inr (.aload 0), 463), (463, .inr (.iload 3), 464), (464, .inl (.int 2), 465), (465, .inr .iadd, 466), (466, .inr .saload, 467), (467, .inr (.aload 0), 468), (468, .inr (.iload 3), 469), (469, .inl (.int 3), 470), (470, .inr .iadd, 471), (471, .inr .saload, 472), (472, .inr (.aload 0), 473), (473, .inr (.iload 3), 474), (474, .inl (.int 4), 475), (475, .inr .iadd, 476), (476, .inr .saload, 477), (477, .inr (.aload 0), 478), (478, .inr (.iload 3), 479), (479, .inl (.int 5), 480), (480, .inr .iadd, 481), (481, .inr .saload, 482), (482, .inr (.invokevirtual 92), 485), (485, .inr (.aload 2), 486), (486, .inr (.aload 0), 487), (487, .inr (.iload 3), 488), (488, .inl (.int 1), 489), (489, .inr .iadd, 490), (490, .inr .saload, 491), (491, .inr (.aload 0), 492), (492, .inr (.iload 3), 493), (493, .inl (.int 2), 494), (494, .inr .iadd, 495), (495, .inr .saload, 496), (496, .inr (.aload 0), 497), (497, .inr (.iload 3), 498), (498, .inl (.int 3), 499), (499, .inr .iadd, 500), (500, .inr .saload, 501), (501, .inr (.aload 0), 502), (502, .inr (.iload 3), 503), (503, .inl (.int 4), 504), (504, .inr .iadd, 505), (505, .inr .saload, 506), (506, .inr (.aload 0), 507), (507, .inr (.iload 3), 508), (508, .inl (.int 5), 509), (509, .inr .iadd, 510), (510, .inr .saload, 511), (511, .inr (.invokevirtual 216), 514), (514, .inr (.if_icmp .eq 1321), 517), (517, .inl (.int 0), 518), (518, .inr .ireturn, 519), (519, .inr (.aload 1), 520), (520, .inr (.aload 0), 521), (521, .inr (.iload 3), 522), (522, .inl (.int 1), 523), (523, .inr .iadd, 524), (524, .inr .saload, 525), (525, .inr (.aload 0), 526), (526, .inr (.iload 3), 527), (527, .inl (.int 2), 528), (528, .inr .iadd, 529), (529, .inr .saload, 530), (530, .inr (.invokevirtual 94), 533), (533, .inr (.aload 2), 534), (534, .inr (.aload 0), 535), (535, .inr (.iload 3), 536), (536, .inl (.int 1), 537), (537, .inr .iadd, 538), (538, .inr .saload, 539), (539, .inr (.aload 0), 540), (540, .inr (.iload 3), 541), (541, .inl (.int 2), 542), (542, .inr .iadd, 543), (543, .inr .saload, 544), (544, .inr (.invokevirtual 209), 547), (547, .inr (.if_icmp .eq 1321), 550), (550, .inl (.int 0), 551), (551, .inr .ireturn, 552), (552, .inr (.aload 1), 553), (553, .inr (.aload 0), 554), (554, .inr (.iload 3), 555), (555, .inl (.int 1), 556), (556, .inr .iadd, 557), (557, .inr .saload, 558), (558, .inr (.aload 0), 559), (559, .inr (.iload 3), 560), (560, .inl (.int 2), 561), (561, .inr .iadd, 562), (562, .inr .saload, 563), (563, .inr (.invokevirtual 97), 566), (566, .inr (.aload 2), 567), (567, .inr (.aload 0), 568), (568, .inr (.iload 3), 569), (569, .inl (.int 1), 570), (570, .inr .iadd, 571), (571, .inr .saload, 572), (572, .inr (.aload 0), 573), (573, .inr (.iload 3), 574), (574, .inl (.int 2), 575), (575, .inr .iadd, 576), (576, .inr .saload, 577), (577, .inr (.invokevirtual 211), 580), (580, .inr (.if_icmp .eq 1321), 583), (583, .inl (.int 0), 584), (584, .inr .ireturn, 585), (585, .inr (.aload 1), 586), (586, .inr (.aload 0), 587), (587, .inr (.iload 3), 588), (588, .inl (.int 1), 589), (589, .inr .iadd, 590), (590, .inr .saload, 591), (591, .inr (.aload 0), 592), (592, .inr (.iload 3), 593), (593, .inl (.int 2), 594), (594, .inr .iadd, 595), (595, .inr .saload, 596), (596, .inr (.aload 0), 597), (597, .inr (.iload 3), 598), (598, .inl (.int 3), 599), (599, .inr .iadd, 600), (600, .inr .saload, 601), (601, .inr (.invokevirtual 98), 604), (604, .inr (.aload 2), 605), (605, .inr (.aload 0), 606), (606, .inr (.iload 3), 607), (607, .inl (.int 1), 608), (608, .inr .iadd, 609), (609, .inr .saload, 610), (610, .inr (.aload 0), 611), (611, .inr (.iload 3), 612), (612, .inl (.int 2), 613), (613, .inr .iadd, 614), (614, .inr .saload, 615), (615, .inr (.aload 0), 616), (616, .inr (.iload 3), 617), (617, .inl (.int 3), 618), (618, .inr .iadd, 619), (619, .inr .saload, 620), (620, .inr (.invokevirtual 217), 623), (623, .inr (.if_icmp .eq 1321), 626), (626, .inl (.int 0), 627), (627, .inr .ireturn, 628), (628, .inr (.aload 1), 629), (629, .inr (.aload 0), 630), (630, .inr (.iload 3), 631), (631, .inl (.int 1), 632), (632, .inr .iadd, 633), (633, .inr .saload, 634), (634, .inr (.aload 0), 635), (635, .inr (.iload 3), 636), (636, .inl (.int 2), 637), (637, .inr .iadd, 638), (638, .inr .saload, 639), (639, .inr (.aload 0), 640), (640, .inr (.iload 3), 641), (641, .inl (.int 3), 642), (642, .inr .iadd, 643), (643, .inr .saload, 644), (644, .inr (.aload 0), 645), (645, .inr (.iload 3), 646), (646, .inl (.int 4), 647), (647, .inr .iadd, 648), (648, .inr .saload, 649), (649, .inr (.invokevirtual 101), 652), (652, .inr (.aload 2), 653), (653, .inr (.aload 0), 654), (654, .inr (.iload 3), 655), (655, .inl (.int 1), 656), (656, .inr .iadd, 657), (657, .inr .saload, 658), (658, .inr (.aload 0), 659), (659, .inr (.iload 3), 660), (660, .inl (.int 2), 661), (661, .inr .iadd, 662), (662, .inr .saload, 663), (663, .inr (.aload 0), 664), (664, .inr (.iload 3), 665), (665, .inl (.int 3), 666), (666, .inr .iadd, 667), (667, .inr .saload, 668), (668, .inr (.aload 0), 669), (669, .inr (.iload 3), 670), (670, .inl (.int 4), 671), (671, .inr .iadd, 672), (672, .inr .saload, 673), (673, .inr (.invokevirtual 221), 676), (676, .inr (.if_icmp .eq 1321), 679), (679, .inl (.int 0), 680), (680, .inr .ireturn, 681), (681, .inr (.aload 1), 682), (682, .inr (.aload 0), 683), (683, .inr (.iload 3), 684), (684, .inl (.int 1), 685), (685, .inr .iadd, 686), (686, .inr .saload, 687), (687, .inr (.aload 0), 688), (688, .inr (.iload 3), 689), (689, .inl (.int 2), 690), (690, .inr .iadd, 691), (691, .inr .saload, 692), (692, .inr (.invokevirtual 108), 695), (695, .inr (.aload 2), 696), (696, .inr (.aload 0), 697), (697, .inr (.iload 3), 698), (698, .inl (.int 1), 699), (699, .inr .iadd, 700), (700, .inr .saload, 701), (701, .inr (.aload 0), 702), (702, .inr (.iload 3), 703), (703, .inl (.int 2), 704), (704, .inr .iadd, 705), (705, .inr .saload, 706), (706, .inr (.invokevirtual 224), 709), (709, .inr (.if_icmp .eq 1321), 712), (712, .inl (.int 0), 713), (713, .inr .ireturn, 714), (714, .inr (.aload 1), 715), (715, .inr (.aload 0), 716), (716, .inr (.iload 3), 717), (717, .inl (.int 1), 718), (718, .inr .iadd, 719), (719, .inr .saload, 720), (720, .inr (.aload 0), 721), (721, .inr (.iload 3), 722), (722, .inl (.int 2), 723), (723, .inr .iadd, 724), (724, .inr .saload, 725), (725, .inr (.invokevirtual 111), 728), (728, .inr (.aload 2), 729), (729, .inr (.aload 0), 730), (730, .inr (.iload 3), 731), (731, .inl (.int 1), 732), (732, .inr .iadd, 733), (733, .inr .saload, 734), (734, .inr (.aload 0), 735), (735, .inr (.iload 3), 736), (736, .inl (.int 2), 737), (737, .inr .iadd, 738), (738, .inr .saload, 739), (739, .inr (.invokevirtual 226), 742), (742, .inr (.if_icmp .eq 1321), 745), (745, .inl (.int 0), 746), (746, .inr .ireturn, 747), (747, .inr (.aload 1), 748), (748, .inr (.aload 0), 749), (749, .inr (.iload 3), 750), (750, .inl (.int 1), 751), (751, .inr .iadd, 752), (752, .inr .saload, 753), (753, .inr (.invokevirtual 113), 756), (756, .inr (.aload 2), 757), (757, .inr (.aload 0), 758), (758, .inr (.iload 3), 759), (759, .inl (.int 1), 760), (760, .inr .iadd, 761), (761, .inr .saload, 762), (762, .inr (.invokevirtual 227), 765), (765, .inr (.if_icmp .eq 1321), 768), (768, .inl (.int 0), 769), (769, .inr .ireturn, 770), (770, .inr (.aload 1), 771), (771, .inr (.aload 0), 772), (772, .inr (.iload 3), 773), (773, .inl (.int 1), 774), (774, .inr .iadd, 775), (775, .inr .saload, 776), (776, .inr (.invokevirtual 114), 779), (779, .inr (.aload 2), 780), (780, .inr (.aload 0), 781), (781, .inr (.iload 3), 782), (782, .inl (.int 1), 783), (783, .inr .iadd, 784), (784, .inr .saload, 785), (785, .inr (.invokevirtual 228), 788), (788, .inr (.if_icmp .eq 1321), 791), (791, .inl (.int 0), 792), (792, .inr .ireturn, 793), (793, .inr (.aload 1), 794), (794, .inr (.aload 0), 795), (795, .inr (.iload 3), 796), (796, .inl (.int 1), 797), (797, .inr .iadd, 798), (798, .inr .saload, 799), (799, .inr (.invokevirtual 115), 802), (802, .inr (.aload 2), 803), (803, .inr (.aload 0), 804), (804, .inr (.iload 3), 805), (805, .inl (.int 1), 806), (806, .inr .iadd, 807), (807, .inr .saload, 808), (808, .inr (.invokevirtual 230), 811), (811, .inr (.if_icmp .eq 1321), 814), (814, .inl (.int 0), 815), (815, .inr .ireturn, 816), (816, .inr (.aload 1), 817), (817, .inr (.aload 0), 818), (818, .inr (.iload 3), 819), (819, .inl (.int 1), 820), (820, .inr .iadd, 821), (821, .inr .saload, 822), (822, .inr (.aload 0), 823), (823, .inr (.iload 3), 824), (824, .inl (.int 2), 825), (825, .inr .iadd, 826), (826, .inr .saload, 827), (827, .inr (.invokevirtual 116), 830), (830, .inr (.aload 2), 831), (831, .inr (.aload 0), 832), (832, .inr (.iload 3), 833), (833, .inl (.int 1), 834), (834, .inr .iadd, 835), (835, .inr .saload, 836), (836, .inr (.aload 0), 837), (837, .inr (.iload 3), 838), (838, .inl (.int 2), 839), (839, .inr .iadd, 840), (840, .inr .saload, 841), (841, .inr (.invokevirtual 231), 844), (844, .inr (.if_icmp .eq 1321), 847), (847, .inl (.int 0), 848), (848, .inr .ireturn, 849), (849, .inr (.aload 1), 850), (850, .inr (.invokevirtual 118), 853), (853, .inr (.aload 2), 854), (854, .inr (.invokevirtual 232), 857), (857, .inr (.if_icmp .eq 1321), 860), (860, .inl (.int 0), 861), (861, .inr .ireturn, 862), (862, .inr (.aload 1), 863), (863, .inr (.aload 0), 864), (864, .inr (.iload 3), 865), (865, .inl (.int 1), 866), (866, .inr .iadd, 867), (867, .inr .saload, 868), (868, .inr (.aload 0), 869), (869, .inr (.iload 3), 870), (870, .inl (.int 2), 871), (871, .inr .iadd, 872), (872, .inr .saload, 873), (873, .inr (.aload 0), 874), (874, .inr (.iload 3), 875), (875, .inl (.int 3), 876), (876, .inr .iadd, 877), (877, .inr .saload, 878), (878, .inr (.invokevirtual 120), 881), (881, .inr (.aload 2), 882), (882, .inr (.aload 0), 883), (883, .inr (.iload 3), 884), (884, .inl (.int 1), 885), (885, .inr .iadd, 886), (886, .inr .saload, 887), (887, .inr (.aload 0), 888), (888, .inr (.iload 3), 889), (889, .inl (.int 2), 890), (890, .inr .iadd, 891), (891, .inr .saload, 892), (892, .inr (.aload 0), 893), (893, .inr (.iload 3), 894), (894, .inl (.int 3), 895), (895, .inr .iadd, 896), (896, .inr .saload, 897), (897, .inr (.invokevirtual 233), 900), (900, .inr (.if_icmp .eq 1321), 903), (903, .inl (.int 0), 904), (904, .inr .ireturn, 905), (905, .inr (.aload 1), 906), (906, .inr (.aload 0), 907), (907, .inr (.iload 3), 908), (908, .inl (.int 1), 909), (909, .inr .iadd, 910), (910, .inr .saload, 911), (911, .inr (.invokevirtual 140), 914), (914, .inr (.aload 2), 915), (915, .inr (.aload 0), 916), (916, .inr (.iload 3), 917), (917, .inl (.int 1), 918), (918, .inr .iadd, 919), (919, .inr .saload, 920), (920, .inr (.invokevirtual 251), 923), (923, .inr (.if_icmp .eq 1321), 926), (926, .inl (.int 0), 927), (927, .inr .ireturn, 928), (928, .inr (.aload 1), 929), (929, .inr (.aload 0), 930), (930, .inr (.iload 3), 931), (931, .inl (.int 1), 932), (932, .inr .iadd, 933), (933, .inr .saload, 934), (934, .inr (.invokevirtual 146), 937), (937, .inr (.aload 2), 938), (938, .inr (.aload 0), 939), (939, .inr (.iload 3), 940), (940, .inl (.int 1), 941), (941, .inr .iadd, 942), (942, .inr .saload, 943), (943, .inr (.invokevirtual 257), 946), (946, .inr (.if_icmp .eq 1321), 949), (949, .inl (.int 0), 950), (950, .inr .ireturn, 951), (951, .inr (.aload 1), 952), (952, .inr (.aload 0), 953), (953, .inr (.iload 3), 954), (954, .inl (.int 1), 955), (955, .inr .iadd, 956), (956, .inr .saload, 957), (957, .inr (.aload 0), 958), (958, .inr (.iload 3), 959), (959, .inl (.int 2), 960), (960, .inr .iadd, 961), (961, .inr .saload, 962), (962, .inr (.invokevirtual 151), 965), (965, .inr (.aload 2), 966), (966, .inr (.aload 0), 967), (967, .inr (.iload 3), 968), (968, .inl (.int 1), 969), (969, .inr .iadd, 970), (970, .inr .saload, 971), (971, .inr (.aload 0), 972), (972, .inr (.iload 3), 973), (973, .inl (.int 2), 974), (974, .inr .iadd, 975), (975, .inr .saload, 976), (976, .inr (.invokevirtual 259), 979), (979, .inr (.if_icmp .eq 1321), 982), (982, .inl (.int 0), 983), (983, .inr .ireturn, 984), (984, .inr (.aload 1), 985), (985, .inr (.aload 0), 986), (986, .inr (.iload 3), 987), (987, .inl (.int 1), 988), (988, .inr .iadd, 989), (989, .inr .saload, 990), (990, .inr (.aload 0), 991), (991, .inr (.iload 3), 992), (992, .inl (.int 2), 993), (993, .inr .iadd, 994), (994, .inr .saload, 995), (995, .inr (.aload 0), 996), (996, .inr (.iload 3), 997), (997, .inl (.int 3), 998), (998, .inr .iadd, 999), (999, .inr .saload, 1000), (1000, .inr (.aload 0), 1001), (1001, .inr (.iload 3), 1002), (1002, .inl (.int 4), 1003), (1003, .inr .iadd, 1004), (1004, .inr .saload, 1005), (1005, .inr (.invokevirtual 155), 1008), (1008, .inr (.aload 2), 1009), (1009, .inr (.aload 0), 1010), (1010, .inr (.iload 3), 1011), (1011, .inl (.int 1), 1012), (1012, .inr .iadd, 1013), (1013, .inr .saload, 1014), (1014, .inr (.aload 0), 1015), (1015, .inr (.iload 3), 1016), (1016, .inl (.int 2), 1017), (1017, .inr .iadd, 1018), (1018, .inr .saload, 1019), (1019, .inr (.aload 0), 1020), (1020, .inr (.iload 3), 1021), (1021, .inl (.int 3), 1022), (1022, .inr .iadd, 1023), (1023, .inr .saload, 1024), (1024, .inr (.aload 0), 1025), (1025, .inr (.iload 3), 1026), (1026, .inl (.int 4), 1027), (1027, .inr .iadd, 1028), (1028, .inr .saload, 1029), (1029, .inr (.invokevirtual 265), 1032), (1032, .inr (.if_icmp .eq 1321), 1035), (1035, .inl (.int 0), 1036), (1036, .inr .ireturn, 1037), (1037, .inr (.aload 1), 1038), (1038, .inr (.aload 0), 1039), (1039, .inr (.iload 3), 1040), (1040, .inl (.int 1), 1041), (1041, .inr .iadd, 1042), (1042, .inr .saload, 1043), (1043, .inr (.invokevirtual 159), 1046), (1046, .inr (.aload 2), 1047), (1047, .inr (.aload 0), 1048), (1048, .inr (.iload 3), 1049), (1049, .inl (.int 1), 1050), (1050, .inr .iadd, 1051), (1051, .inr .saload, 1052), (1052, .inr (.invokevirtual 262), 1055), (1055, .inr (.if_icmp .eq 1321), 1058), (1058, .inl (.int 0), 1059), (1059, .inr .ireturn, 1060), (1060, .inr (.aload 1), 1061), (1061, .inr (.aload 0), 1062), (1062, .inr (.iload 3), 1063), (1063, .inl (.int 1), 1064), (1064, .inr .iadd, 1065), (1065, .inr .saload, 1066), (1066, .inr (.aload 0), 1067), (1067, .inr (.iload 3), 1068), (1068, .inl (.int 2), 1069), (1069, .inr .iadd, 1070), (1070, .inr .saload, 1071), (1071, .inr (.invokevirtual 164), 1074), (1074, .inr (.aload 2), 1075), (1075, .inr (.aload 0), 1076), (1076, .inr (.iload 3), 1077), (1077, .inl (.int 1), 1078), (1078, .inr .iadd, 1079), (1079, .inr .saload, 1080), (1080, .inr (.aload 0), 1081), (1081, .inr (.iload 3), 1082), (1082, .inl (.int 2), 1083), (1083, .inr .iadd, 1084), (1084, .inr .saload, 1085), (1085, .inr (.invokevirtual 264), 1088), (1088, .inr (.if_icmp .eq 1321), 1091), (1091, .inl (.int 0), 1092), (1092, .inr .ireturn, 1093), (1093, .inr (.aload 1), 1094), (1094, .inr (.aload 0), 1095), (1095, .inr (.iload 3), 1096), (1096, .inl (.int 1), 1097), (1097, .inr .iadd, 1098), (1098, .inr .saload, 1099), (1099, .inr (.aload 0), 1100), (1100, .inr (.iload 3), 1101), (1101, .inl (.int 2), 1102), (1102, .inr .iadd, 1103), (1103, .inr .saload, 1104), (1104, .inr (.invokevirtual 165), 1107), (1107, .inr (.aload 2), 1108), (1108, .inr (.aload 0), 1109), (1109, .inr (.iload 3), 1110), (1110, .inl (.int 1), 1111), (1111, .inr .iadd, 1112), (1112, .inr .saload, 1113), (1113, .inr (.aload 0), 1114), (1114, .inr (.iload 3), 1115), (1115, .inl (.int 2), 1116), (1116, .inr .iadd, 1117), (1117, .inr .saload, 1118), (1118, .inr (.invokevirtual 266), 1121), (1121, .inr (.if_icmp .eq 1321), 1124), (1124, .inl (.int 0), 1125), (1125, .inr .ireturn, 1126), (1126, .inr (.aload 1), 1127), (1127, .inr (.invokevirtual 167), 1130), (1130, .inr (.aload 2), 1131), (1131, .inr (.invokevirtual 267), 1134), (1134, .inr (.if_icmp .eq 1321), 1137), (1137, .inl (.int 0), 1138), (1138, .inr .ireturn, 1139), (1139, .inr (.aload 1), 1140), (1140, .inr (.aload 0), 1141), (1141, .inr (.iload 3), 1142), (1142, .inl (.int 1), 1143), (1143, .inr .iadd, 1144), (1144, .inr .saload, 1145), (1145, .inr (.invokevirtual 169), 1148), (1148, .inr (.aload 2), 1149), (1149, .inr (.aload 0), 1150), (1150, .inr (.iload 3), 1151), (1151, .inl (.int 1), 1152), (1152, .inr .iadd, 1153), (1153, .inr .saload, 1154), (1154, .inr (.invokevirtual 268), 1157), (1157, .inr .lcmp, 1158), (1158, .inr (.ifCond .eq 1321), 1161), (1161, .inl (.int 0), 1162), (1162, .inr .ireturn, 1163), (1163, .inr (.aload 1), 1164), (1164, .inr (.aload 0), 1165), (1165, .inr (.iload 3), 1166), (1166, .inl (.int 1), 1167), (1167, .inr .iadd, 1168), (1168, .inr .saload, 1169), (1169, .inr (.aload 0), 1170), (1170, .inr (.iload 3), 1171), (1171, .inl (.int 2), 1172), (1172, .inr .iadd, 1173), (1173, .inr .saload, 1174), (1174, .inr (.invokevirtual 173), 1177), (1177, .inr (.aload 2), 1178), (1178, .inr (.aload 0), 1179), (1179, .inr (.iload 3), 1180), (1180, .inl (.int 1), 1181), (1181, .inr .iadd, 1182), (1182, .inr .saload, 1183), (1183, .inr (.aload 0), 1184), (1184, .inr (.iload 3), 1185), (1185, .inl (.int 2), 1186), (1186, .inr .iadd, 1187), (1187, .inr .saload, 1188), (1188, .inr (.invokevirtual 271), 1191), (1191, .inr (.if_icmp .eq 1321), 1194), (1194, .inl (.int 0), 1195), (1195, .inr .ireturn, 1196), (1196, .inr (.aload 1), 1197), (1197, .inr (.aload 0), 1198), (1198, .inr (.iload 3), 1199), (1199, .inl (.int 1), 1200), (1200, .inr .iadd, 1201), (1201, .inr .saload, 1202), (1202, .inr (.aload 0), 1203), (1203, .inr (.iload 3), 1204), (1204, .inl (.int 2), 1205), (1205, .inr .iadd, 1206), (1206, .inr .saload, 1207), (1207, .inr (.aload 0), 1208), (1208, .inr (.iload 3), 1209), (1209, .inl (.int 3), 1210), (1210, .inr .iadd, 1211), (1211, .inr .saload, 1212), (1212, .inr (.invokevirtual 174), 1215), (1215, .inr (.aload 2), 1216), (1216, .inr (.aload 0), 1217), (1217, .inr (.iload 3), 1218), (1218, .inl (.int 1), 1219), (1219, .inr .iadd, 1220), (1220, .inr .saload, 1221), (1221, .inr (.aload 0), 1222), (1222, .inr (.iload 3), 1223), (1223, .inl (.int 2), 1224), (1224, .inr .iadd, 1225), (1225, .inr .saload, 1226), (1226, .inr (.aload 0), 1227), (1227, .inr (.iload 3), 1228), (1228, .inl (.int 3), 1229), (1229, .inr .iadd, 1230), (1230, .inr .saload, 1231), (1231, .inr (.invokevirtual 272), 1234), (1234, .inr (.if_icmp .eq 1321), 1237), (1237, .inl (.int 0), 1238), (1238, .inr .ireturn, 1239), (1239, .inr (.aload 1), 1240), (1240, .inr (.aload 0), 1241), (1241, .inr (.iload 3), 1242), (1242, .inl (.int 1), 1243), (1243, .inr .iadd, 1244), (1244, .inr .saload, 1245), (1245, .inr (.invokevirtual 178), 1248), (1248, .inr (.aload 2), 1249), (1249, .inr (.aload 0), 1250), (1250, .inr (.iload 3), 1251), (1251, .inl (.int 1), 1252), (1252, .inr .iadd, 1253), (1253, .inr .saload, 1254), (1254, .inr (.invokevirtual 274), 1257), (1257, .inr (.if_icmp .eq 1321), 1260), (1260, .inl (.int 0), 1261), (1261, .inr .ireturn, 1262), (1262, .inr (.aload 1), 1263), (1263, .inr (.aload 0), 1264), (1264, .inr (.iload 3), 1265), (1265, .inl (.int 1), 1266), (1266, .inr .iadd, 1267), (1267, .inr .saload, 1268), (1268, .inr (.invokevirtual 179), 1271), (1271, .inr (.aload 2), 1272), (1272, .inr (.aload 0), 1273), (1273, .inr (.iload 3), 1274), (1274, .inl (.int 1), 1275), (1275, .inr .iadd, 1276), (1276, .inr .saload, 1277), (1277, .inr (.invokevirtual 275), 1280), (1280, .inr (.if_icmp .eq 1321), 1283), (1283, .inl (.int 0), 1284), (1284, .inr .ireturn, 1285), (1285, .inr (.aload 1), 1286), (1286, .inr (.invokevirtual 181), 1289), (1289, .inr (.aload 2), 1290), (1290, .inr (.invokevirtual 307), 1293), (1293, .inr (.if_icmp .eq 1321), 1296), (1296, .inl (.int 0), 1297), (1297, .inr .ireturn, 1298), (1298, .inr (.aload 1), 1299), (1299, .inr (.aload 0), 1300), (1300, .inr (.iload 3), 1301), (1301, .inl (.int 1), 1302), (1302, .inr .iadd, 1303), (1303, .inr .saload, 1304), (1304, .inr (.invokevirtual 187), 1307), (1307, .inr (.aload 2), 1308), (1308, .inr (.aload 0), 1309), (1309, .inr (.iload 3), 1310), (1310, .inl (.int 1), 1311), (1311, .inr .iadd, 1312), (1312, .inr .saload, 1313), (1313, .inr (.invokevirtual 314), 1316), (1316, .inr (.if_icmp .eq 1321), 1319), (1319, .inl (.int 0), 1320), (1320, .inr .ireturn, 1321), (1321, .inr (.iinc 3 6), 1324), (1324, .inr (.goto 18), 1327), (1327, .inl (.int 1), 1328), (1328, .inr .ireturn, 1329)]
/-- MaskBench.<init>()V -/
def c_1 : List (Nat × pm_I × Nat) := [(0, .inr (.aload 0), 1), (1, .inr (.invokespecial 9003), 4), (4, .inr (.aload 0), 5), (5, .inr (.new 1), 8), (8, .inr .dup, 9), (9, .inl (.int 800), 12), (12, .inr (.invokespecial 2), 15), (15, .inr (.putfield 0), 18), (18, .inr (.aload 0), 19), (19, .inr (.new 1), 22), (22, .inr .dup, 23), (23, .inl (.int 1322), 26), (26, .inr (.invokespecial 2), 29), (29, .inr (.putfield 1), 32), (32, .inr (.aload 0), 33), (33, .inr (.new 2), 36), (36, .inr .dup, 37), (37, .inr (.invokespecial 4), 40), (40, .inr (.putfield 2), 43), (43, .inr (.aload 0), 44), (44, .inr (.new 4), 47), (47, .inr .dup, 48), (48, .inr (.invokespecial 6), 51), (51, .inr (.putfield 3), 54), (54, .inr (.aload 0), 55), (55, .inr (.new 7), 58), (58, .inr .dup, 59), (59, .inr (.invokespecial 9), 62), (62, .inr (.putfield 4), 65), (65, .inr (.aload 0), 66), (66, .inl (.int 289), 69), (69, .inr (.newarray .int), 71), (71, .inr (.putfield 5), 74), (74, .inr (.aload 0), 75), (75, .inr (.new 8), 78), (78, .inr .dup, 79), (79, .inr (.invokespecial 10), 82), (82, .inr (.putfield 6), 85), (85, .inr (.aload 0), 86), (86, .inr (.new 8), 89), (89, .inr .dup, 90), (90, .inr (.invokespecial 10), 93), (93, .inr (.putfield 7), 96), (96, .inr (.aload 0), 97), (97, .inr (.new 10), 100), (100, .inr .dup, 101), (101, .inr (.aload 0), 102), (102, .inr (.getfield 6), 105), (105, .inr (.getfield 512), 108), (108, .inl (.int 0), 109), (109, .inr .aaload, 110), (110, .inr (.aload 0), 111), (111, .inr (.getfield 6), 114), (114, .inr (.getfield 513), 117), (117, .inr (.invokespecial 12), 120), (120, .inr (.putfield 8), 123), (123, .inr (.aload 0), 124), (124, .inr (.new 10), 127), (127, .inr .dup, 128), (128, .inr (.aload 0), 129), (129, .inr (.getfield 6), 132), (132, .inr (.getfield 512), 135), (135, .inl (.int 0), 136), (136, .inr .aaload, 137), (137, .inr (.aload 0), 138), (138, .inr (.getfield 6), 141), (141, .inr (.getfield 513), 144), (144, .inr (.invokespecial 12), 147), (147, .inr (.putfield 9), 150), (150, .inr (.aload 0), 151), (151, .inl (.int 0), 152), (152, .inr (.putfield 10), 155), (155, .inr (.aload 0), 156), (156, .inl (.int (-1)), 157), (157, .inr (.putfield 11), 160), (160, .inr (.aload 0), 161), (161, .inl (.int (-1)), 162), (162, .inr (.putfield 12), 165), (165, .inr .return_, 166)]
/-- MaskBench$Paper.<init>(I)V -/
def c_2 : List (Nat × pm_I × Nat) := [(0, .inr (.aload 0), 1), (1, .inr (.invokespecial 9003), 4), (4, .inr (.aload 0), 5), (5, .inl (.int 0), 6), (6, .inr (.putfield 65), 9), (9, .inr (.aload 0), 10), (10, .inr (.iload 1), 11), (11, .inl (.int 0), 12), (12, .inr (.invokestatic 3), 15), (15, .inr (.newarray .int), 17), (17, .inr (.putfield 64), 20), (20, .inr .return_, 21)]
/-- java/lang/Math.max(II)I -/
def c_3 : List (Nat × pm_I × Nat) := [(0, .inr (.iload 0), 1), (1, .inr (.iload 1), 2), (2, .inr (.if_icmp .lt 9), 5), (5, .inr (.iload 0), 6), (6, .inr (.goto 10), 9), (9, .inr (.iload 1), 10), (10, .inr .ireturn, 11)]
/-- MaskBench$Loader.<init>()V -/
def c_4 : List (Nat × pm_I × Nat) := [(0, .inr (.aload 0), 1), (1, .inr (.invokespecial 9003), 4), (4, .inr (.aload 0), 5), (5, .inr (.new 3), 8), (8, .inr .dup, 9), (9, .inr (.invokespecial 5), 12), (12, .inr (.putfield 128), 15), (15, .inr (.aload 0), 16), (16, .inl (.int 3), 17), (17, .inr (.newarray .int), 19), (19, .inr (.putfield 129), 22), (22, .inr (.aload 0), 23), (23, .inl (.int 0), 24), (24, .inr (.putfield 130), 27), (27, .inr (.aload 0), 28), (28, .inl (.int 0), 29), (29, .inr (.putfield 131), 32), (32, .inr (.aload 0), 33), (33, .inl (.int 0), 34), (34, .inr (.putfield 132), 37), (37, .inr (.aload 0), 38), (38, .inl (.int (-1)), 39), (39, .inr (.putfield 133), 42), (42, .inr .return_, 43)]
/-- MaskBench$Tokens.<init>()V -/
def c_5 : List (Nat × pm_I × Nat) := [(0, .inr (.aload 0), 1), (1, .inr (.invokespecial 9003), 4), (4, .inr (.aload 0), 5), (5, .inl (.int 801), 8), (8, .inr (.newarray .int), 10), (10, .inr (.putfield 192), 13), (13, .inr (.aload 0), 14), (14, .inl (.int 801), 17), (17, .inr (.newarray .int), 19), (19, .inr (.putfield 193), 22), (22, .inr (.aload 0), 23), (23, .inl (.int 801), 26), (26, .inr (.newarray .int), 28), (28, .inr (.putfield 194), 31), (31, .inr (.aload 0), 32), (32, .inl (.int 801), 35), (35, .inr (.newarray .int), 37), (37, .inr (.putfield 195), 40), (40, .inr (.aload 0), 41), (41, .inl (.int 0), 42), (42, .inr (.putfield 196), 45), (45, .inr .return_, 46)]
/-- MaskBench$History.<init>()V -/
def c_6 : List (Nat × pm_I × Nat) := [(0, .inr (.aload 0), 1), (1, .inr (.invokespecial 9003), 4), (4, .inr (.aload 0), 5), (5, .inl (.int 12), 7), (7, .inr (.anewarray 5), 10), (10, .inr (.putfield 256), 13), (13, .inr (.aload 0), 14), (14, .inl (.int 0), 15), (15, .inr (.putfield 257), 18), (18, .inr (.aload 0), 19), (19, .inl (.int 0), 20), (20, .inr (.putfield 258), 23), (23, .inl (.int 0), 24), (24, .inr (.istore 1), 25), (25, .inr (.iload 1), 26), (26, .inl (.int 12), 28), (28, .inr (.if_icmp .ge 50), 31), (31, .inr (.aload 0), 32), (32, .inr (.getfield 256), 35), (35, .inr (.iload 1), 36), (36, .inr (.new 5), 39), (39, .inr .dup, 40), (40, .inr (.invokespecial 7), 43), (43, .inr .aastore, 44), (44, .inr (.iinc 1 1), 47), (47, .inr (.goto 25), 50), (50, .inr .return_, 51)]
/-- MaskBench$Scene.<init>()V -/
def c_7 : List (Nat × pm_I × Nat) := [(0, .inr (.aload 0), 1), (1, .inr (.invokespecial 9003), 4), (4, .inr (.aload 0), 5), (5, .inr (.new 6), 8), (8, .inr .dup, 9), (9, .inl (.int 8), 11), (11, .inr (.invokespecial 8), 14), (14, .inr (.putfield 320), 17), (17, .inr (.aload 0), 18), (18, .inr (.new 6), 21), (21, .inr .dup, 22), (22, .inl (.int 12), 24), (24, .inr (.invokespecial 8), 27), (27, .inr (.putfield 321), 30), (30, .inr (.aload 0), 31), (31, .inr (.new 6), 34), (34, .inr .dup, 35), (35, .inl (.int 8), 37), (37, .inr (.invokespecial 8), 40), (40, .inr (.putfield 322), 43), (43, .inr (.aload 0), 44), (44, .inl (.int 0), 45), (45, .inr (.putfield 323), 48), (48, .inr (.aload 0), 49), (49, .inl (.int 0), 50), (50, .inr (.putfield 324), 53), (53, .inr .return_, 54)]
/-- MaskBench$Marks.<init>(I)V -/
def c_8 : List (Nat × pm_I × Nat) := [(0, .inr (.aload 0), 1), (1, .inr (.invokespecial 9003), 4), (4, .inr (.aload 0), 5), (5, .inl (.int 0), 6), (6, .inr (.putfield 387), 9), (9, .inr (.iload 1), 10), (10, .inl (.int 0), 11), (11, .inr (.invokestatic 3), 14), (14, .inr (.istore 2), 15), (15, .inr (.aload 0), 16), (16, .inr (.iload 2), 17), (17, .inr (.newarray .int), 19), (19, .inr (.putfield 384), 22), (22, .inr (.aload 0), 23), (23, .inr (.iload 2), 24), (24, .inr (.newarray .int), 26), (26, .inr (.putfield 385), 29), (29, .inr (.aload 0), 30), (30, .inr (.iload 2), 31), (31, .inr (.newarray .int), 33), (33, .inr (.putfield 386), 36), (36, .inr .return_, 37)]
/-- MaskBench$Picture.<init>()V -/
def c_9 : List (Nat × pm_I × Nat) := [(0, .inr (.aload 0), 1), (1, .inr (.invokespecial 9003), 4), (4, .inr (.aload 0), 5), (5, .inl (.int 289), 8), (8, .inr (.newarray .int), 10), (10, .inr (.putfield 448), 13), (13, .inr (.aload 0), 14), (14, .inl (.int 0), 15), (15, .inr (.putfield 449), 18), (18, .inr (.aload 0), 19), (19, .inl (.int 0), 20), (20, .inr (.putfield 450), 23), (23, .inr (.aload 0), 24), (24, .inl (.int 0), 25), (25, .inr (.putfield 451), 28), (28, .inr (.aload 0), 29), (29, .inl (.long 0), 30), (30, .inr (.putfield 452), 33), (33, .inr .return_, 34)]
/-- MaskBench$Bench.<init>()V -/
def c_10 : List (Nat × pm_I × Nat) := [(0, .inr (.aload 0), 1), (1, .inr (.invokespecial 9003), 4), (4, .inr (.aload 0), 5), (5, .inl (.int 6), 7), (7, .inr (.anewarray 9), 10), (10, .inr (.putfield 512), 13), (13, .inr (.aload 0), 14), (14, .inr (.new 5), 17), (17, .inr .dup, 18), (18, .inr (.invokespecial 7), 21), (21, .inr (.putfield 513), 24), (24, .inr (.aload 0), 25), (25, .inr (.new 1), 28), (28, .inr .dup, 29), (29, .inl (.int 812), 32), (32, .inr (.invokespecial 2), 35), (35, .inr (.putfield 514), 38), (38, .inr (.aload 0), 39), (39, .inl (.int 0), 40), (40, .inr (.putfield 515), 43), (43, .inl (.int 0), 44), (44, .inr (.istore 1), 45), (45, .inr (.iload 1), 46), (46, .inl (.int 6), 48), (48, .inr (.if_icmp .ge 70), 51), (51, .inr (.aload 0), 52), (52, .inr (.getfield 512), 55), (55, .inr (.iload 1), 56), (56, .inr (.new 9), 59), (59, .inr .dup, 60), (60, .inr (.invokespecial 11), 63), (63, .inr .aastore, 64), (64, .inr (.iinc 1 1), 67), (67, .inr (.goto 45), 70), (70, .inr .return_, 71)]
/-- MaskBench$Plate.<init>()V -/
def c_11 : List (Nat × pm_I × Nat) := [(0, .inr (.aload 0), 1), (1, .inr (.invokespecial 9003), 4), (4, .inr (.aload 0), 5), (5, .inl (.int 289), 8), (8, .inr (.newarray .int), 10), (10, .inr (.putfield 576), 13), (13, .inr (.aload 0), 14), (14, .inl (.int 289), 17), (17, .inr (.newarray .int), 19), (19, .inr (.putfield 577), 22), (22, .inr (.aload 0), 23), (23, .inl (.int 289), 26), (26, .inr (.newarray .int), 28), (28, .inr (.putfield 578), 31), (31, .inr (.aload 0), 32), (32, .inl (.int 0), 33), (33, .inr (.putfield 579), 36), (36, .inr (.aload 0), 37), (37, .inl (.int 1), 38), (38, .inr (.putfield 580), 41), (41, .inr (.aload 0), 42), (42, .inl (.int 1), 43), (43, .inr (.putfield 581), 46), (46, .inr (.aload 0), 47), (47, .inl (.int 1), 48), (48, .inr (.putfield 582), 51), (51, .inr (.aload 0), 52), (52, .inl (.int 0), 53), (53, .inr (.putfield 583), 56), (56, .inr (.aload 0), 57), (57, .inl (.int 0), 58), (58, .inr (.putfield 584), 61), (61, .inr (.aload 0), 62), (62, .inl (.int 0), 63), (63, .inr (.putfield 585), 66), (66, .inr (.aload 0), 67), (67, .inl (.int 0), 68), (68, .inr (.putfield 586), 71), (71, .inr (.aload 0), 72), (72, .inl (.int 0), 73), (73, .inr (.putfield 587), 76), (76, .inr .return_, 77)]
/-- MaskBench$Camera.<init>(LMaskBench$Plate;LMaskBench$Scene;)V -/
def c_12 : List (Nat × pm_I × Nat) := [(0, .inr (.aload 0), 1), (1, .inr (.invokespecial 9003), 4), (4, .inr (.aload 0), 5), (5, .inl (.int 289), 8), (8, .inr (.newarray .int), 10), (10, .inr (.putfield 640), 13), (13, .inr (.aload 0), 14), (14, .inl (.int 289), 17), (17, .inr (.newarray .int), 19), (19, .inr (.putfield 641), 22), (22, .inr (.aload 0), 23), (23, .inl (.int 289), 26), (26, .inr (.newarray .int), 28), (28, .inr (.putfield 642), 31), (31, .inr (.aload 0), 32), (32, .inl (.int 289), 35), (35, .inr (.newarray .int), 37), (37, .inr (.putfield 643), 40), (40, .inr (.aload 0), 41), (41, .inl (.int 289), 44), (44, .inr (.newarray .int), 46), (46, .inr (.putfield 644), 49), (49, .inr (.aload 0), 50), (50, .inl (.int 289), 53), (53, .inr (.newarray .int), 55), (55, .inr (.putfield 645), 58), (58, .inr (.aload 0), 59), (59, .inl (.int 289), 62), (62, .inr (.newarray .int), 64), (64, .inr (.putfield 646), 67), (67, .inr (.aload 0), 68), (68, .inl (.int 8), 70), (70, .inr (.newarray .int), 72), (72, .inr (.putfield 647), 75), (75, .inr (.aload 0), 76), (76, .inl (.int 8), 78), (78, .inr (.newarray .int), 80), (80, .inr (.putfield 648), 83), (83, .inr (.aload 0), 84), (84, .inl (.int 0), 85), (85, .inr (.putfield 649), 88), (88, .inr (.aload 0), 89), (89, .inl (.int (-1)), 90), (90, .inr (.putfield 650), 93), (93, .inr (.aload 0), 94), (94, .inl (.int 0), 95), (95, .inr (.putfield 651), 98), (98, .inr (.aload 0), 99), (99, .inl (.int 0), 100), (100, .inr (.putfield 652), 103), (103, .inr (.aload 0), 104), (104, .inl (.int 0), 105), (105, .inr (.putfield 655), 108), (108, .inr (.aload 0), 109), (109, .inl (.int 0), 110), (110, .inr (.putfield 656), 113), (113, .inr (.aload 0), 114), (114, .inl (.int 0), 115), (115, .inr (.putfield 657), 118), (118, .inr (.aload 0), 119), (119, .inl (.int 0), 120), (120, .inr (.putfield 658), 123), (123, .inr (.aload 0), 124), (124, .inr (.aload 1), 125), (125, .inr (.putfield 653), 128), (128, .inr (.aload 0), 129), (129, .inr (.aload 2), 130), (130, .inr (.putfield 654), 133), (133, .inr .return_, 134)]
/-- MaskBench.status()I -/
def c_13 : List (Nat × pm_I × Nat) := [(0, .inr (.aload 0), 1), (1, .inr (.getfield 10), 4), (4, .inr .ireturn, 5)]
/-- MaskBench.feed(IIIII)I -/
def c_14 : List (Nat × pm_I × Nat) := [(0, .inr (.aload 0), 1), (1, .inr (.getfield 0), 4), (4, .inr (.getfield 65), 7), (7, .inl (.int 20), 9), (9, .inr .iadd, 10), (10, .inl (.int 800), 13), (13, .inr (.if_icmp .le 18), 16), (16, .inl (.int (-1)), 17), (17, .inr .ireturn, 18), (18, .inr (.aload 0), 19), (19, .inr (.getfield 0), 22), (22, .inr (.iload 1), 23), (23, .inr (.invokevirtual 15), 26), (26, .inr (.aload 0), 27), (27, .inr (.getfield 0), 30), (30, .inr (.iload 2), 31), (31, .inr (.invokevirtual 15), 34), (34, .inr (.aload 0), 35), (35, .inr (.getfield 0), 38), (38, .inr (.iload 3), 39), (39, .inr (.invokevirtual 15), 42), (42, .inr (.aload 0), 43), (43, .inr (.getfield 0), 46), (46, .inr (.iload 4), 48), (48, .inr (.invokevirtual 15), 51), (51, .inr (.aload 0), 52), (52, .inr (.getfield 0), 55), (55, .inr (.iload 5), 57), (57, .inr (.invokevirtual 15), 60), (60, .inr (.aload 0), 61), (61, .inr (.getfield 0), 64), (64, .inr (.getfield 65), 67), (67, .inr .ireturn, 68)]
/-- MaskBench$Paper.putInt(I)V -/
def c_15 : List (Nat × pm_I × Nat) := [(0, .inl (.int 24), 2), (2, .inr (.istore 2), 3), (3, .inr (.iload 2), 4), (4, .inr (.ifCond .lt 24), 7), (7, .inr (.aload 0), 8), (8, .inr (.iload 1), 9), (9, .inr (.iload 2), 10), (10, .inr .ishr, 11), (11, .inl (.int 255), 14), (14, .inr .iand, 15), (15, .inr (.invokevirtual 16), 18), (18, .inr (.iinc 2 (-8)), 21), (21, .inr (.goto 3), 24), (24, .inr .return_, 25)]
/-- MaskBench$Paper.put(I)V -/
def c_16 : List (Nat × pm_I × Nat) := [(0, .inr (.aload 0), 1), (1, .inr (.getfield 65), 4), (4, .inr (.aload 0), 5), (5, .inr (.getfield 64), 8), (8, .inr .arraylength, 9), (9, .inr (.if_icmp .ge 32), 12), (12, .inr (.aload 0), 13), (13, .inr (.getfield 64), 16), (16, .inr (.aload 0), 17), (17, .inr (.getfield 65), 20), (20, .inr (.iload 1), 21), (21, .inr .iastore, 22), (22, .inr (.aload 0), 23), (23, .inr .dup, 24), (24, .inr (.getfield 65), 27), (27, .inl (.int 1), 28), (28, .inr .iadd, 29), (29, .inr (.putfield 65), 32), (32, .inr .return_, 33)]
/-- MaskBench.load(I)I -/
def c_17 : List (Nat × pm_I × Nat) := [(0, .inr (.iload 1), 1), (1, .inr (.ifCond .lt 15), 4), (4, .inr (.iload 1), 5), (5, .inr (.aload 0), 6), (6, .inr (.getfield 0), 9), (9, .inr (.getfield 65), 12), (12, .inr (.if_icmp .le 21), 15), (15, .inr (.aload 0), 16), (16, .inl (.int 1), 17), (17, .inr (.invokevirtual 18), 20), (20, .inr .ireturn, 21), (21, .inr (.aload 0), 22), (22, .inr (.getfield 2), 25), (25, .inr (.aload 0), 26), (26, .inr (.getfield 0), 29), (29, .inr (.iload 1), 30), (30, .inr (.aload 0), 31), (31, .inr (.getfield 7), 34), (34, .inr (.invokevirtual 19), 37), (37, .inr (.istore 2), 38), (38, .inr (.aload 0), 39), (39, .inr (.getfield 0), 42), (42, .inr (.invokevirtual 22), 45), (45, .inr (.aload 0), 46), (46, .inr (.aload 0), 47), (47, .inr (.getfield 2), 50), (50, .inr (.getfield 132), 53), (53, .inr (.putfield 11), 56), (56, .inr (.aload 0), 57), (57, .inr (.aload 0), 58), (58, .inr (.getfield 2), 61), (61, .inr (.getfield 133), 64), (64, .inr (.putfield 12), 67), (67, .inr (.iload 2), 68), (68, .inr (.ifCond .ne 78), 71), (71, .inr (.aload 0), 72), (72, .inl (.int 9), 74), (74, .inr (.invokevirtual 18), 77), (77, .inr .ireturn, 78), (78, .inr (.aload 0), 79), (79, .inr (.getfield 6), 82), (82, .inr (.astore 3), 83), (83, .inr (.aload 0), 84), (84, .inr (.aload 0), 85), (85, .inr (.getfield 7), 88), (88, .inr (.putfield 6), 91), (91, .inr (.aload 0), 92), (92, .inr (.aload 3), 93), (93, .inr (.putfield 7), 96), (96, .inr (.aload 0), 97), (97, .inr (.getfield 3), 100), (100, .inr (.invokevirtual 77), 103), (103, .inr (.aload 0), 104), (104, .inr (.getfield 4), 107), (107, .inr (.invokevirtual 78), 110), (110, .inr (.aload 0), 111), (111, .inr (.getfield 8), 114), (114, .inr (.invokevirtual 79), 117), (117, .inr (.aload 0), 118), (118, .inr (.aload 0), 119), (119, .inr (.getfield 6), 122), (122, .inr (.getfield 515), 125), (125, .inr (.invokevirtual 80), 128), (128, .inr .ireturn, 129)]
/-- MaskBench.refuse(I)I -/
def c_18 : List (Nat × pm_I × Nat) := [(0, .inr (.aload 0), 1), (1, .inr (.iload 1), 2), (2, .inr (.putfield 10), 5), (5, .inl (.int (-1)), 6), (6, .inr .ireturn, 7)]
/-- MaskBench$Loader.read(LMaskBench$Paper;ILMaskBench$Bench;)Z -/
def c_19 : List (Nat × pm_I × Nat) := [(0, .inr (.aload 3), 1), (1, .inr (.invokevirtual 20), 4), (4, .inr (.aload 0), 5), (5, .inr (.getfield 128), 8), (8, .inr (.aload 1), 9), (9, .inr (.iload 2), 10), (10, .inr (.invokevirtual 23), 13), (13, .inr (.aload 0), 14), (14, .inl (.int 0), 15), (15, .inr (.putfield 131), 18), (18, .inr (.aload 0), 19), (19, .inl (.int 0), 20), (20, .inr (.putfield 132), 23), (23, .inr (.aload 0), 24), (24, .inl (.int (-1)), 25), (25, .inr (.putfield 133), 28), (28, .inl (.int 0), 29), (29, .inr (.istore 4), 31), (31, .inr (.iload 4), 33), (33, .inr (.aload 0), 34), (34, .inr (.getfield 128), 37), (37, .inr (.getfield 196), 40), (40, .inr (.if_icmp .ge 75), 43), (43, .inr (.aload 0), 44), (44, .inr (.getfield 128), 47), (47, .inr (.getfield 192), 50), (50, .inr (.aload 0), 51), (51, .inr (.getfield 131), 54), (54, .inr .iaload, 55), (55, .inr (.ifCond .eq 75), 58), (58, .inr (.aload 0), 59), (59, .inr (.aload 1), 60), (60, .inr (.aload 3), 61), (61, .inr (.invokevirtual 31), 64), (64, .inr (.ifCond .ne 69), 67), (67, .inl (.int 0), 68), (68, .inr .ireturn, 69), (69, .inr (.iinc 4 1), 72), (72, .inr (.goto 31), 75), (75, .inl (.int 1), 76), (76, .inr .ireturn, 77)]
/-- MaskBench$Bench.clear()V -/
def c_20 : List (Nat × pm_I × Nat) := [(0, .inr (.aload 0), 1), (1, .inr (.getfield 513), 4), (4, .inr (.invokevirtual 21), 7), (7, .inr (.aload 0), 8), (8, .inr (.getfield 514), 11), (11, .inr (.invokevirtual 22), 14), (14, .inr (.aload 0), 15), (15, .inl (.int 0), 16), (16, .inr (.putfield 515), 19), (19, .inr .return_, 20)]
/-- MaskBench$Scene.clear()V -/
def c_21 : List (Nat × pm_I × Nat) := [(0, .inr (.aload 0), 1), (1, .inr (.getfield 320), 4), (4, .inl (.int 0), 5), (5, .inr (.putfield 387), 8), (8, .inr (.aload 0), 9), (9, .inr (.getfield 321), 12), (12, .inl (.int 0), 13), (13, .inr (.putfield 387), 16), (16, .inr (.aload 0), 17), (17, .inr (.getfield 322), 20), (20, .inl (.int 0), 21), (21, .inr (.putfield 387), 24), (24, .inr (.aload 0), 25), (25, .inl (.int 0), 26), (26, .inr (.putfield 323), 29), (29, .inr (.aload 0), 30), (30, .inl (.int 0), 31), (31, .inr (.putfield 324), 34), (34, .inr .return_, 35)]
/-- MaskBench$Paper.clear()V -/
def c_22 : List (Nat × pm_I × Nat) := [(0, .inr (.aload 0), 1), (1, .inl (.int 0), 2), (2, .inr (.putfield 65), 5), (5, .inr .return_, 6)]
/-- MaskBench$Tokens.split(LMaskBench$Paper;I)V -/
def c_23 : List (Nat × pm_I × Nat) := [(0, .inr (.iload 2), 1), (1, .inr (.aload 1), 2), (2, .inr (.getfield 65), 5), (5, .inr (.invokestatic 24), 8), (8, .inr (.istore 3), 9), (9, .inl (.int 0), 10), (10, .inr (.istore 4), 12), (12, .inr (.aload 0), 13), (13, .inl (.int 0), 14), (14, .inr (.putfield 196), 17), (17, .inl (.int 0), 18), (18, .inr (.istore 5), 20), (20, .inr (.iload 5), 22), (22, .inr (.iload 3), 23), (23, .inr (.if_icmp .ge 73), 26), (26, .inr (.iload 5), 28), (28, .inr (.iload 4), 30), (30, .inr (.if_icmp .lt 67), 33), (33, .inr (.aload 1), 34), (34, .inr (.getfield 64), 37), (37, .inr (.iload 5), 39), (39, .inr .iaload, 40), (40, .inl (.int 10), 42), (42, .inr (.if_icmp .eq 67), 45), (45, .inr (.aload 1), 46), (46, .inr (.getfield 64), 49), (49, .inr (.iload 5), 51), (51, .inr .iaload, 52), (52, .inl (.int 32), 54), (54, .inr (.if_icmp .eq 67), 57), (57, .inr (.aload 0), 58), (58, .inr (.aload 1), 59), (59, .inr (.iload 5), 61), (61, .inr (.iload 3), 62), (62, .inr (.invokevirtual 25), 65), (65, .inr (.istore 4), 67), (67, .inr (.iinc 5 1), 70), (70, .inr (.goto 20), 73), (73, .inr (.aload 0), 74), (74, .inl (.int 0), 75), (75, .inr (.iload 3), 76), (76, .inr (.iload 3), 77), (77, .inl (.int 0), 78), (78, .inr (.invokevirtual 29), 81), (81, .inr .return_, 82)]
/-- java/lang/Math.min(II)I -/
def c_24 : List (Nat × pm_I × Nat) := [(0, .inr (.iload 0), 1), (1, .inr (.iload 1), 2), (2, .inr (.if_icmp .gt 9), 5), (5, .inr (.iload 0), 6), (6, .inr (.goto 10), 9), (9, .inr (.iload 1), 10), (10, .inr .ireturn, 11)]
/-- MaskBench$Tokens.cut(LMaskBench$Paper;II)I -/
def c_25 : List (Nat × pm_I × Nat) := [(0, .inr (.aload 1), 1), (1, .inr (.getfield 64), 4), (4, .inr (.iload 2), 5), (5, .inr .iaload, 6), (6, .inr (.istore 4), 8), (8, .inr (.iload 2), 9), (9, .inl (.int 1), 10), (10, .inr .iadd, 11), (11, .inr (.istore 5), 13), (13, .inr (.iload 4), 15), (15, .inl (.int 97), 17), (17, .inr (.if_icmp .lt 70), 20), (20, .inr (.iload 4), 22), (22, .inl (.int 122), 24), (24, .inr (.if_icmp .gt 70), 27), (27, .inr (.aload 1), 28), (28, .inr (.iload 2), 29), (29, .inr (.iload 3), 30), (30, .inl (.int 97), 32), (32, .inl (.int 122), 34), (34, .inr (.invokevirtual 26), 37), (37, .inr (.istore 5), 39), (39, .inr (.aload 0), 40), (40, .inr (.iload 5), 42), (42, .inr (.iload 2), 43), (43, .inr .isub, 44), (44, .inl (.int 6), 46), (46, .inr (.if_icmp .gt 53), 49), (49, .inl (.int 2), 50), (50, .inr (.goto 54), 53), (53, .inl (.int 1), 54), (54, .inr (.iload 2), 55), (55, .inr (.iload 5), 57), (57, .inr (.aload 1), 58), (58, .inr (.iload 2), 59), (59, .inr (.iload 5), 61), (61, .inr (.invokestatic 27), 64), (64, .inr (.invokevirtual 29), 67), (67, .inr (.goto 205), 70), (70, .inr (.iload 4), 72), (72, .inl (.int 48), 74), (74, .inr (.if_icmp .lt 126), 77), (77, .inr (.iload 4), 79), (79, .inl (.int 57), 81), (81, .inr (.if_icmp .gt 126), 84), (84, .inr (.aload 1), 85), (85, .inr (.iload 2), 86), (86, .inr (.iload 3), 87), (87, .inl (.int 48), 89), (89, .inl (.int 57), 91), (91, .inr (.invokevirtual 26), 94), (94, .inr (.istore 5), 96), (96, .inr (.aload 0), 97), (97, .inr (.iload 5), 99), (99, .inr (.iload 2), 100), (100, .inr .isub, 101), (101, .inl (.int 4), 102), (102, .inr (.if_icmp .gt 109), 105), (105, .inl (.int 3), 106), (106, .inr (.goto 110), 109), (109, .inl (.int 1), 110), (110, .inr (.iload 2), 111), (111, .inr (.iload 5), 113), (113, .inr (.aload 1), 114), (114, .inr (.iload 2), 115), (115, .inr (.iload 5), 117), (117, .inr (.invokestatic 30), 120), (120, .inr (.invokevirtual 29), 123), (123, .inr (.goto 205), 126), (126, .inr (.iload 4), 128), (128, .inl (.int 35), 130), (130, .inr (.if_icmp .ne 185), 133), (133, .inr (.aload 1), 134), (134, .inr (.iload 2), 135), (135, .inl (.int 1), 136), (136, .inr .iadd, 137), (137, .inr (.iload 3), 138), (138, .inl (.int 48), 140), (140, .inl (.int 49), 142), (142, .inr (.invokevirtual 26), 145), (145, .inr (.istore 5), 147), (147, .inr (.iload 5), 149), (149, .inr (.iload 2), 150), (150, .inr .isub, 151), (151, .inl (.int 1), 152), (152, .inr .isub, 153), (153, .inr (.istore 6), 155), (155, .inr (.aload 0), 156), (156, .inr (.iload 6), 158), (158, .inl (.int 1), 159), (159, .inr (.if_icmp .lt 173), 162), (162, .inr (.iload 6), 164), (164, .inl (.int 40), 166), (166, .inr (.if_icmp .gt 173), 169), (169, .inl (.int 4), 170), (170, .inr (.goto 174), 173), (173, .inl (.int 1), 174), (174, .inr (.iload 2), 175), (175, .inr (.iload 5), 177), (177, .inr (.iload 6), 179), (179, .inr (.invokevirtual 29), 182), (182, .inr (.goto 205), 185), (185, .inr (.aload 0), 186), (186, .inr (.iload 4), 188), (188, .inl (.int 59), 190), (190, .inr (.if_icmp .ne 197), 193), (193, .inl (.int 5), 194), (194, .inr (.goto 198), 197), (197, .inl (.int 1), 198), (198, .inr (.iload 2), 199), (199, .inr (.iload 5), 201), (201, .inl (.int 0), 202), (202, .inr (.invokevirtual 29), 205), (205, .inr (.iload 5), 207), (207, .inr .ireturn, 208)]
/-- MaskBench$Paper.endOfRun(IIII)I -/
def c_26 : List (Nat × pm_I × Nat) := [(0, .inr (.iload 1), 1), (1, .inr (.istore 5), 3), (3, .inr (.iload 5), 5), (5, .inr (.iload 2), 6), (6, .inr (.if_icmp .ge 38), 9), (9, .inr (.aload 0), 10), (10, .inr (.getfield 64), 13), (13, .inr (.iload 5), 15), (15, .inr .iaload, 16), (16, .inr (.iload 3), 17), (17, .inr (.if_icmp .lt 38), 20), (20, .inr (.aload 0), 21), (21, .inr (.getfield 64), 24), (24, .inr (.iload 5), 26), (26, .inr .iaload, 27), (27, .inr (.iload 4), 29), (29, .inr (.if_icmp .gt 38), 32), (32, .inr (.iinc 5 1), 35), (35, .inr (.goto 3), 38), (38, .inr (.iload 5), 40), (40, .inr .ireturn, 41)]
/-- MaskBench$Tokens.wordOf(LMaskBench$Paper;II)I -/
def c_27 : List (Nat × pm_I × Nat) := [(0, .inl (.int 0), 1), (1, .inr (.istore 3), 2), (2, .inr (.iload 1), 3), (3, .inr (.istore 4), 5), (5, .inr (.iload 4), 7), (7, .inr (.iload 2), 8), (8, .inr (.if_icmp .ge 29), 11), (11, .inr (.iload 3), 12), (12, .inr (.aload 0), 13), (13, .inr (.getfield 64), 16), (16, .inr (.iload 4), 18), (18, .inr .iaload, 19), (19, .inr (.invokestatic 28), 22), (22, .inr (.istore 3), 23), (23, .inr (.iinc 4 1), 26), (26, .inr (.goto 5), 29), (29, .inr (.iload 3), 30), (30, .inr .ireturn, 31)]
/-- MaskBench.packed(II)I -/
def c_28 : List (Nat × pm_I × Nat) := [(0, .inr (.iload 0), 1), (1, .inl (.int 32), 3), (3, .inr .imul, 4), (4, .inr (.iload 1), 5), (5, .inl (.int 97), 7), (7, .inr .isub, 8), (8, .inl (.int 1), 9), (9, .inr .iadd, 10), (10, .inr .iadd, 11), (11, .inr .ireturn, 12)]
/-- MaskBench$Tokens.append(IIII)V -/
def c_29 : List (Nat × pm_I × Nat) := [(0, .inr (.aload 0), 1), (1, .inr (.getfield 196), 4), (4, .inr (.aload 0), 5), (5, .inr (.getfield 192), 8), (8, .inr .arraylength, 9), (9, .inr (.if_icmp .ge 63), 12), (12, .inr (.aload 0), 13), (13, .inr (.getfield 192), 16), (16, .inr (.aload 0), 17), (17, .inr (.getfield 196), 20), (20, .inr (.iload 1), 21), (21, .inr .iastore, 22), (22, .inr (.aload 0), 23), (23, .inr (.getfield 193), 26), (26, .inr (.aload 0), 27), (27, .inr (.getfield 196), 30), (30, .inr (.iload 2), 31), (31, .inr .iastore, 32), (32, .inr (.aload 0), 33), (33, .inr (.getfield 194), 36), (36, .inr (.aload 0), 37), (37, .inr (.getfield 196), 40), (40, .inr (.iload 3), 41), (41, .inr .iastore, 42), (42, .inr (.aload 0), 43), (43, .inr (.getfield 195), 46), (46, .inr (.aload 0), 47), (47, .inr (.getfield 196), 50), (50, .inr (.iload 4), 52), (52, .inr .iastore, 53), (53, .inr (.aload 0), 54), (54, .inr .dup, 55), (55, .inr (.getfield 196), 58), (58, .inl (.int 1), 59), (59, .inr .iadd, 60), (60, .inr (.putfield 196), 63), (63, .inr .return_, 64)]
/-- MaskBench$Tokens.numberOf(LMaskBench$Paper;II)I -/
def c_30 : List (Nat × pm_I × Nat) := [(0, .inl (.int 0), 1), (1, .inr (.istore 3), 2), (2, .inr (.iload 1), 3), (3, .inr (.istore 4), 5), (5, .inr (.iload 4), 7), (7, .inr (.iload 2), 8), (8, .inr (.if_icmp .ge 33), 11), (11, .inr (.iload 3), 12), (12, .inl (.int 10), 14), (14, .inr .imul, 15), (15, .inr (.aload 0), 16), (16, .inr (.getfield 64), 19), (19, .inr (.iload 4), 21), (21, .inr .iaload, 22), (22, .inl (.int 48), 24), (24, .inr .isub, 25), (25, .inr .iadd, 26), (26, .inr (.istore 3), 27), (27, .inr (.iinc 4 1), 30), (30, .inr (.goto 5), 33), (33, .inr (.iload 3), 34), (34, .inr .ireturn, 35)]
/-- MaskBench$Loader.readLine(LMaskBench$Paper;LMaskBench$Bench;)Z -/
def c_31 : List (Nat × pm_I × Nat) := [(0, .inr (.aload 0), 1), (1, .inr (.getfield 131), 4), (4, .inr (.istore 3), 5), (5, .inr (.aload 0), 6), (6, .inl (.int 0), 7), (7, .inr (.putfield 130), 10), (10, .inr (.aload 0), 11), (11, .inr (.aload 2), 12), (12, .inr (.invokevirtual 32), 15), (15, .inr (.ifCond .ne 20), 18), (18, .inl (.int 0), 19), (19, .inr .ireturn, 20), (20, .inr (.aload 0), 21), (21, .inr (.getfield 128), 24), (24, .inr (.getfield 195), 27), (27, .inr (.iload 3), 28), (28, .inr .iaload, 29), (29, .inr (.invokestatic 35), 32), (32, .inr (.istore 4), 34), (34, .inr (.iload 4), 36), (36, .inr (.ifCond .ne 75), 39), (39, .inr (.aload 0), 40), (40, .inr (.aload 2), 41), (41, .inr (.invokevirtual 38), 44), (44, .inr (.ifCond .eq 54), 47), (47, .inr (.aload 0), 48), (48, .inr (.invokevirtual 41), 51), (51, .inr (.ifCond .ne 56), 54), (54, .inl (.int 0), 55), (55, .inr .ireturn, 56), (56, .inr (.aload 0), 57), (57, .inr (.getfield 128), 60), (60, .inr (.getfield 195), 63), (63, .inr (.aload 0), 64), (64, .inr (.getfield 131), 67), (67, .inl (.int 1), 68), (68, .inr .isub, 69), (69, .inr .iaload, 70), (70, .inr (.invokestatic 35), 73), (73, .inr (.istore 4), 75), (75, .inr (.iload 4), 77), (77, .inr (.invokestatic 42), 80), (80, .inr (.astore 5), 82), (82, .inl (.int 0), 83), (83, .inr (.istore 6), 85), (85, .inr (.iload 6), 87), (87, .inr (.aload 5), 89), (89, .inr (.invokevirtual 9001), 92), (92, .inr (.if_icmp .ge 119), 95), (95, .inr (.aload 0), 96), (96, .inr (.aload 5), 98), (98, .inr (.iload 6), 100), (100, .inr (.invokevirtual 9002), 103), (103, .inr (.aload 1), 104), (104, .inr (.aload 2), 105), (105, .inr (.invokevirtual 43), 108), (108, .inr (.ifCond .ne 113), 111), (111, .inl (.int 0), 112), (112, .inr .ireturn, 113), (113, .inr (.iinc 6 1), 116), (116, .inr (.goto 85), 119), (119, .inr (.iload 4), 121), (121, .inl (.int 7), 123), (123, .inr (.if_icmp .gt 146), 126), (126, .inr (.aload 0), 127), (127, .inr (.iload 4), 129), (129, .inr (.aload 2), 130), (130, .inr (.invokevirtual 59), 133), (133, .inr (.aload 0), 134), (134, .inr (.iload 3), 135), (135, .inr (.aload 1), 136), (136, .inr (.aload 2), 137), (137, .inr (.getfield 514), 140), (140, .inr (.invokevirtual 73), 143), (143, .inr (.goto 156), 146), (146, .inr (.aload 0), 147), (147, .inr (.iload 4), 149), (149, .inr (.aload 2), 150), (150, .inr (.getfield 513), 153), (153, .inr (.invokevirtual 75), 156), (156, .inl (.int 1), 157), (157, .inr .ireturn, 158)]
/-- MaskBench$Loader.takeLineWord(LMaskBench$Bench;)Z -/
def c_32 : List (Nat × pm_I × Nat) := [(0, .inr (.aload 0), 1), (1, .inl (.int 2), 2), (2, .inr (.invokevirtual 33), 5), (5, .inr (.ifCond .ne 10), 8), (8, .inl (.int 0), 9), (9, .inr .ireturn, 10), (10, .inr (.aload 0), 11), (11, .inr (.getfield 128), 14), (14, .inr (.getfield 195), 17), (17, .inr (.aload 0), 18), (18, .inr (.getfield 131), 21), (21, .inr .iaload, 22), (22, .inr (.invokestatic 35), 25), (25, .inr (.istore 2), 26), (26, .inr (.iload 2), 27), (27, .inr (.ifCond .eq 42), 30), (30, .inr (.iload 2), 31), (31, .inl (.int 8), 33), (33, .inr (.if_icmp .ge 42), 36), (36, .inr (.aload 0), 37), (37, .inl (.int 2), 38), (38, .inr (.invokevirtual 34), 41), (41, .inr .ireturn, 42), (42, .inr (.aload 1), 43), (43, .inr (.iload 2), 44), (44, .inr (.invokevirtual 36), 47), (47, .inr (.ifCond .eq 57), 50), (50, .inr (.aload 0), 51), (51, .inl (.int 6), 53), (53, .inr (.invokevirtual 34), 56), (56, .inr .ireturn, 57), (57, .inr (.aload 0), 58), (58, .inr .dup, 59), (59, .inr (.getfield 131), 62), (62, .inl (.int 1), 63), (63, .inr .iadd, 64), (64, .inr (.putfield 131), 67), (67, .inl (.int 1), 68), (68, .inr .ireturn, 69)]
/-- MaskBench$Loader.expect(I)Z -/
def c_33 : List (Nat × pm_I × Nat) := [(0, .inr (.aload 0), 1), (1, .inr (.getfield 128), 4), (4, .inr (.getfield 192), 7), (7, .inr (.aload 0), 8), (8, .inr (.getfield 131), 11), (11, .inr .iaload, 12), (12, .inl (.int 1), 13), (13, .inr (.if_icmp .ne 22), 16), (16, .inr (.aload 0), 17), (17, .inl (.int 1), 18), (18, .inr (.invokevirtual 34), 21), (21, .inr .ireturn, 22), (22, .inr (.aload 0), 23), (23, .inr (.getfield 128), 26), (26, .inr (.getfield 192), 29), (29, .inr (.aload 0), 30), (30, .inr (.getfield 131), 33), (33, .inr .iaload, 34), (34, .inr (.iload 1), 35), (35, .inr (.if_icmp .eq 46), 38), (38, .inr (.aload 0), 39), (39, .inl (.int 2), 40), (40, .inr (.invokevirtual 34), 43), (43, .inr (.ifCond .eq 50), 46), (46, .inl (.int 1), 47), (47, .inr (.goto 51), 50), (50, .inl (.int 0), 51), (51, .inr .ireturn, 52)]
/-- MaskBench$Loader.wrong(I)Z -/
def c_34 : List (Nat × pm_I × Nat) := [(0, .inr (.aload 0), 1), (1, .inr (.iload 1), 2), (2, .inr (.putfield 132), 5), (5, .inr (.aload 0), 6), (6, .inr (.aload 0), 7), (7, .inr (.getfield 128), 10), (10, .inr (.getfield 193), 13), (13, .inr (.aload 0), 14), (14, .inr (.getfield 131), 17), (17, .inr .iaload, 18), (18, .inr (.putfield 133), 21), (21, .inl (.int 0), 22), (22, .inr .ireturn, 23)]
/-- MaskBench.keyword(I)I -/
def c_35 : List (Nat × pm_I × Nat) := [(0, .inl (.int 0), 1), (1, .inr (.istore 1), 2), (2, .inl (.int 0), 3), (3, .inr (.istore 2), 4), (4, .inl (.int 0), 5), (5, .inr (.istore 3), 6), (6, .inr (.iload 3), 7), (7, .inl (.ref 100000), 10), (10, .inr (.invokevirtual 9001), 13), (13, .inr (.if_icmp .ge 60), 16), (16, .inl (.ref 100000), 19), (19, .inr (.iload 3), 20), (20, .inr (.invokevirtual 9002), 23), (23, .inr (.istore 4), 25), (25, .inr (.iload 4), 27), (27, .inl (.int 32), 29), (29, .inr (.if_icmp .eq 42), 32), (32, .inr (.iload 2), 33), (33, .inr (.iload 4), 35), (35, .inr (.invokestatic 28), 38), (38, .inr (.istore 2), 39), (39, .inr (.goto 54), 42), (42, .inr (.iload 2), 43), (43, .inr (.iload 0), 44), (44, .inr (.if_icmp .ne 49), 47), (47, .inr (.iload 1), 48), (48, .inr .ireturn, 49), (49, .inr (.iinc 1 1), 52), (52, .inl (.int 0), 53), (53, .inr (.istore 2), 54), (54, .inr (.iinc 3 1), 57), (57, .inr (.goto 6), 60), (60, .inl (.int (-1)), 61), (61, .inr .ireturn, 62)]
/-- MaskBench$Bench.isFullOf(I)Z -/
def c_36 : List (Nat × pm_I × Nat) := [(0, .inr (.iload 1), 1), (1, .inr (.lookupswitch 92 #[(0, 44), (8, 59), (9, 70), (10, 81)]), 44), (44, .inr (.aload 0), 45), (45, .inr (.getfield 515), 48), (48, .inl (.int 6), 50), (50, .inr (.if_icmp .lt 57), 53), (53, .inl (.int 1), 54), (54, .inr (.goto 58), 57), (57, .inl (.int 0), 58), (58, .inr .ireturn, 59), (59, .inr (.aload 0), 60), (60, .inr (.getfield 513), 63), (63, .inr (.getfield 320), 66), (66, .inr (.invokevirtual 37), 69), (69, .inr .ireturn, 70), (70, .inr (.aload 0), 71), (71, .inr (.getfield 513), 74), (74, .inr (.getfield 321), 77), (77, .inr (.invokevirtual 37), 80), (80, .inr .ireturn, 81), (81, .inr (.aload 0), 82), (82, .inr (.getfield 513), 85), (85, .inr (.getfield 322), 88), (88, .inr (.invokevirtual 37), 91), (91, .inr .ireturn, 92), (92, .inl (.int 0), 93), (93, .inr .ireturn, 94)]
/-- MaskBench$Marks.isFull()Z -/
def c_37 : List (Nat × pm_I × Nat) := [(0, .inr (.aload 0), 1), (1, .inr (.getfield 387), 4), (4, .inr (.aload 0), 5), (5, .inr (.getfield 384), 8), (8, .inr .arraylength, 9), (9, .inr (.if_icmp .lt 16), 12), (12, .inl (.int 1), 13), (13, .inr (.goto 17), 16), (16, .inl (.int 0), 17), (17, .inr .ireturn, 18)]
/-- MaskBench$Loader.takeNewName(LMaskBench$Bench;)Z -/
def c_38 : List (Nat × pm_I × Nat) := [(0, .inr (.aload 0), 1), (1, .inl (.int 2), 2), (2, .inr (.invokevirtual 33), 5), (5, .inr (.ifCond .ne 10), 8), (8, .inl (.int 0), 9), (9, .inr .ireturn, 10), (10, .inr (.aload 0), 11), (11, .inr (.getfield 128), 14), (14, .inr (.getfield 195), 17), (17, .inr (.aload 0), 18), (18, .inr (.getfield 131), 21), (21, .inr .iaload, 22), (22, .inr (.istore 2), 23), (23, .inr (.iload 2), 24), (24, .inr (.invokestatic 35), 27), (27, .inl (.int (-1)), 28), (28, .inr (.if_icmp .eq 37), 31), (31, .inr (.aload 0), 32), (32, .inl (.int 2), 33), (33, .inr (.invokevirtual 34), 36), (36, .inr .ireturn, 37), (37, .inr (.aload 1), 38), (38, .inr (.iload 2), 39), (39, .inr (.invokevirtual 39), 42), (42, .inl (.int (-1)), 43), (43, .inr (.if_icmp .eq 52), 46), (46, .inr (.aload 0), 47), (47, .inl (.int 4), 48), (48, .inr (.invokevirtual 34), 51), (51, .inr .ireturn, 52), (52, .inr (.aload 1), 53), (53, .inr (.invokevirtual 40), 56), (56, .inr (.iload 2), 57), (57, .inr (.putfield 579), 60), (60, .inr (.aload 0), 61), (61, .inr .dup, 62), (62, .inr (.getfield 131), 65), (65, .inl (.int 1), 66), (66, .inr .iadd, 67), (67, .inr (.putfield 131), 70), (70, .inl (.int 1), 71), (71, .inr .ireturn, 72)]
/-- MaskBench$Bench.numberOf(I)I -/
def c_39 : List (Nat × pm_I × Nat) := [(0, .inl (.int 0), 1), (1, .inr (.istore 2), 2), (2, .inr (.iload 2), 3), (3, .inr (.aload 0), 4), (4, .inr (.getfield 515), 7), (7, .inr (.if_icmp .ge 31), 10), (10, .inr (.aload 0), 11), (11, .inr (.getfield 512), 14), (14, .inr (.iload 2), 15), (15, .inr .aaload, 16), (16, .inr (.getfield 579), 19), (19, .inr (.iload 1), 20), (20, .inr (.if_icmp .ne 25), 23), (23, .inr (.iload 2), 24), (24, .inr .ireturn, 25), (25, .inr (.iinc 2 1), 28), (28, .inr (.goto 2), 31), (31, .inl (.int (-1)), 32), (32, .inr .ireturn, 33)]
/-- MaskBench$Bench.next()LMaskBench$Plate; -/
def c_40 : List (Nat × pm_I × Nat) := [(0, .inr (.aload 0), 1), (1, .inr (.getfield 512), 4), (4, .inr (.aload 0), 5), (5, .inr (.getfield 515), 8), (8, .inl (.int 5), 9), (9, .inr (.invokestatic 24), 12), (12, .inr .aaload, 13), (13, .inr .areturn, 14)]
/-- MaskBench$Loader.takeFormWord()Z -/
def c_41 : List (Nat × pm_I × Nat) := [(0, .inr (.aload 0), 1), (1, .inl (.int 2), 2), (2, .inr (.invokevirtual 33), 5), (5, .inr (.ifCond .ne 10), 8), (8, .inl (.int 0), 9), (9, .inr .ireturn, 10), (10, .inr (.aload 0), 11), (11, .inr (.getfield 128), 14), (14, .inr (.getfield 195), 17), (17, .inr (.aload 0), 18), (18, .inr (.getfield 131), 21), (21, .inr .iaload, 22), (22, .inr (.invokestatic 35), 25), (25, .inr (.istore 1), 26), (26, .inr (.iload 1), 27), (27, .inl (.int 1), 28), (28, .inr (.if_icmp .lt 37), 31), (31, .inr (.iload 1), 32), (32, .inl (.int 7), 34), (34, .inr (.if_icmp .le 43), 37), (37, .inr (.aload 0), 38), (38, .inl (.int 2), 39), (39, .inr (.invokevirtual 34), 42), (42, .inr .ireturn, 43), (43, .inr (.aload 0), 44), (44, .inr .dup, 45), (45, .inr (.getfield 131), 48), (48, .inl (.int 1), 49), (49, .inr .iadd, 50), (50, .inr (.putfield 131), 53), (53, .inl (.int 1), 54), (54, .inr .ireturn, 55)]
/-- MaskBench$Loader.slotsOf(I)Ljava/lang/String; -/
def c_42 : List (Nat × pm_I × Nat) := [(0, .inr (.iload 0), 1), (1, .inr (.tableswitch 91 1 12 #[64, 70, 73, 76, 88, 79, 67, 91, 82, 91, 85, 88]), 64), (64, .inl (.ref 100001), 66), (66, .inr .areturn, 67), (67, .inl (.ref 100002), 69), (69, .inr .areturn, 70), (70, .inl (.ref 100003), 72), (72, .inr .areturn, 73), (73, .inl (.ref 100004), 75), (75, .inr .areturn, 76), (76, .inl (.ref 100005), 78), (78, .inr .areturn, 79), (79, .inl (.ref 100006), 81), (81, .inr .areturn, 82), (82, .inl (.ref 100007), 84), (84, .inr .areturn, 85), (85, .inl (.ref 100008), 87), (87, .inr .areturn, 88), (88, .inl (.ref 100009), 90), (90, .inr .areturn, 91), (91, .inl (.ref 100010), 93), (93, .inr .areturn, 94)]
/-- MaskBench$Loader.takeSlot(ILMaskBench$Paper;LMaskBench$Bench;)Z -/
def c_43 : List (Nat × pm_I × Nat) := [(0, .inr (.iload 1), 1), (1, .inr (.lookupswitch 196 #[(35, 106), (42, 124), (97, 145), (98, 155), (99, 187), (110, 133), (113, 99), (114, 92), (119, 116), (120, 179)]), 92), (92, .inr (.aload 0), 93), (93, .inl (.int 47), 95), (95, .inr (.invokevirtual 44), 98), (98, .inr .ireturn, 99), (99, .inr (.aload 0), 100), (100, .inl (.int 17), 102), (102, .inr (.invokevirtual 44), 105), (105, .inr .ireturn, 106), (106, .inr (.aload 0), 107), (107, .inr (.aload 2), 108), (108, .inr (.aload 3), 109), (109, .inr (.invokevirtual 40), 112), (112, .inr (.invokevirtual 47), 115), (115, .inr .ireturn, 116), (116, .inr (.aload 0), 117), (117, .inl (.int 1), 118), (118, .inl (.int 47), 120), (120, .inr (.invokevirtual 52), 123), (123, .inr .ireturn, 124), (124, .inr (.aload 0), 125), (125, .inr (.aload 3), 126), (126, .inr (.invokevirtual 40), 129), (129, .inr (.invokevirtual 53), 132), (132, .inr .ireturn, 133), (133, .inr (.aload 0), 134), (134, .inr (.aload 3), 135), (135, .inl (.int 289), 138), (138, .inl (.int 289), 141), (141, .inr (.invokevirtual 55), 144), (144, .inr .ireturn, 145), (145, .inr (.aload 0), 146), (146, .inr (.aload 3), 147), (147, .inl (.int 289), 150), (150, .inl (.int 1), 151), (151, .inr (.invokevirtual 55), 154), (154, .inr .ireturn, 155), (155, .inr (.aload 0), 156), (156, .inr (.aload 3), 157), (157, .inl (.int 289), 160), (160, .inr (.aload 3), 161), (161, .inr (.aload 0), 162), (162, .inr (.getfield 129), 165), (165, .inl (.int 0), 166), (166, .inr .iaload, 167), (167, .inr (.invokevirtual 57), 170), (170, .inr (.getfield 580), 173), (173, .inr .idiv, 174), (174, .inl (.int 1), 175), (175, .inr (.invokevirtual 55), 178), (178, .inr .ireturn, 179), (179, .inr (.aload 0), 180), (180, .inl (.int 0), 181), (181, .inl (.int 99), 183), (183, .inr (.invokevirtual 52), 186), (186, .inr .ireturn, 187), (187, .inr (.aload 0), 188), (188, .inl (.int 1), 189), (189, .inl (.int 999), 192), (192, .inr (.invokevirtual 52), 195), (195, .inr .ireturn, 196), (196, .inr (.aload 0), 197), (197, .inr (.invokevirtual 58), 200), (200, .inr .ireturn, 201)]
/-- MaskBench$Loader.takePrime(I)Z -/
def c_44 : List (Nat × pm_I × Nat) := [(0, .inr (.aload 0), 1), (1, .inl (.int 3), 2), (2, .inr (.invokevirtual 33), 5), (5, .inr (.ifCond .ne 10), 8), (8, .inl (.int 0), 9), (9, .inr .ireturn, 10), (10, .inr (.aload 0), 11), (11, .inr (.getfield 128), 14), (14, .inr (.getfield 195), 17), (17, .inr (.aload 0), 18), (18, .inr (.getfield 131), 21), (21, .inr .iaload, 22), (22, .inr (.istore 2), 23), (23, .inr (.iload 2), 24), (24, .inr (.iload 1), 25), (25, .inr (.if_icmp .gt 35), 28), (28, .inr (.iload 2), 29), (29, .inr (.invokestatic 45), 32), (32, .inr (.ifCond .ne 43), 35), (35, .inr (.aload 0), 36), (36, .inl (.int 3), 37), (37, .inr (.invokevirtual 34), 40), (40, .inr (.goto 48), 43), (43, .inr (.aload 0), 44), (44, .inr (.iload 2), 45), (45, .inr (.invokevirtual 46), 48), (48, .inr .ireturn, 49)]
/-- MaskBench.isPrime(I)Z -/
def c_45 : List (Nat × pm_I × Nat) := [(0, .inr (.iload 0), 1), (1, .inl (.int 3), 2), (2, .inr (.if_icmp .lt 11), 5), (5, .inr (.iload 0), 6), (6, .inl (.int 47), 8), (8, .inr (.if_icmp .le 13), 11), (11, .inl (.int 0), 12), (12, .inr .ireturn, 13), (13, .inl (.int 2), 14), (14, .inr (.istore 1), 15), (15, .inr (.iload 1), 16), (16, .inr (.iload 1), 17), (17, .inr .imul, 18), (18, .inr (.iload 0), 19), (19, .inr (.if_icmp .gt 36), 22), (22, .inr (.iload 0), 23), (23, .inr (.iload 1), 24), (24, .inr .irem, 25), (25, .inr (.ifCond .ne 30), 28), (28, .inl (.int 0), 29), (29, .inr .ireturn, 30), (30, .inr (.iinc 1 1), 33), (33, .inr (.goto 15), 36), (36, .inl (.int 1), 37), (37, .inr .ireturn, 38)]
/-- MaskBench$Loader.take(I)Z -/
def c_46 : List (Nat × pm_I × Nat) := [(0, .inr (.aload 0), 1), (1, .inr (.getfield 130), 4), (4, .inr (.aload 0), 5), (5, .inr (.getfield 129), 8), (8, .inr .arraylength, 9), (9, .inr (.if_icmp .ge 32), 12), (12, .inr (.aload 0), 13), (13, .inr (.getfield 129), 16), (16, .inr (.aload 0), 17), (17, .inr (.getfield 130), 20), (20, .inr (.iload 1), 21), (21, .inr .iastore, 22), (22, .inr (.aload 0), 23), (23, .inr .dup, 24), (24, .inr (.getfield 130), 27), (27, .inl (.int 1), 28), (28, .inr .iadd, 29), (29, .inr (.putfield 130), 32), (32, .inr (.aload 0), 33), (33, .inr .dup, 34), (34, .inr (.getfield 131), 37), (37, .inl (.int 1), 38), (38, .inr .iadd, 39), (39, .inr (.putfield 131), 42), (42, .inl (.int 1), 43), (43, .inr .ireturn, 44)]
/-- MaskBench$Loader.takeBits(LMaskBench$Paper;LMaskBench$Plate;)Z -/
def c_47 : List (Nat × pm_I × Nat) := [(0, .inr (.aload 0), 1), (1, .inl (.int 4), 2), (2, .inr (.invokevirtual 33), 5), (5, .inr (.ifCond .ne 10), 8), (8, .inl (.int 0), 9), (9, .inr .ireturn, 10), (10, .inr (.aload 2), 11), (11, .inr (.aload 0), 12), (12, .inr (.getfield 128), 15), (15, .inr (.getfield 195), 18), (18, .inr (.aload 0), 19), (19, .inr (.getfield 131), 22), (22, .inr .iaload, 23), (23, .inr (.invokevirtual 48), 26), (26, .inr (.aload 0), 27), (27, .inr (.getfield 128), 30), (30, .inr (.getfield 193), 33), (33, .inr (.aload 0), 34), (34, .inr (.getfield 131), 37), (37, .inr .iaload, 38), (38, .inl (.int 1), 39), (39, .inr .iadd, 40), (40, .inr (.istore 3), 41), (41, .inl (.int 0), 42), (42, .inr (.istore 4), 44), (44, .inr (.iload 4), 46), (46, .inr (.aload 2), 47), (47, .inr (.getfield 580), 50), (50, .inr (.if_icmp .ge 85), 53), (53, .inr (.aload 2), 54), (54, .inr (.getfield 576), 57), (57, .inr (.iload 4), 59), (59, .inr (.aload 1), 60), (60, .inr (.getfield 64), 63), (63, .inr (.iload 3), 64), (64, .inr (.iload 4), 66), (66, .inr .iadd, 67), (67, .inr .iaload, 68), (68, .inl (.int 49), 70), (70, .inr (.if_icmp .ne 77), 73), (73, .inl (.int 1), 74), (74, .inr (.goto 78), 77), (77, .inl (.int 0), 78), (78, .inr .iastore, 79), (79, .inr (.iinc 4 1), 82), (82, .inr (.goto 44), 85), (85, .inr (.aload 0), 86), (86, .inr .dup, 87), (87, .inr (.getfield 131), 90), (90, .inl (.int 1), 91), (91, .inr .iadd, 92), (92, .inr (.putfield 131), 95), (95, .inl (.int 1), 96), (96, .inr .ireturn, 97)]
/-- MaskBench$Plate.makeClosedRow(I)V -/
def c_48 : List (Nat × pm_I × Nat) := [(0, .inr (.aload 0), 1), (1, .inr (.iload 1), 2), (2, .inl (.int 1), 3), (3, .inr (.invokevirtual 49), 6), (6, .inr (.aload 0), 7), (7, .inr (.getfield 576), 10), (10, .inl (.int 0), 11), (11, .inr (.aload 0), 12), (12, .inr (.getfield 582), 15), (15, .inl (.int 0), 16), (16, .inr (.invokestatic 50), 19), (19, .inr .return_, 20)]
/-- MaskBench$Plate.resize(II)V -/
def c_49 : List (Nat × pm_I × Nat) := [(0, .inr (.iload 1), 1), (1, .inl (.int 1), 2), (2, .inr (.if_icmp .lt 30), 5), (5, .inr (.iload 2), 6), (6, .inl (.int 1), 7), (7, .inr (.if_icmp .lt 30), 10), (10, .inr (.iload 1), 11), (11, .inl (.int 289), 14), (14, .inr (.if_icmp .gt 30), 17), (17, .inr (.iload 2), 18), (18, .inl (.int 289), 21), (21, .inr (.iload 1), 22), (22, .inr .idiv, 23), (23, .inr (.if_icmp .gt 30), 26), (26, .inl (.int 1), 27), (27, .inr (.goto 31), 30), (30, .inl (.int 0), 31), (31, .inr (.istore 3), 32), (32, .inr (.aload 0), 33), (33, .inr (.iload 3), 34), (34, .inr (.ifCond .eq 41), 37), (37, .inr (.iload 1), 38), (38, .inr (.goto 42), 41), (41, .inl (.int 1), 42), (42, .inr (.putfield 580), 45), (45, .inr (.aload 0), 46), (46, .inr (.iload 3), 47), (47, .inr (.ifCond .eq 54), 50), (50, .inr (.iload 2), 51), (51, .inr (.goto 55), 54), (54, .inl (.int 1), 55), (55, .inr (.putfield 581), 58), (58, .inr (.aload 0), 59), (59, .inr (.aload 0), 60), (60, .inr (.getfield 580), 63), (63, .inr (.aload 0), 64), (64, .inr (.getfield 581), 67), (67, .inr .imul, 68), (68, .inr (.putfield 582), 71), (71, .inr (.aload 0), 72), (72, .inl (.int 0), 73), (73, .inr (.putfield 585), 76), (76, .inr .return_, 77)]
/-- java/util/Arrays.fill([IIII)V -/
def c_50 : List (Nat × pm_I × Nat) := [(0, .inr (.aload 0), 1), (1, .inr .arraylength, 2), (2, .inr (.iload 1), 3), (3, .inr (.iload 2), 4), (4, .inr (.invokestatic 51), 7), (7, .inr (.iload 1), 8), (8, .inr (.istore 4), 10), (10, .inr (.iload 4), 12), (12, .inr (.iload 2), 13), (13, .inr (.if_icmp .ge 27), 16), (16, .inr (.aload 0), 17), (17, .inr (.iload 4), 19), (19, .inr (.iload 3), 20), (20, .inr .iastore, 21), (21, .inr (.iinc 4 1), 24), (24, .inr (.goto 10), 27), (27, .inr .return_, 28)]
/-- java/util/Arrays.rangeCheck(III)V -/
def c_51 : List (Nat × pm_I × Nat) := [(0, .inr (.iload 1), 1), (1, .inr (.iload 2), 2), (2, .inr (.if_icmp .le 46), 5), (8, .inr .dup, 9), (12, .inr .dup, 13), (21, .inr (.iload 1), 22), (30, .inr (.iload 2), 31), (46, .inr (.iload 1), 47), (47, .inr (.ifCond .ge 59), 50), (53, .inr .dup, 54), (54, .inr (.iload 1), 55), (59, .inr (.iload 2), 60), (60, .inr (.iload 0), 61), (61, .inr (.if_icmp .le 73), 64), (67, .inr .dup, 68), (68, .inr (.iload 2), 69), (73, .inr .return_, 74)]
/-- MaskBench$Loader.takeNumber(II)Z -/
def c_52 : List (Nat × pm_I × Nat) := [(0, .inr (.aload 0), 1), (1, .inl (.int 3), 2), (2, .inr (.invokevirtual 33), 5), (5, .inr (.ifCond .ne 10), 8), (8, .inl (.int 0), 9), (9, .inr .ireturn, 10), (10, .inr (.aload 0), 11), (11, .inr (.getfield 128), 14), (14, .inr (.getfield 195), 17), (17, .inr (.aload 0), 18), (18, .inr (.getfield 131), 21), (21, .inr .iaload, 22), (22, .inr (.istore 3), 23), (23, .inr (.iload 3), 24), (24, .inr (.iload 1), 25), (25, .inr (.if_icmp .lt 33), 28), (28, .inr (.iload 3), 29), (29, .inr (.iload 2), 30), (30, .inr (.if_icmp .le 41), 33), (33, .inr (.aload 0), 34), (34, .inl (.int 3), 35), (35, .inr (.invokevirtual 34), 38), (38, .inr (.goto 46), 41), (41, .inr (.aload 0), 42), (42, .inr (.iload 3), 43), (43, .inr (.invokevirtual 46), 46), (46, .inr .ireturn, 47)]
/-- MaskBench$Loader.takePlaces(LMaskBench$Plate;)Z -/
def c_53 : List (Nat × pm_I × Nat) := [(0, .inr (.aload 1), 1), (1, .inr (.aload 0), 2), (2, .inr (.getfield 129), 5), (5, .inl (.int 0), 6), (6, .inr .iaload, 7), (7, .inr (.invokevirtual 48), 10), (10, .inl (.int 0), 11), (11, .inr (.istore 2), 12), (12, .inr (.iload 2), 13), (13, .inr (.aload 0), 14), (14, .inr (.getfield 128), 17), (17, .inr (.getfield 196), 20), (20, .inr (.if_icmp .ge 100), 23), (23, .inr (.aload 0), 24), (24, .inr (.getfield 128), 27), (27, .inr (.getfield 192), 30), (30, .inr (.aload 0), 31), (31, .inr (.getfield 131), 34), (34, .inr .iaload, 35), (35, .inl (.int 3), 36), (36, .inr (.if_icmp .ne 100), 39), (39, .inr (.aload 0), 40), (40, .inr (.getfield 128), 43), (43, .inr (.getfield 195), 46), (46, .inr (.aload 0), 47), (47, .inr (.getfield 131), 50), (50, .inr .iaload, 51), (51, .inr (.istore 3), 52), (52, .inr (.aload 1), 53), (53, .inr (.iload 3), 54), (54, .inl (.int 0), 55), (55, .inr (.invokevirtual 54), 58), (58, .inr (.ifCond .eq 71), 61), (61, .inr (.aload 1), 62), (62, .inr (.getfield 576), 65), (65, .inr (.iload 3), 66), (66, .inr .iaload, 67), (67, .inl (.int 1), 68), (68, .inr (.if_icmp .ne 77), 71), (71, .inr (.aload 0), 72), (72, .inl (.int 3), 73), (73, .inr (.invokevirtual 34), 76), (76, .inr .ireturn, 77), (77, .inr (.aload 1), 78), (78, .inr (.getfield 576), 81), (81, .inr (.iload 3), 82), (82, .inl (.int 1), 83), (83, .inr .iastore, 84), (84, .inr (.aload 0), 85), (85, .inr .dup, 86), (86, .inr (.getfield 131), 89), (89, .inl (.int 1), 90), (90, .inr .iadd, 91), (91, .inr (.putfield 131), 94), (94, .inr (.iinc 2 1), 97), (97, .inr (.goto 12), 100), (100, .inl (.int 1), 101), (101, .inr .ireturn, 102)]
/-- MaskBench$Plate.has(II)Z -/
def c_54 : List (Nat × pm_I × Nat) := [(0, .inr (.iload 1), 1), (1, .inr (.ifCond .lt 28), 4), (4, .inr (.iload 1), 5), (5, .inr (.aload 0), 6), (6, .inr (.getfield 580), 9), (9, .inr (.if_icmp .ge 28), 12), (12, .inr (.iload 2), 13), (13, .inr (.ifCond .lt 28), 16), (16, .inr (.iload 2), 17), (17, .inr (.aload 0), 18), (18, .inr (.getfield 581), 21), (21, .inr (.if_icmp .ge 28), 24), (24, .inl (.int 1), 25), (25, .inr (.goto 29), 28), (28, .inl (.int 0), 29), (29, .inr .ireturn, 30)]
/-- MaskBench$Loader.takeNamed(LMaskBench$Bench;II)Z -/
def c_55 : List (Nat × pm_I × Nat) := [(0, .inr (.aload 0), 1), (1, .inl (.int 2), 2), (2, .inr (.invokevirtual 33), 5), (5, .inr (.ifCond .ne 10), 8), (8, .inl (.int 0), 9), (9, .inr .ireturn, 10), (10, .inr (.aload 0), 11), (11, .inr (.getfield 128), 14), (14, .inr (.getfield 195), 17), (17, .inr (.aload 0), 18), (18, .inr (.getfield 131), 21), (21, .inr .iaload, 22), (22, .inr (.invokestatic 35), 25), (25, .inl (.int (-1)), 26), (26, .inr (.if_icmp .eq 35), 29), (29, .inr (.aload 0), 30), (30, .inl (.int 2), 31), (31, .inr (.invokevirtual 34), 34), (34, .inr .ireturn, 35), (35, .inr (.aload 1), 36), (36, .inr (.aload 0), 37), (37, .inr (.getfield 128), 40), (40, .inr (.getfield 195), 43), (43, .inr (.aload 0), 44), (44, .inr (.getfield 131), 47), (47, .inr .iaload, 48), (48, .inr (.invokevirtual 39), 51), (51, .inr (.istore 4), 53), (53, .inr (.aload 1), 54), (54, .inr (.iload 4), 56), (56, .inr (.invokevirtual 56), 59), (59, .inr (.astore 5), 61), (61, .inr (.aload 5), 63), (63, .inr (.ifnonnull 72), 66), (66, .inr (.aload 0), 67), (67, .inl (.int 4), 68), (68, .inr (.invokevirtual 34), 71), (71, .inr .ireturn, 72), (72, .inr (.aload 5), 74), (74, .inr (.getfield 580), 77), (77, .inr (.iload 2), 78), (78, .inr (.if_icmp .gt 90), 81), (81, .inr (.aload 5), 83), (83, .inr (.getfield 581), 86), (86, .inr (.iload 3), 87), (87, .inr (.if_icmp .le 96), 90), (90, .inr (.aload 0), 91), (91, .inl (.int 5), 92), (92, .inr (.invokevirtual 34), 95), (95, .inr .ireturn, 96), (96, .inr (.aload 0), 97), (97, .inr (.iload 4), 99), (99, .inr (.invokevirtual 46), 102), (102, .inr .ireturn, 103)]
/-- MaskBench$Bench.plateOf(I)LMaskBench$Plate; -/
def c_56 : List (Nat × pm_I × Nat) := [(0, .inr (.iload 1), 1), (1, .inr (.ifCond .lt 21), 4), (4, .inr (.iload 1), 5), (5, .inr (.aload 0), 6), (6, .inr (.getfield 515), 9), (9, .inr (.if_icmp .ge 21), 12), (12, .inr (.aload 0), 13), (13, .inr (.getfield 512), 16), (16, .inr (.iload 1), 17), (17, .inr .aaload, 18), (18, .inr (.goto 22), 21), (21, .inl .null, 22), (22, .inr .areturn, 23)]
/-- MaskBench$Bench.named(I)LMaskBench$Plate; -/
def c_57 : List (Nat × pm_I × Nat) := [(0, .inr (.aload 0), 1), (1, .inr (.getfield 512), 4), (4, .inr (.iload 1), 5), (5, .inr (.ifCond .lt 20), 8), (8, .inr (.iload 1), 9), (9, .inr (.aload 0), 10), (10, .inr (.getfield 515), 13), (13, .inr (.if_icmp .ge 20), 16), (16, .inr (.iload 1), 17), (17, .inr (.goto 21), 20), (20, .inl (.int 0), 21), (21, .inr .aaload, 22), (22, .inr .areturn, 23)]
/-- MaskBench$Loader.takeSign()Z -/
def c_58 : List (Nat × pm_I × Nat) := [(0, .inr (.aload 0), 1), (1, .inl (.int 5), 2), (2, .inr (.invokevirtual 33), 5), (5, .inr (.ifCond .ne 10), 8), (8, .inl (.int 0), 9), (9, .inr .ireturn, 10), (10, .inr (.aload 0), 11), (11, .inr .dup, 12), (12, .inr (.getfield 131), 15), (15, .inl (.int 1), 16), (16, .inr .iadd, 17), (17, .inr (.putfield 131), 20), (20, .inl (.int 1), 21), (21, .inr .ireturn, 22)]
/-- MaskBench$Loader.finishPlate(ILMaskBench$Bench;)V -/
def c_59 : List (Nat × pm_I × Nat) := [(0, .inr (.aload 2), 1), (1, .inr (.invokevirtual 40), 4), (4, .inr (.astore 3), 5), (5, .inr (.iload 1), 6), (6, .inr (.tableswitch 147 1 7 #[48, 147, 147, 74, 103, 120, 61]), 48), (48, .inr (.aload 3), 49), (49, .inr (.aload 0), 50), (50, .inr (.getfield 129), 53), (53, .inl (.int 0), 54), (54, .inr .iaload, 55), (55, .inr (.invokevirtual 60), 58), (58, .inr (.goto 151), 61), (61, .inr (.aload 3), 62), (62, .inr (.aload 0), 63), (63, .inr (.getfield 129), 66), (66, .inl (.int 0), 67), (67, .inr .iaload, 68), (68, .inr (.invokevirtual 63), 71), (71, .inr (.goto 151), 74), (74, .inr (.aload 3), 75), (75, .inr (.aload 2), 76), (76, .inr (.aload 0), 77), (77, .inr (.getfield 129), 80), (80, .inl (.int 0), 81), (81, .inr .iaload, 82), (82, .inr (.invokevirtual 57), 85), (85, .inr (.aload 0), 86), (86, .inr (.getfield 129), 89), (89, .inl (.int 1), 90), (90, .inr .iaload, 91), (91, .inr (.aload 0), 92), (92, .inr (.getfield 129), 95), (95, .inl (.int 2), 96), (96, .inr .iaload, 97), (97, .inr (.invokevirtual 64), 100), (100, .inr (.goto 151), 103), (103, .inr (.aload 3), 104), (104, .inr (.aload 2), 105), (105, .inr (.aload 0), 106), (106, .inr (.getfield 129), 109), (109, .inl (.int 0), 110), (110, .inr .iaload, 111), (111, .inr (.invokevirtual 57), 114), (114, .inr (.invokevirtual 67), 117), (117, .inr (.goto 151), 120), (120, .inr (.aload 3), 121), (121, .inr (.aload 2), 122), (122, .inr (.aload 0), 123), (123, .inr (.getfield 129), 126), (126, .inl (.int 0), 127), (127, .inr .iaload, 128), (128, .inr (.invokevirtual 57), 131), (131, .inr (.aload 2), 132), (132, .inr (.aload 0), 133), (133, .inr (.getfield 129), 136), (136, .inl (.int 1), 137), (137, .inr .iaload, 138), (138, .inr (.invokevirtual 57), 141), (141, .inr (.invokevirtual 68), 144), (144, .inr (.goto 151), 147), (147, .inr (.aload 3), 148), (148, .inr (.invokevirtual 62), 151), (151, .inr (.aload 3), 152), (152, .inr (.invokevirtual 71), 155), (155, .inr (.aload 2), 156), (156, .inr .dup, 157), (157, .inr (.getfield 515), 160), (160, .inl (.int 1), 161), (161, .inr .iadd, 162), (162, .inr (.putfield 515), 165), (165, .inr .return_, 166)]
/-- MaskBench$Plate.makeRow(I)V -/
def c_60 : List (Nat × pm_I × Nat) := [(0, .inr (.aload 0), 1), (1, .inr (.iload 1), 2), (2, .inr (.invokevirtual 48), 5), (5, .inl (.int 1), 6), (6, .inr (.istore 2), 7), (7, .inr (.iload 2), 8), (8, .inr (.aload 0), 9), (9, .inr (.getfield 582), 12), (12, .inr (.if_icmp .ge 41), 15), (15, .inr (.aload 0), 16), (16, .inr (.getfield 576), 19), (19, .inr (.iload 2), 20), (20, .inr (.iload 1), 21), (21, .inr (.iload 2), 22), (22, .inr (.invokestatic 61), 25), (25, .inl (.int (-1)), 26), (26, .inr (.if_icmp .ne 33), 29), (29, .inl (.int 0), 30), (30, .inr (.goto 34), 33), (33, .inl (.int 1), 34), (34, .inr .iastore, 35), (35, .inr (.iinc 2 1), 38), (38, .inr (.goto 7), 41), (41, .inr (.aload 0), 42), (42, .inr (.invokevirtual 62), 45), (45, .inr (.iload 1), 46), (46, .inl (.int 4), 47), (47, .inr .irem, 48), (48, .inl (.int 1), 49), (49, .inr (.if_icmp .ne 59), 52), (52, .inr (.aload 0), 53), (53, .inr (.getfield 577), 56), (56, .inl (.int 0), 57), (57, .inl (.int 1), 58), (58, .inr .iastore, 59), (59, .inr .return_, 60)]
/-- MaskBench.leastRoot(II)I -/
def c_61 : List (Nat × pm_I × Nat) := [(0, .inl (.int 1), 1), (1, .inr (.istore 2), 2), (2, .inr (.iload 2), 3), (3, .inr (.iload 0), 4), (4, .inr (.if_icmp .ge 24), 7), (7, .inr (.iload 2), 8), (8, .inr (.iload 2), 9), (9, .inr .imul, 10), (10, .inr (.iload 0), 11), (11, .inr .irem, 12), (12, .inr (.iload 1), 13), (13, .inr (.if_icmp .ne 18), 16), (16, .inr (.iload 2), 17), (17, .inr .ireturn, 18), (18, .inr (.iinc 2 1), 21), (21, .inr (.goto 2), 24), (24, .inl (.int (-1)), 25), (25, .inr .ireturn, 26)]
/-- MaskBench$Plate.weighByHoles()V -/
def c_62 : List (Nat × pm_I × Nat) := [(0, .inl (.int 0), 1), (1, .inr (.istore 1), 2), (2, .inr (.iload 1), 3), (3, .inr (.aload 0), 4), (4, .inr (.getfield 582), 7), (7, .inr (.if_icmp .ge 37), 10), (10, .inr (.aload 0), 11), (11, .inr (.getfield 577), 14), (14, .inr (.iload 1), 15), (15, .inr (.aload 0), 16), (16, .inr (.getfield 576), 19), (19, .inr (.iload 1), 20), (20, .inr .iaload, 21), (21, .inl (.int 1), 22), (22, .inr (.if_icmp .ne 29), 25), (25, .inl (.int 1), 26), (26, .inr (.goto 30), 29), (29, .inl (.int (-1)), 30), (30, .inr .iastore, 31), (31, .inr (.iinc 1 1), 34), (34, .inr (.goto 2), 37), (37, .inr .return_, 38)]
/-- MaskBench$Plate.makeSquare(I)V -/
def c_63 : List (Nat × pm_I × Nat) := [(0, .inr (.aload 0), 1), (1, .inr (.iload 1), 2), (2, .inr (.iload 1), 3), (3, .inr (.invokevirtual 49), 6), (6, .inl (.int 0), 7), (7, .inr (.istore 2), 8), (8, .inr (.iload 2), 9), (9, .inr (.aload 0), 10), (10, .inr (.getfield 580), 13), (13, .inr (.if_icmp .ge 118), 16), (16, .inr (.iload 1), 17), (17, .inr (.iload 2), 18), (18, .inr (.invokestatic 61), 21), (21, .inl (.int (-1)), 22), (22, .inr (.if_icmp .eq 29), 25), (25, .inl (.int 1), 26), (26, .inr (.goto 30), 29), (29, .inl (.int 0), 30), (30, .inr (.istore 3), 31), (31, .inl (.int 0), 32), (32, .inr (.istore 4), 34), (34, .inr (.iload 4), 36), (36, .inr (.aload 0), 37), (37, .inr (.getfield 581), 40), (40, .inr (.if_icmp .ge 112), 43), (43, .inr (.iload 1), 44), (44, .inr (.iload 4), 46), (46, .inr (.invokestatic 61), 49), (49, .inl (.int (-1)), 50), (50, .inr (.if_icmp .eq 57), 53), (53, .inl (.int 1), 54), (54, .inr (.goto 58), 57), (57, .inl (.int 0), 58), (58, .inr (.istore 5), 60), (60, .inr (.iload 2), 61), (61, .inr (.ifCond .eq 79), 64), (64, .inr (.iload 4), 66), (66, .inr (.ifCond .eq 75), 69), (69, .inr (.iload 3), 70), (70, .inr (.iload 5), 72), (72, .inr (.if_icmp .ne 79), 75), (75, .inl (.int 1), 76), (76, .inr (.goto 80), 79), (79, .inl (.int 0), 80), (80, .inr (.istore 6), 82), (82, .inr (.aload 0), 83), (83, .inr (.getfield 576), 86), (86, .inr (.iload 4), 88), (88, .inr (.aload 0), 89), (89, .inr (.getfield 580), 92), (92, .inr .imul, 93), (93, .inr (.iload 2), 94), (94, .inr .iadd, 95), (95, .inr (.iload 6), 97), (97, .inr (.ifCond .eq 104), 100), (100, .inl (.int 1), 101), (101, .inr (.goto 105), 104), (104, .inl (.int 0), 105), (105, .inr .iastore, 106), (106, .inr (.iinc 4 1), 109), (109, .inr (.goto 34), 112), (112, .inr (.iinc 2 1), 115), (115, .inr (.goto 8), 118), (118, .inr (.aload 0), 119), (119, .inr (.invokevirtual 62), 122), (122, .inr (.aload 0), 123), (123, .inr (.getfield 577), 126), (126, .inl (.int 0), 127), (127, .inl (.int 1), 128), (128, .inr .iastore, 129), (129, .inr .return_, 130)]
/-- MaskBench$Plate.makeTurned(LMaskBench$Plate;II)V -/
def c_64 : List (Nat × pm_I × Nat) := [(0, .inr (.aload 0), 1), (1, .inr (.aload 1), 2), (2, .inr (.getfield 580), 5), (5, .inr (.aload 1), 6), (6, .inr (.getfield 581), 9), (9, .inr (.invokevirtual 49), 12), (12, .inr (.aload 0), 13), (13, .inr (.getfield 576), 16), (16, .inl (.int 0), 17), (17, .inr (.aload 0), 18), (18, .inr (.getfield 582), 21), (21, .inl (.int 0), 22), (22, .inr (.invokestatic 50), 25), (25, .inr (.aload 0), 26), (26, .inr (.getfield 577), 29), (29, .inl (.int 0), 30), (30, .inr (.aload 0), 31), (31, .inr (.getfield 582), 34), (34, .inl (.int 0), 35), (35, .inr (.invokestatic 50), 38), (38, .inr (.aload 0), 39), (39, .inr (.aload 0), 40), (40, .inr (.getfield 576), 43), (43, .inr (.aload 1), 44), (44, .inr (.getfield 576), 47), (47, .inr (.iload 2), 48), (48, .inr .ineg, 49), (49, .inr (.iload 3), 50), (50, .inr .ineg, 51), (51, .inl (.int 1), 52), (52, .inr (.invokevirtual 65), 55), (55, .inr (.aload 0), 56), (56, .inr (.aload 0), 57), (57, .inr (.getfield 577), 60), (60, .inr (.aload 1), 61), (61, .inr (.getfield 577), 64), (64, .inr (.iload 2), 65), (65, .inr .ineg, 66), (66, .inr (.iload 3), 67), (67, .inr .ineg, 68), (68, .inl (.int 1), 69), (69, .inr (.invokevirtual 65), 72), (72, .inr .return_, 73)]
/-- MaskBench$Plate.addShifted([I[IIII)V -/
def c_65 : List (Nat × pm_I × Nat) := [(0, .inr (.iload 3), 1), (1, .inr (.aload 0), 2), (2, .inr (.getfield 580), 5), (5, .inr (.invokestatic 66), 8), (8, .inr (.istore 6), 10), (10, .inr (.iload 4), 12), (12, .inr (.aload 0), 13), (13, .inr (.getfield 581), 16), (16, .inr (.invokestatic 66), 19), (19, .inr (.istore 7), 21), (21, .inl (.int 0), 22), (22, .inr (.istore 8), 24), (24, .inl (.int 0), 25), (25, .inr (.istore 9), 27), (27, .inr (.iload 9), 29), (29, .inr (.aload 0), 30), (30, .inr (.getfield 581), 33), (33, .inr (.if_icmp .ge 131), 36), (36, .inr (.iload 6), 38), (38, .inr (.istore 10), 40), (40, .inl (.int 0), 41), (41, .inr (.istore 11), 43), (43, .inr (.iload 11), 45), (45, .inr (.aload 0), 46), (46, .inr (.getfield 580), 49), (49, .inr (.if_icmp .ge 104), 52), (52, .inr (.aload 1), 53), (53, .inr (.iload 8), 55), (55, .inr .dup2, 56), (56, .inr .iaload, 57), (57, .inr (.iload 5), 59), (59, .inr (.aload 2), 60), (60, .inr (.iload 7), 62), (62, .inr (.aload 0), 63), (63, .inr (.getfield 580), 66), (66, .inr .imul, 67), (67, .inr (.iload 10), 69), (69, .inr .iadd, 70), (70, .inr .iaload, 71), (71, .inr .imul, 72), (72, .inr .iadd, 73), (73, .inr .iastore, 74), (74, .inr (.iinc 8 1), 77), (77, .inr (.iload 10), 79), (79, .inl (.int 1), 80), (80, .inr .iadd, 81), (81, .inr (.aload 0), 82), (82, .inr (.getfield 580), 85), (85, .inr (.if_icmp .ne 92), 88), (88, .inl (.int 0), 89), (89, .inr (.goto 96), 92), (92, .inr (.iload 10), 94), (94, .inl (.int 1), 95), (95, .inr .iadd, 96), (96, .inr (.istore 10), 98), (98, .inr (.iinc 11 1), 101), (101, .inr (.goto 43), 104), (104, .inr (.iload 7), 106), (106, .inl (.int 1), 107), (107, .inr .iadd, 108), (108, .inr (.aload 0), 109), (109, .inr (.getfield 581), 112), (112, .inr (.if_icmp .ne 119), 115), (115, .inl (.int 0), 116), (116, .inr (.goto 123), 119), (119, .inr (.iload 7), 121), (121, .inl (.int 1), 122), (122, .inr .iadd, 123), (123, .inr (.istore 7), 125), (125, .inr (.iinc 9 1), 128), (128, .inr (.goto 27), 131), (131, .inr .return_, 132)]
/-- java/lang/Math.floorMod(II)I -/
def c_66 : List (Nat × pm_I × Nat) := [(0, .inr (.iload 0), 1), (1, .inr (.iload 1), 2), (2, .inr .irem, 3), (3, .inr (.istore 2), 4), (4, .inr (.iload 0), 5), (5, .inr (.iload 1), 6), (6, .inr .ixor, 7), (7, .inr (.ifCond .ge 18), 10), (10, .inr (.iload 2), 11), (11, .inr (.ifCond .eq 18), 14), (14, .inr (.iload 2), 15), (15, .inr (.iload 1), 16), (16, .inr .iadd, 17), (17, .inr .ireturn, 18), (18, .inr (.iload 2), 19), (19, .inr .ireturn, 20)]
/-- MaskBench$Plate.makeNegative(LMaskBench$Plate;)V -/
def c_67 : List (Nat × pm_I × Nat) := [(0, .inr (.aload 0), 1), (1, .inr (.aload 1), 2), (2, .inr (.getfield 580), 5), (5, .inr (.aload 1), 6), (6, .inr (.getfield 581), 9), (9, .inr (.invokevirtual 49), 12), (12, .inl (.int 0), 13), (13, .inr (.istore 2), 14), (14, .inr (.iload 2), 15), (15, .inr (.aload 0), 16), (16, .inr (.getfield 582), 19), (19, .inr (.if_icmp .ge 55), 22), (22, .inr (.aload 0), 23), (23, .inr (.getfield 576), 26), (26, .inr (.iload 2), 27), (27, .inl (.int 1), 28), (28, .inr (.aload 1), 29), (29, .inr (.getfield 576), 32), (32, .inr (.iload 2), 33), (33, .inr .iaload, 34), (34, .inr .isub, 35), (35, .inr .iastore, 36), (36, .inr (.aload 0), 37), (37, .inr (.getfield 577), 40), (40, .inr (.iload 2), 41), (41, .inr (.aload 1), 42), (42, .inr (.getfield 577), 45), (45, .inr (.iload 2), 46), (46, .inr .iaload, 47), (47, .inr .ineg, 48), (48, .inr .iastore, 49), (49, .inr (.iinc 2 1), 52), (52, .inr (.goto 14), 55), (55, .inr .return_, 56)]
/-- MaskBench$Plate.makeBoth(LMaskBench$Plate;LMaskBench$Plate;)V -/
def c_68 : List (Nat × pm_I × Nat) := [(0, .inr (.aload 0), 1), (1, .inr (.aload 1), 2), (2, .inr (.getfield 580), 5), (5, .inr (.aload 2), 6), (6, .inr (.getfield 580), 9), (9, .inr (.invokevirtual 49), 12), (12, .inl (.int 0), 13), (13, .inr (.istore 3), 14), (14, .inr (.iload 3), 15), (15, .inr (.aload 0), 16), (16, .inr (.getfield 582), 19), (19, .inr (.if_icmp .ge 91), 22), (22, .inr (.aload 0), 23), (23, .inr (.iload 3), 24), (24, .inr (.invokevirtual 69), 27), (27, .inr (.istore 4), 29), (29, .inr (.aload 0), 30), (30, .inr (.iload 3), 31), (31, .inr (.invokevirtual 70), 34), (34, .inr (.istore 5), 36), (36, .inr (.aload 0), 37), (37, .inr (.getfield 576), 40), (40, .inr (.iload 3), 41), (41, .inr (.aload 1), 42), (42, .inr (.getfield 576), 45), (45, .inr (.iload 4), 47), (47, .inr .iaload, 48), (48, .inr (.aload 2), 49), (49, .inr (.getfield 576), 52), (52, .inr (.iload 5), 54), (54, .inr .iaload, 55), (55, .inr (.if_icmp .ne 62), 58), (58, .inl (.int 1), 59), (59, .inr (.goto 63), 62), (62, .inl (.int 0), 63), (63, .inr .iastore, 64), (64, .inr (.aload 0), 65), (65, .inr (.getfield 577), 68), (68, .inr (.iload 3), 69), (69, .inr (.aload 1), 70), (70, .inr (.getfield 577), 73), (73, .inr (.iload 4), 75), (75, .inr .iaload, 76), (76, .inr (.aload 2), 77), (77, .inr (.getfield 577), 80), (80, .inr (.iload 5), 82), (82, .inr .iaload, 83), (83, .inr .imul, 84), (84, .inr .iastore, 85), (85, .inr (.iinc 3 1), 88), (88, .inr (.goto 14), 91), (91, .inr .return_, 92)]
/-- MaskBench$Plate.xOf(I)I -/
def c_69 : List (Nat × pm_I × Nat) := [(0, .inr (.iload 1), 1), (1, .inr (.aload 0), 2), (2, .inr (.getfield 580), 5), (5, .inr .irem, 6), (6, .inr .ireturn, 7)]
/-- MaskBench$Plate.yOf(I)I -/
def c_70 : List (Nat × pm_I × Nat) := [(0, .inr (.iload 1), 1), (1, .inr (.aload 0), 2), (2, .inr (.getfield 580), 5), (5, .inr .idiv, 6), (6, .inr .ireturn, 7)]
/-- MaskBench$Plate.countUp()V -/
def c_71 : List (Nat × pm_I × Nat) := [(0, .inr (.aload 0), 1), (1, .inr (.aload 0), 2), (2, .inr (.getfield 576), 5), (5, .inl (.int 0), 6), (6, .inr (.aload 0), 7), (7, .inr (.getfield 582), 10), (10, .inr (.invokestatic 72), 13), (13, .inr (.putfield 583), 16), (16, .inr (.aload 0), 17), (17, .inr (.aload 0), 18), (18, .inr (.getfield 577), 21), (21, .inl (.int 0), 22), (22, .inr (.aload 0), 23), (23, .inr (.getfield 582), 26), (26, .inr (.invokestatic 72), 29), (29, .inr (.putfield 584), 32), (32, .inr .return_, 33)]
/-- MaskBench.sumOf([III)I -/
def c_72 : List (Nat × pm_I × Nat) := [(0, .inl (.int 0), 1), (1, .inr (.istore 3), 2), (2, .inr (.iload 1), 3), (3, .inr (.istore 4), 5), (5, .inr (.iload 4), 7), (7, .inr (.iload 1), 8), (8, .inr (.iload 2), 9), (9, .inr .iadd, 10), (10, .inr (.if_icmp .ge 26), 13), (13, .inr (.iload 3), 14), (14, .inr (.aload 0), 15), (15, .inr (.iload 4), 17), (17, .inr .iaload, 18), (18, .inr .iadd, 19), (19, .inr (.istore 3), 20), (20, .inr (.iinc 4 1), 23), (23, .inr (.goto 5), 26), (26, .inr (.iload 3), 27), (27, .inr .ireturn, 28)]
/-- MaskBench$Loader.tellLine(ILMaskBench$Paper;LMaskBench$Paper;)V -/
def c_73 : List (Nat × pm_I × Nat) := [(0, .inr (.iload 1), 1), (1, .inr (.istore 4), 3), (3, .inr (.iload 4), 5), (5, .inr (.aload 0), 6), (6, .inr (.getfield 131), 9), (9, .inr (.if_icmp .ge 80), 12), (12, .inr (.aload 0), 13), (13, .inr (.getfield 128), 16), (16, .inr (.getfield 192), 19), (19, .inr (.iload 4), 21), (21, .inr .iaload, 22), (22, .inl (.int 5), 23), (23, .inr (.if_icmp .eq 30), 26), (26, .inr (.aload 3), 27), (27, .inr (.invokevirtual 74), 30), (30, .inr (.aload 0), 31), (31, .inr (.getfield 128), 34), (34, .inr (.getfield 193), 37), (37, .inr (.iload 4), 39), (39, .inr .iaload, 40), (40, .inr (.istore 5), 42), (42, .inr (.iload 5), 44), (44, .inr (.aload 0), 45), (45, .inr (.getfield 128), 48), (48, .inr (.getfield 194), 51), (51, .inr (.iload 4), 53), (53, .inr .iaload, 54), (54, .inr (.if_icmp .ge 74), 57), (57, .inr (.aload 3), 58), (58, .inr (.aload 2), 59), (59, .inr (.getfield 64), 62), (62, .inr (.iload 5), 64), (64, .inr .iaload, 65), (65, .inr (.invokevirtual 16), 68), (68, .inr (.iinc 5 1), 71), (71, .inr (.goto 42), 74), (74, .inr (.iinc 4 1), 77), (77, .inr (.goto 3), 80), (80, .inr .return_, 81)]
/-- MaskBench$Paper.putBlank()V -/
def c_74 : List (Nat × pm_I × Nat) := [(0, .inr (.aload 0), 1), (1, .inr (.getfield 65), 4), (4, .inr (.ifCond .le 29), 7), (7, .inr (.aload 0), 8), (8, .inr (.getfield 64), 11), (11, .inr (.aload 0), 12), (12, .inr (.getfield 65), 15), (15, .inl (.int 1), 16), (16, .inr .isub, 17), (17, .inr .iaload, 18), (18, .inl (.int 59), 20), (20, .inr (.if_icmp .eq 29), 23), (23, .inr (.aload 0), 24), (24, .inl (.int 32), 26), (26, .inr (.invokevirtual 16), 29), (29, .inr .return_, 30)]
/-- MaskBench$Loader.finishScene(ILMaskBench$Scene;)V -/
def c_75 : List (Nat × pm_I × Nat) := [(0, .inr (.iload 1), 1), (1, .inr (.tableswitch 124 8 11 #[32, 60, 83, 111]), 32), (32, .inr (.aload 2), 33), (33, .inr (.getfield 320), 36), (36, .inr (.aload 0), 37), (37, .inr (.getfield 129), 40), (40, .inl (.int 0), 41), (41, .inr .iaload, 42), (42, .inr (.aload 0), 43), (43, .inr (.getfield 129), 46), (46, .inl (.int 1), 47), (47, .inr .iaload, 48), (48, .inr (.aload 0), 49), (49, .inr (.getfield 129), 52), (52, .inl (.int 2), 53), (53, .inr .iaload, 54), (54, .inr (.invokevirtual 76), 57), (57, .inr (.goto 134), 60), (60, .inr (.aload 2), 61), (61, .inr (.getfield 321), 64), (64, .inr (.aload 0), 65), (65, .inr (.getfield 129), 68), (68, .inl (.int 0), 69), (69, .inr .iaload, 70), (70, .inr (.aload 0), 71), (71, .inr (.getfield 129), 74), (74, .inl (.int 1), 75), (75, .inr .iaload, 76), (76, .inl (.int 0), 77), (77, .inr (.invokevirtual 76), 80), (80, .inr (.goto 134), 83), (83, .inr (.aload 2), 84), (84, .inr (.getfield 322), 87), (87, .inr (.aload 0), 88), (88, .inr (.getfield 129), 91), (91, .inl (.int 0), 92), (92, .inr .iaload, 93), (93, .inr (.aload 0), 94), (94, .inr (.getfield 129), 97), (97, .inl (.int 1), 98), (98, .inr .iaload, 99), (99, .inr (.aload 0), 100), (100, .inr (.getfield 129), 103), (103, .inl (.int 2), 104), (104, .inr .iaload, 105), (105, .inr (.invokevirtual 76), 108), (108, .inr (.goto 134), 111), (111, .inr (.aload 2), 112), (112, .inr (.aload 0), 113), (113, .inr (.getfield 129), 116), (116, .inl (.int 0), 117), (117, .inr .iaload, 118), (118, .inr (.putfield 323), 121), (121, .inr (.goto 134), 124), (124, .inr (.aload 2), 125), (125, .inr (.aload 0), 126), (126, .inr (.getfield 129), 129), (129, .inl (.int 0), 130), (130, .inr .iaload, 131), (131, .inr (.putfield 324), 134), (134, .inr .return_, 135)]
/-- MaskBench$Marks.append(III)V -/
def c_76 : List (Nat × pm_I × Nat) := [(0, .inr (.aload 0), 1), (1, .inr (.invokevirtual 37), 4), (4, .inr (.ifCond .eq 8), 7), (7, .inr .return_, 8), (8, .inr (.aload 0), 9), (9, .inr (.getfield 384), 12), (12, .inr (.aload 0), 13), (13, .inr (.getfield 387), 16), (16, .inr (.iload 1), 17), (17, .inr .iastore, 18), (18, .inr (.aload 0), 19), (19, .inr (.getfield 385), 22), (22, .inr (.aload 0), 23), (23, .inr (.getfield 387), 26), (26, .inr (.iload 2), 27), (27, .inr .iastore, 28), (28, .inr (.aload 0), 29), (29, .inr (.getfield 386), 32), (32, .inr (.aload 0), 33), (33, .inr (.getfield 387), 36), (36, .inr (.iload 3), 37), (37, .inr .iastore, 38), (38, .inr (.aload 0), 39), (39, .inr .dup, 40), (40, .inr (.getfield 387), 43), (43, .inl (.int 1), 44), (44, .inr .iadd, 45), (45, .inr (.putfield 387), 48), (48, .inr .return_, 49)]
/-- MaskBench$History.clear()V -/
def c_77 : List (Nat × pm_I × Nat) := [(0, .inr (.aload 0), 1), (1, .inl (.int 0), 2), (2, .inr (.putfield 258), 5), (5, .inr .return_, 6)]
/-- MaskBench$Picture.clear()V -/
def c_78 : List (Nat × pm_I × Nat) := [(0, .inr (.aload 0), 1), (1, .inl (.int 0), 2), (2, .inr (.putfield 449), 5), (5, .inr (.aload 0), 6), (6, .inl (.int 0), 7), (7, .inr (.putfield 450), 10), (10, .inr .return_, 11)]
/-- MaskBench$Camera.forget()V -/
def c_79 : List (Nat × pm_I × Nat) := [(0, .inr (.aload 0), 1), (1, .inl (.int 0), 2), (2, .inr (.putfield 655), 5), (5, .inr .return_, 6)]
/-- MaskBench.answer(I)I -/
def c_80 : List (Nat × pm_I × Nat) := [(0, .inr (.aload 0), 1), (1, .inl (.int 0), 2), (2, .inr (.putfield 10), 5), (5, .inr (.iload 1), 6), (6, .inr .ireturn, 7)]
/-- MaskBench.fault(I)I -/
def c_81 : List (Nat × pm_I × Nat) := [(0, .inr (.iload 1), 1), (1, .inr (.ifCond .ne 9), 4), (4, .inr (.aload 0), 5), (5, .inr (.getfield 11), 8), (8, .inr .ireturn, 9), (9, .inr (.iload 1), 10), (10, .inl (.int 1), 11), (11, .inr (.if_icmp .ne 21), 14), (14, .inr (.aload 0), 15), (15, .inr (.getfield 12), 18), (18, .inr (.goto 22), 21), (21, .inl (.int (-1)), 22), (22, .inr .ireturn, 23)]
/-- MaskBench.many(I)I -/
def c_82 : List (Nat × pm_I × Nat) := [(0, .inr (.iload 1), 1), (1, .inr (.ifCond .lt 10), 4), (4, .inr (.iload 1), 5), (5, .inl (.int 6), 7), (7, .inr (.if_icmp .le 16), 10), (10, .inr (.aload 0), 11), (11, .inl (.int 1), 12), (12, .inr (.invokevirtual 18), 15), (15, .inr .ireturn, 16), (16, .inr (.iload 1), 17), (17, .inr (.tableswitch 170 0 5 #[56, 68, 86, 104, 122, 137]), 56), (56, .inr (.aload 0), 57), (57, .inr (.aload 0), 58), (58, .inr (.getfield 6), 61), (61, .inr (.getfield 515), 64), (64, .inr (.invokevirtual 80), 67), (67, .inr .ireturn, 68), (68, .inr (.aload 0), 69), (69, .inr (.aload 0), 70), (70, .inr (.getfield 6), 73), (73, .inr (.getfield 513), 76), (76, .inr (.getfield 320), 79), (79, .inr (.getfield 387), 82), (82, .inr (.invokevirtual 80), 85), (85, .inr .ireturn, 86), (86, .inr (.aload 0), 87), (87, .inr (.aload 0), 88), (88, .inr (.getfield 6), 91), (91, .inr (.getfield 513), 94), (94, .inr (.getfield 321), 97), (97, .inr (.getfield 387), 100), (100, .inr (.invokevirtual 80), 103), (103, .inr .ireturn, 104), (104, .inr (.aload 0), 105), (105, .inr (.aload 0), 106), (106, .inr (.getfield 6), 109), (109, .inr (.getfield 513), 112), (112, .inr (.getfield 322), 115), (115, .inr (.getfield 387), 118), (118, .inr (.invokevirtual 80), 121), (121, .inr .ireturn, 122), (122, .inr (.aload 0), 123), (123, .inr (.aload 0), 124), (124, .inr (.getfield 6), 127), (127, .inr (.getfield 513), 130), (130, .inr (.getfield 323), 133), (133, .inr (.invokevirtual 80), 136), (136, .inr .ireturn, 137), (137, .inr (.aload 0), 138), (138, .inr (.getfield 6), 141), (141, .inr (.getfield 515), 144), (144, .inr (.ifCond .ne 155), 147), (147, .inr (.aload 0), 148), (148, .inl (.int 5), 149), (149, .inr (.invokevirtual 18), 152), (152, .inr (.goto 169), 155), (155, .inr (.aload 0), 156), (156, .inr (.aload 0), 157), (157, .inr (.getfield 6), 160), (160, .inr (.getfield 513), 163), (163, .inr (.getfield 324), 166), (166, .inr (.invokevirtual 80), 169), (169, .inr .ireturn, 170), (170, .inr (.aload 0), 171), (171, .inr (.aload 0), 172), (172, .inr (.getfield 3), 175), (175, .inr (.getfield 258), 178), (178, .inr (.invokevirtual 80), 181), (181, .inr .ireturn, 182)]
/-- MaskBench.plate(II)I -/
def c_83 : List (Nat × pm_I × Nat) := [(0, .inr (.iload 2), 1), (1, .inr (.ifCond .lt 10), 4), (4, .inr (.iload 2), 5), (5, .inl (.int 7), 7), (7, .inr (.if_icmp .le 16), 10), (10, .inr (.aload 0), 11), (11, .inl (.int 1), 12), (12, .inr (.invokevirtual 18), 15), (15, .inr .ireturn, 16), (16, .inr (.aload 0), 17), (17, .inr (.getfield 6), 20), (20, .inr (.iload 1), 21), (21, .inr (.invokevirtual 56), 24), (24, .inr (.astore 3), 25), (25, .inr (.aload 3), 26), (26, .inr (.ifnonnull 35), 29), (29, .inr (.aload 0), 30), (30, .inl (.int 2), 31), (31, .inr (.invokevirtual 18), 34), (34, .inr .ireturn, 35), (35, .inr (.iload 2), 36), (36, .inl (.int 6), 38), (38, .inr (.if_icmp .lt 55), 41), (41, .inr (.aload 3), 42), (42, .inr (.getfield 582), 45), (45, .inl (.int 1), 46), (46, .inr (.if_icmp .ne 55), 49), (49, .inr (.aload 0), 50), (50, .inl (.int 5), 51), (51, .inr (.invokevirtual 18), 54), (54, .inr .ireturn, 55), (55, .inr (.aload 0), 56), (56, .inr (.aload 3), 57), (57, .inr (.iload 2), 58), (58, .inr (.invokevirtual 84), 61), (61, .inr (.invokevirtual 80), 64), (64, .inr .ireturn, 65)]
/-- MaskBench$Plate.figure(I)I -/
def c_84 : List (Nat × pm_I × Nat) := [(0, .inr (.iload 1), 1), (1, .inl (.int 4), 2), (2, .inr (.if_icmp .lt 9), 5), (5, .inr (.aload 0), 6), (6, .inr (.invokevirtual 85), 9), (9, .inr (.iload 1), 10), (10, .inr (.tableswitch 101 0 6 #[52, 57, 62, 67, 72, 79, 96]), 52), (52, .inr (.aload 0), 53), (53, .inr (.getfield 580), 56), (56, .inr .ireturn, 57), (57, .inr (.aload 0), 58), (58, .inr (.getfield 581), 61), (61, .inr .ireturn, 62), (62, .inr (.aload 0), 63), (63, .inr (.getfield 583), 66), (66, .inr .ireturn, 67), (67, .inr (.aload 0), 68), (68, .inr (.getfield 584), 71), (71, .inr .ireturn, 72), (72, .inr (.aload 0), 73), (73, .inr (.getfield 578), 76), (76, .inl (.int 0), 77), (77, .inr .iaload, 78), (78, .inr .ireturn, 79), (79, .inr (.aload 0), 80), (80, .inr (.getfield 586), 83), (83, .inr (.aload 0), 84), (84, .inr (.getfield 587), 87), (87, .inr (.if_icmp .ne 94), 90), (90, .inl (.int 1), 91), (91, .inr (.goto 95), 94), (94, .inl (.int 0), 95), (95, .inr .ireturn, 96), (96, .inr (.aload 0), 97), (97, .inr (.getfield 586), 100), (100, .inr .ireturn, 101), (101, .inr (.aload 0), 102), (102, .inr (.getfield 587), 105), (105, .inr .ireturn, 106)]
/-- MaskBench$Plate.knowSides()V -/
def c_85 : List (Nat × pm_I × Nat) := [(0, .inr (.aload 0), 1), (1, .inr (.getfield 585), 4), (4, .inr (.ifCond .eq 8), 7), (7, .inr .return_, 8), (8, .inr (.aload 0), 9), (9, .inr (.aload 0), 10), (10, .inr (.getfield 578), 13), (13, .inr (.aload 0), 14), (14, .inr (.getfield 577), 17), (17, .inr (.invokevirtual 86), 20), (20, .inr (.aload 0), 21), (21, .inr (.aload 0), 22), (22, .inr (.aload 0), 23), (23, .inr (.getfield 578), 26), (26, .inr (.invokevirtual 87), 29), (29, .inr (.putfield 586), 32), (32, .inr (.aload 0), 33), (33, .inr (.aload 0), 34), (34, .inr (.aload 0), 35), (35, .inr (.getfield 578), 38), (38, .inr (.invokevirtual 88), 41), (41, .inr (.putfield 587), 44), (44, .inr (.aload 0), 45), (45, .inl (.int 1), 46), (46, .inr (.putfield 585), 49), (49, .inr .return_, 50)]
/-- MaskBench$Plate.addOverHoles([I[I)V -/
def c_86 : List (Nat × pm_I × Nat) := [(0, .inr (.aload 1), 1), (1, .inl (.int 0), 2), (2, .inr (.aload 0), 3), (3, .inr (.getfield 582), 6), (6, .inl (.int 0), 7), (7, .inr (.invokestatic 50), 10), (10, .inl (.int 0), 11), (11, .inr (.istore 3), 12), (12, .inr (.iload 3), 13), (13, .inr (.aload 0), 14), (14, .inr (.getfield 582), 17), (17, .inr (.if_icmp .ge 53), 20), (20, .inr (.aload 0), 21), (21, .inr (.getfield 576), 24), (24, .inr (.iload 3), 25), (25, .inr .iaload, 26), (26, .inl (.int 1), 27), (27, .inr (.if_icmp .ne 47), 30), (30, .inr (.aload 0), 31), (31, .inr (.aload 1), 32), (32, .inr (.aload 2), 33), (33, .inr (.aload 0), 34), (34, .inr (.iload 3), 35), (35, .inr (.invokevirtual 69), 38), (38, .inr (.aload 0), 39), (39, .inr (.iload 3), 40), (40, .inr (.invokevirtual 70), 43), (43, .inl (.int 1), 44), (44, .inr (.invokevirtual 65), 47), (47, .inr (.iinc 3 1), 50), (50, .inr (.goto 12), 53), (53, .inr .return_, 54)]
/-- MaskBench$Plate.leastBehindFirst([I)I -/
def c_87 : List (Nat × pm_I × Nat) := [(0, .inr (.aload 0), 1), (1, .inr (.getfield 582), 4), (4, .inl (.int 1), 5), (5, .inr (.if_icmp .le 14), 8), (8, .inr (.aload 1), 9), (9, .inl (.int 1), 10), (10, .inr .iaload, 11), (11, .inr (.goto 15), 14), (14, .inl (.int 0), 15), (15, .inr (.istore 2), 16), (16, .inl (.int 2), 17), (17, .inr (.istore 3), 18), (18, .inr (.iload 3), 19), (19, .inr (.aload 0), 20), (20, .inr (.getfield 582), 23), (23, .inr (.if_icmp .ge 40), 26), (26, .inr (.iload 2), 27), (27, .inr (.aload 1), 28), (28, .inr (.iload 3), 29), (29, .inr .iaload, 30), (30, .inr (.invokestatic 24), 33), (33, .inr (.istore 2), 34), (34, .inr (.iinc 3 1), 37), (37, .inr (.goto 18), 40), (40, .inr (.iload 2), 41), (41, .inr .ireturn, 42)]
/-- MaskBench$Plate.greatestBehindFirst([I)I -/
def c_88 : List (Nat × pm_I × Nat) := [(0, .inr (.aload 0), 1), (1, .inr (.getfield 582), 4), (4, .inl (.int 1), 5), (5, .inr (.if_icmp .le 14), 8), (8, .inr (.aload 1), 9), (9, .inl (.int 1), 10), (10, .inr .iaload, 11), (11, .inr (.goto 15), 14), (14, .inl (.int 0), 15), (15, .inr (.istore 2), 16), (16, .inl (.int 2), 17), (17, .inr (.istore 3), 18), (18, .inr (.iload 3), 19), (19, .inr (.aload 0), 20), (20, .inr (.getfield 582), 23), (23, .inr (.if_icmp .ge 40), 26), (26, .inr (.iload 2), 27), (27, .inr (.aload 1), 28), (28, .inr (.iload 3), 29), (29, .inr .iaload, 30), (30, .inr (.invokestatic 3), 33), (33, .inr (.istore 2), 34), (34, .inr (.iinc 3 1), 37), (37, .inr (.goto 18), 40), (40, .inr (.iload 2), 41), (41, .inr .ireturn, 42)]
/-- MaskBench.cell(IIII)I -/
def c_89 : List (Nat × pm_I × Nat) := [(0, .inr (.iload 4), 2), (2, .inr (.ifCond .lt 11), 5), (5, .inr (.iload 4), 7), (7, .inl (.int 2), 8), (8, .inr (.if_icmp .le 17), 11), (11, .inr (.aload 0), 12), (12, .inl (.int 1), 13), (13, .inr (.invokevirtual 18), 16), (16, .inr .ireturn, 17), (17, .inr (.aload 0), 18), (18, .inr (.getfield 6), 21), (21, .inr (.iload 1), 22), (22, .inr (.invokevirtual 56), 25), (25, .inr (.astore 5), 27), (27, .inr (.aload 5), 29), (29, .inr (.ifnull 42), 32), (32, .inr (.aload 5), 34), (34, .inr (.iload 2), 35), (35, .inr (.iload 3), 36), (36, .inr (.invokevirtual 54), 39), (39, .inr (.ifCond .ne 48), 42), (42, .inr (.aload 0), 43), (43, .inl (.int 2), 44), (44, .inr (.invokevirtual 18), 47), (47, .inr .ireturn, 48), (48, .inr (.iload 3), 49), (49, .inr (.aload 5), 51), (51, .inr (.getfield 580), 54), (54, .inr .imul, 55), (55, .inr (.iload 2), 56), (56, .inr .iadd, 57), (57, .inr (.istore 6), 59), (59, .inr (.iload 4), 61), (61, .inr (.ifCond .ne 77), 64), (64, .inr (.aload 0), 65), (65, .inr (.aload 5), 67), (67, .inr (.getfield 576), 70), (70, .inr (.iload 6), 72), (72, .inr .iaload, 73), (73, .inr (.invokevirtual 80), 76), (76, .inr .ireturn, 77), (77, .inr (.iload 4), 79), (79, .inl (.int 1), 80), (80, .inr (.if_icmp .ne 96), 83), (83, .inr (.aload 0), 84), (84, .inr (.aload 5), 86), (86, .inr (.getfield 577), 89), (89, .inr (.iload 6), 91), (91, .inr .iaload, 92), (92, .inr (.invokevirtual 80), 95), (95, .inr .ireturn, 96), (96, .inr (.aload 5), 98), (98, .inr (.invokevirtual 85), 101), (101, .inr (.aload 0), 102), (102, .inr (.aload 5), 104), (104, .inr (.getfield 578), 107), (107, .inr (.iload 6), 109), (109, .inr .iaload, 110), (110, .inr (.invokevirtual 80), 113), (113, .inr .ireturn, 114)]
/-- MaskBench.differences(II)I -/
def c_90 : List (Nat × pm_I × Nat) := [(0, .inr (.iload 2), 1), (1, .inr (.ifCond .lt 9), 4), (4, .inr (.iload 2), 5), (5, .inl (.int 2), 6), (6, .inr (.if_icmp .le 15), 9), (9, .inr (.aload 0), 10), (10, .inl (.int 1), 11), (11, .inr (.invokevirtual 18), 14), (14, .inr .ireturn, 15), (15, .inr (.aload 0), 16), (16, .inr (.getfield 6), 19), (19, .inr (.iload 1), 20), (20, .inr (.invokevirtual 56), 23), (23, .inr (.astore 3), 24), (24, .inr (.aload 3), 25), (25, .inr (.ifnonnull 34), 28), (28, .inr (.aload 0), 29), (29, .inl (.int 2), 30), (30, .inr (.invokevirtual 18), 33), (33, .inr .ireturn, 34), (34, .inr (.aload 3), 35), (35, .inr (.getfield 582), 38), (38, .inl (.int 1), 39), (39, .inr (.if_icmp .ne 48), 42), (42, .inr (.aload 0), 43), (43, .inl (.int 5), 44), (44, .inr (.invokevirtual 18), 47), (47, .inr .ireturn, 48), (48, .inr (.aload 3), 49), (49, .inr (.aload 0), 50), (50, .inr (.getfield 5), 53), (53, .inr (.aload 3), 54), (54, .inr (.getfield 576), 57), (57, .inr (.invokevirtual 86), 60), (60, .inr (.iload 2), 61), (61, .inr (.ifCond .ne 77), 64), (64, .inr (.aload 0), 65), (65, .inr (.aload 3), 66), (66, .inr (.aload 0), 67), (67, .inr (.getfield 5), 70), (70, .inr (.invokevirtual 87), 73), (73, .inr (.invokevirtual 80), 76), (76, .inr .ireturn, 77), (77, .inr (.aload 3), 78), (78, .inr (.aload 0), 79), (79, .inr (.getfield 5), 82), (82, .inr (.invokevirtual 88), 85), (85, .inr (.istore 4), 87), (87, .inr (.aload 0), 88), (88, .inr (.iload 2), 89), (89, .inl (.int 1), 90), (90, .inr (.if_icmp .ne 98), 93), (93, .inr (.iload 4), 95), (95, .inr (.goto 108), 98), (98, .inr (.aload 3), 99), (99, .inr (.aload 0), 100), (100, .inr (.getfield 5), 103), (103, .inr (.iload 4), 105), (105, .inr (.invokevirtual 91), 108), (108, .inr (.invokevirtual 80), 111), (111, .inr .ireturn, 112)]
/-- MaskBench$Plate.timesBehindFirst([II)I -/
def c_91 : List (Nat × pm_I × Nat) := [(0, .inl (.int 0), 1), (1, .inr (.istore 3), 2), (2, .inl (.int 1), 3), (3, .inr (.istore 4), 5), (5, .inr (.iload 4), 7), (7, .inr (.aload 0), 8), (8, .inr (.getfield 582), 11), (11, .inr (.if_icmp .ge 36), 14), (14, .inr (.iload 3), 15), (15, .inr (.aload 1), 16), (16, .inr (.iload 4), 18), (18, .inr .iaload, 19), (19, .inr (.iload 2), 20), (20, .inr (.if_icmp .ne 27), 23), (23, .inl (.int 1), 24), (24, .inr (.goto 28), 27), (27, .inl (.int 0), 28), (28, .inr .iadd, 29), (29, .inr (.istore 3), 30), (30, .inr (.iinc 4 1), 33), (33, .inr (.goto 5), 36), (36, .inr (.iload 3), 37), (37, .inr .ireturn, 38)]
/-- MaskBench.window(IIIII)I -/
def c_92 : List (Nat × pm_I × Nat) := [(0, .inr (.iload 4), 2), (2, .inl (.int 1), 3), (3, .inr (.if_icmp .lt 26), 6), (6, .inr (.iload 4), 8), (8, .inl (.int 99), 10), (10, .inr (.if_icmp .gt 26), 13), (13, .inr (.iload 5), 15), (15, .inl (.int 1), 16), (16, .inr (.if_icmp .lt 26), 19), (19, .inr (.iload 5), 21), (21, .inl (.int 99), 23), (23, .inr (.if_icmp .le 32), 26), (26, .inr (.aload 0), 27), (27, .inl (.int 1), 28), (28, .inr (.invokevirtual 18), 31), (31, .inr .ireturn, 32), (32, .inr (.aload 0), 33), (33, .inr (.getfield 6), 36), (36, .inr (.iload 1), 37), (37, .inr (.invokevirtual 56), 40), (40, .inr (.astore 6), 42), (42, .inr (.aload 6), 44), (44, .inr (.ifnull 57), 47), (47, .inr (.aload 6), 49), (49, .inr (.iload 2), 50), (50, .inr (.iload 3), 51), (51, .inr (.invokevirtual 54), 54), (54, .inr (.ifCond .ne 63), 57), (57, .inr (.aload 0), 58), (58, .inl (.int 2), 59), (59, .inr (.invokevirtual 18), 62), (62, .inr .ireturn, 63), (63, .inl (.int 0), 64), (64, .inr (.istore 7), 66), (66, .inr (.iload 3), 67), (67, .inr (.istore 8), 69), (69, .inr (.iload 8), 71), (71, .inr (.iload 3), 72), (72, .inr (.iload 5), 74), (74, .inr .iadd, 75), (75, .inr (.if_icmp .ge 122), 78), (78, .inr (.iload 2), 79), (79, .inr (.istore 9), 81), (81, .inr (.iload 9), 83), (83, .inr (.iload 2), 84), (84, .inr (.iload 4), 86), (86, .inr .iadd, 87), (87, .inr (.if_icmp .ge 116), 90), (90, .inr (.iload 7), 92), (92, .inr (.aload 6), 94), (94, .inr (.getfield 576), 97), (97, .inr (.aload 6), 99), (99, .inr (.iload 9), 101), (101, .inr (.iload 8), 103), (103, .inr (.invokevirtual 93), 106), (106, .inr .iaload, 107), (107, .inr .iadd, 108), (108, .inr (.istore 7), 110), (110, .inr (.iinc 9 1), 113), (113, .inr (.goto 81), 116), (116, .inr (.iinc 8 1), 119), (119, .inr (.goto 69), 122), (122, .inr (.aload 0), 123), (123, .inr (.iload 7), 125), (125, .inr (.invokevirtual 80), 128), (128, .inr .ireturn, 129)]
/-- MaskBench$Plate.indexOf(II)I -/
def c_93 : List (Nat × pm_I × Nat) := [(0, .inr (.iload 2), 1), (1, .inr (.aload 0), 2), (2, .inr (.getfield 581), 5), (5, .inr (.invokestatic 66), 8), (8, .inr (.aload 0), 9), (9, .inr (.getfield 580), 12), (12, .inr .imul, 13), (13, .inr (.iload 1), 14), (14, .inr (.aload 0), 15), (15, .inr (.getfield 580), 18), (18, .inr (.invokestatic 66), 21), (21, .inr .iadd, 22), (22, .inr .ireturn, 23)]
/-- MaskBench.alike(II)I -/
def c_94 : List (Nat × pm_I × Nat) := [(0, .inr (.aload 0), 1), (1, .inr (.getfield 6), 4), (4, .inr (.iload 1), 5), (5, .inr (.invokevirtual 56), 8), (8, .inr (.astore 3), 9), (9, .inr (.aload 0), 10), (10, .inr (.getfield 6), 13), (13, .inr (.iload 2), 14), (14, .inr (.invokevirtual 56), 17), (17, .inr (.astore 4), 19), (19, .inr (.aload 3), 20), (20, .inr (.ifnull 28), 23), (23, .inr (.aload 4), 25), (25, .inr (.ifnonnull 34), 28), (28, .inr (.aload 0), 29), (29, .inl (.int 2), 30), (30, .inr (.invokevirtual 18), 33), (33, .inr .ireturn, 34), (34, .inr (.aload 0), 35), (35, .inr (.aload 3), 36), (36, .inr (.aload 4), 38), (38, .inr (.invokevirtual 95), 41), (41, .inr (.ifCond .eq 48), 44), (44, .inl (.int 1), 45), (45, .inr (.goto 49), 48), (48, .inl (.int 0), 49), (49, .inr (.invokevirtual 80), 52), (52, .inr .ireturn, 53)]
/-- MaskBench$Plate.isTurned(LMaskBench$Plate;)Z -/
def c_95 : List (Nat × pm_I × Nat) := [(0, .inr (.aload 0), 1), (1, .inr (.getfield 580), 4), (4, .inr (.aload 1), 5), (5, .inr (.getfield 580), 8), (8, .inr (.if_icmp .ne 33), 11), (11, .inr (.aload 0), 12), (12, .inr (.getfield 581), 15), (15, .inr (.aload 1), 16), (16, .inr (.getfield 581), 19), (19, .inr (.if_icmp .ne 33), 22), (22, .inr (.aload 0), 23), (23, .inr (.getfield 583), 26), (26, .inr (.aload 1), 27), (27, .inr (.getfield 583), 30), (30, .inr (.if_icmp .eq 35), 33), (33, .inl (.int 0), 34), (34, .inr .ireturn, 35), (35, .inl (.int 0), 36), (36, .inr (.istore 2), 37), (37, .inr (.iload 2), 38), (38, .inr (.aload 0), 39), (39, .inr (.getfield 582), 42), (42, .inr (.if_icmp .ge 71), 45), (45, .inr (.aload 0), 46), (46, .inr (.aload 1), 47), (47, .inr (.aload 0), 48), (48, .inr (.iload 2), 49), (49, .inr (.invokevirtual 69), 52), (52, .inr (.aload 0), 53), (53, .inr (.iload 2), 54), (54, .inr (.invokevirtual 70), 57), (57, .inr (.invokevirtual 96), 60), (60, .inr (.ifCond .eq 65), 63), (63, .inl (.int 1), 64), (64, .inr .ireturn, 65), (65, .inr (.iinc 2 1), 68), (68, .inr (.goto 37), 71), (71, .inl (.int 0), 72), (72, .inr .ireturn, 73)]
/-- MaskBench$Plate.hasHolesOf(LMaskBench$Plate;II)Z -/
def c_96 : List (Nat × pm_I × Nat) := [(0, .inl (.int 0), 1), (1, .inr (.istore 4), 3), (3, .inr (.iload 4), 5), (5, .inr (.aload 0), 6), (6, .inr (.getfield 582), 9), (9, .inr (.if_icmp .ge 55), 12), (12, .inr (.aload 0), 13), (13, .inr (.getfield 576), 16), (16, .inr (.iload 4), 18), (18, .inr .iaload, 19), (19, .inr (.aload 1), 20), (20, .inr (.getfield 576), 23), (23, .inr (.aload 1), 24), (24, .inr (.aload 0), 25), (25, .inr (.iload 4), 27), (27, .inr (.invokevirtual 69), 30), (30, .inr (.iload 2), 31), (31, .inr .iadd, 32), (32, .inr (.aload 0), 33), (33, .inr (.iload 4), 35), (35, .inr (.invokevirtual 70), 38), (38, .inr (.iload 3), 39), (39, .inr .iadd, 40), (40, .inr (.invokevirtual 93), 43), (43, .inr .iaload, 44), (44, .inr (.if_icmp .eq 49), 47), (47, .inl (.int 0), 48), (48, .inr .ireturn, 49), (49, .inr (.iinc 4 1), 52), (52, .inr (.goto 3), 55), (55, .inl (.int 1), 56), (56, .inr .ireturn, 57)]
/-- MaskBench.root(II)I -/
def c_97 : List (Nat × pm_I × Nat) := [(0, .inr (.iload 1), 1), (1, .inr (.invokestatic 45), 4), (4, .inr (.ifCond .eq 17), 7), (7, .inr (.iload 2), 8), (8, .inl (.int 1), 9), (9, .inr (.if_icmp .lt 17), 12), (12, .inr (.iload 2), 13), (13, .inr (.iload 1), 14), (14, .inr (.if_icmp .lt 23), 17), (17, .inr (.aload 0), 18), (18, .inl (.int 1), 19), (19, .inr (.invokevirtual 18), 22), (22, .inr .ireturn, 23), (23, .inr (.iload 1), 24), (24, .inr (.iload 2), 25), (25, .inr (.invokestatic 61), 28), (28, .inr (.istore 3), 29), (29, .inr (.iload 3), 30), (30, .inl (.int (-1)), 31), (31, .inr (.if_icmp .ne 42), 34), (34, .inr (.aload 0), 35), (35, .inl (.int 5), 36), (36, .inr (.invokevirtual 18), 39), (39, .inr (.goto 47), 42), (42, .inr (.aload 0), 43), (43, .inr (.iload 3), 44), (44, .inr (.invokevirtual 80), 47), (47, .inr .ireturn, 48)]
/-- MaskBench.thing(III)I -/
def c_98 : List (Nat × pm_I × Nat) := [(0, .inr (.aload 0), 1), (1, .inr (.getfield 6), 4), (4, .inr (.getfield 513), 7), (7, .inr (.iload 1), 8), (8, .inr (.invokevirtual 99), 11), (11, .inr (.astore 4), 13), (13, .inr (.aload 4), 15), (15, .inr (.ifnull 37), 18), (18, .inr (.iload 3), 19), (19, .inr (.ifCond .lt 37), 22), (22, .inr (.iload 3), 23), (23, .inl (.int 2), 24), (24, .inr (.if_icmp .gt 37), 27), (27, .inr (.iload 1), 28), (28, .inl (.int 1), 29), (29, .inr (.if_icmp .ne 43), 32), (32, .inr (.iload 3), 33), (33, .inl (.int 2), 34), (34, .inr (.if_icmp .ne 43), 37), (37, .inr (.aload 0), 38), (38, .inl (.int 1), 39), (39, .inr (.invokevirtual 18), 42), (42, .inr .ireturn, 43), (43, .inr (.aload 4), 45), (45, .inr (.iload 2), 46), (46, .inr (.invokevirtual 100), 49), (49, .inr (.ifCond .ne 58), 52), (52, .inr (.aload 0), 53), (53, .inl (.int 2), 54), (54, .inr (.invokevirtual 18), 57), (57, .inr .ireturn, 58), (58, .inr (.iload 3), 59), (59, .inr (.ifCond .ne 74), 62), (62, .inr (.aload 0), 63), (63, .inr (.aload 4), 65), (65, .inr (.getfield 384), 68), (68, .inr (.iload 2), 69), (69, .inr .iaload, 70), (70, .inr (.invokevirtual 80), 73), (73, .inr .ireturn, 74), (74, .inr (.aload 0), 75), (75, .inr (.iload 3), 76), (76, .inl (.int 1), 77), (77, .inr (.if_icmp .ne 90), 80), (80, .inr (.aload 4), 82), (82, .inr (.getfield 385), 85), (85, .inr (.iload 2), 86), (86, .inr .iaload, 87), (87, .inr (.goto 97), 90), (90, .inr (.aload 4), 92), (92, .inr (.getfield 386), 95), (95, .inr (.iload 2), 96), (96, .inr .iaload, 97), (97, .inr (.invokevirtual 80), 100), (100, .inr .ireturn, 101)]
/-- MaskBench$Scene.marksOf(I)LMaskBench$Marks; -/
def c_99 : List (Nat × pm_I × Nat) := [(0, .inr (.iload 1), 1), (1, .inr (.ifCond .lt 9), 4), (4, .inr (.iload 1), 5), (5, .inl (.int 3), 6), (6, .inr (.if_icmp .lt 11), 9), (9, .inl .null, 10), (10, .inr .areturn, 11), (11, .inr (.iload 1), 12), (12, .inr (.ifCond .ne 20), 15), (15, .inr (.aload 0), 16), (16, .inr (.getfield 320), 19), (19, .inr .areturn, 20), (20, .inr (.iload 1), 21), (21, .inl (.int 1), 22), (22, .inr (.if_icmp .ne 32), 25), (25, .inr (.aload 0), 26), (26, .inr (.getfield 321), 29), (29, .inr (.goto 36), 32), (32, .inr (.aload 0), 33), (33, .inr (.getfield 322), 36), (36, .inr .areturn, 37)]
/-- MaskBench$Marks.has(I)Z -/
def c_100 : List (Nat × pm_I × Nat) := [(0, .inr (.iload 1), 1), (1, .inr (.ifCond .lt 16), 4), (4, .inr (.iload 1), 5), (5, .inr (.aload 0), 6), (6, .inr (.getfield 387), 9), (9, .inr (.if_icmp .ge 16), 12), (12, .inl (.int 1), 13), (13, .inr (.goto 17), 16), (16, .inl (.int 0), 17), (17, .inr .ireturn, 18)]
/-- MaskBench.add(IIII)I -/
def c_101 : List (Nat × pm_I × Nat) := [(0, .inr (.iload 1), 1), (1, .inr (.invokestatic 102), 4), (4, .inr (.ifCond .eq 29), 7), (7, .inr (.iload 2), 8), (8, .inr (.iload 3), 9), (9, .inr (.invokestatic 103), 12), (12, .inr (.ifCond .eq 29), 15), (15, .inr (.iload 4), 17), (17, .inl (.int 1), 18), (18, .inr (.if_icmp .lt 29), 21), (21, .inr (.iload 4), 23), (23, .inl (.int 999), 26), (26, .inr (.if_icmp .le 35), 29), (29, .inr (.aload 0), 30), (30, .inl (.int 1), 31), (31, .inr (.invokevirtual 18), 34), (34, .inr .ireturn, 35), (35, .inr (.aload 0), 36), (36, .inr (.getfield 6), 39), (39, .inr (.getfield 513), 42), (42, .inr (.iload 1), 43), (43, .inr (.invokevirtual 99), 46), (46, .inr (.astore 5), 48), (48, .inr (.aload 5), 50), (50, .inr (.ifnull 61), 53), (53, .inr (.aload 5), 55), (55, .inr (.invokevirtual 37), 58), (58, .inr (.ifCond .eq 67), 61), (61, .inr (.aload 0), 62), (62, .inl (.int 3), 63), (63, .inr (.invokevirtual 18), 66), (66, .inr .ireturn, 67), (67, .inr (.aload 0), 68), (68, .inr (.invokevirtual 104), 71), (71, .inr (.aload 5), 73), (73, .inr (.iload 2), 74), (74, .inr (.iload 3), 75), (75, .inr (.iload 4), 77), (77, .inr (.invokevirtual 76), 80), (80, .inr (.aload 0), 81), (81, .inr (.aload 5), 83), (83, .inr (.getfield 387), 86), (86, .inl (.int 1), 87), (87, .inr .isub, 88), (88, .inr (.invokevirtual 80), 91), (91, .inr .ireturn, 92)]
/-- MaskBench.isCounting(I)Z -/
def c_102 : List (Nat × pm_I × Nat) := [(0, .inr (.iload 0), 1), (1, .inr (.ifCond .eq 9), 4), (4, .inr (.iload 0), 5), (5, .inl (.int 2), 6), (6, .inr (.if_icmp .ne 13), 9), (9, .inl (.int 1), 10), (10, .inr (.goto 14), 13), (13, .inl (.int 0), 14), (14, .inr .ireturn, 15)]
/-- MaskBench.isPlace(II)Z -/
def c_103 : List (Nat × pm_I × Nat) := [(0, .inr (.iload 0), 1), (1, .inr (.ifCond .lt 24), 4), (4, .inr (.iload 0), 5), (5, .inl (.int 99), 7), (7, .inr (.if_icmp .gt 24), 10), (10, .inr (.iload 1), 11), (11, .inr (.ifCond .lt 24), 14), (14, .inr (.iload 1), 15), (15, .inl (.int 99), 17), (17, .inr (.if_icmp .gt 24), 20), (20, .inl (.int 1), 21), (21, .inr (.goto 25), 24), (24, .inl (.int 0), 25), (25, .inr .ireturn, 26)]
/-- MaskBench.beginAct()V -/
def c_104 : List (Nat × pm_I × Nat) := [(0, .inr (.aload 0), 1), (1, .inr (.getfield 3), 4), (4, .inr (.aload 0), 5), (5, .inr (.getfield 6), 8), (8, .inr (.getfield 513), 11), (11, .inr (.invokevirtual 105), 14), (14, .inr (.aload 0), 15), (15, .inr (.getfield 8), 18), (18, .inr (.invokevirtual 79), 21), (21, .inr .return_, 22)]
/-- MaskBench$History.save(LMaskBench$Scene;)V -/
def c_105 : List (Nat × pm_I × Nat) := [(0, .inr (.aload 0), 1), (1, .inr (.getfield 258), 4), (4, .inl (.int 12), 6), (6, .inr (.if_icmp .ne 32), 9), (9, .inr (.aload 0), 10), (10, .inr (.aload 0), 11), (11, .inr (.getfield 257), 14), (14, .inl (.int 1), 15), (15, .inr .iadd, 16), (16, .inl (.int 12), 18), (18, .inr .irem, 19), (19, .inr (.putfield 257), 22), (22, .inr (.aload 0), 23), (23, .inr .dup, 24), (24, .inr (.getfield 258), 27), (27, .inl (.int 1), 28), (28, .inr .isub, 29), (29, .inr (.putfield 258), 32), (32, .inr (.aload 0), 33), (33, .inr (.getfield 256), 36), (36, .inr (.aload 0), 37), (37, .inr (.getfield 257), 40), (40, .inr (.aload 0), 41), (41, .inr (.getfield 258), 44), (44, .inr .iadd, 45), (45, .inl (.int 12), 47), (47, .inr .irem, 48), (48, .inr .aaload, 49), (49, .inr (.aload 1), 50), (50, .inr (.invokevirtual 106), 53), (53, .inr (.aload 0), 54), (54, .inr .dup, 55), (55, .inr (.getfield 258), 58), (58, .inl (.int 1), 59), (59, .inr .iadd, 60), (60, .inr (.putfield 258), 63), (63, .inr .return_, 64)]
/-- MaskBench$Scene.copyFrom(LMaskBench$Scene;)V -/
def c_106 : List (Nat × pm_I × Nat) := [(0, .inr (.aload 0), 1), (1, .inr (.getfield 320), 4), (4, .inr (.aload 1), 5), (5, .inr (.getfield 320), 8), (8, .inr (.invokevirtual 107), 11), (11, .inr (.aload 0), 12), (12, .inr (.getfield 321), 15), (15, .inr (.aload 1), 16), (16, .inr (.getfield 321), 19), (19, .inr (.invokevirtual 107), 22), (22, .inr (.aload 0), 23), (23, .inr (.getfield 322), 26), (26, .inr (.aload 1), 27), (27, .inr (.getfield 322), 30), (30, .inr (.invokevirtual 107), 33), (33, .inr (.aload 0), 34), (34, .inr (.aload 1), 35), (35, .inr (.getfield 323), 38), (38, .inr (.putfield 323), 41), (41, .inr (.aload 0), 42), (42, .inr (.aload 1), 43), (43, .inr (.getfield 324), 46), (46, .inr (.putfield 324), 49), (49, .inr .return_, 50)]
/-- MaskBench$Marks.copyFrom(LMaskBench$Marks;)V -/
def c_107 : List (Nat × pm_I × Nat) := [(0, .inr (.aload 0), 1), (1, .inr (.aload 1), 2), (2, .inr (.getfield 387), 5), (5, .inr (.aload 0), 6), (6, .inr (.getfield 384), 9), (9, .inr .arraylength, 10), (10, .inr (.invokestatic 24), 13), (13, .inr (.putfield 387), 16), (16, .inl (.int 0), 17), (17, .inr (.istore 2), 18), (18, .inr (.iload 2), 19), (19, .inr (.aload 0), 20), (20, .inr (.getfield 387), 23), (23, .inr (.if_icmp .ge 68), 26), (26, .inr (.aload 0), 27), (27, .inr (.getfield 384), 30), (30, .inr (.iload 2), 31), (31, .inr (.aload 1), 32), (32, .inr (.getfield 384), 35), (35, .inr (.iload 2), 36), (36, .inr .iaload, 37), (37, .inr .iastore, 38), (38, .inr (.aload 0), 39), (39, .inr (.getfield 385), 42), (42, .inr (.iload 2), 43), (43, .inr (.aload 1), 44), (44, .inr (.getfield 385), 47), (47, .inr (.iload 2), 48), (48, .inr .iaload, 49), (49, .inr .iastore, 50), (50, .inr (.aload 0), 51), (51, .inr (.getfield 386), 54), (54, .inr (.iload 2), 55), (55, .inr (.aload 1), 56), (56, .inr (.getfield 386), 59), (59, .inr (.iload 2), 60), (60, .inr .iaload, 61), (61, .inr .iastore, 62), (62, .inr (.iinc 2 1), 65), (65, .inr (.goto 18), 68), (68, .inr .return_, 69)]
/-- MaskBench.drop(II)I -/
def c_108 : List (Nat × pm_I × Nat) := [(0, .inr (.iload 1), 1), (1, .inr (.invokestatic 102), 4), (4, .inr (.ifCond .ne 13), 7), (7, .inr (.aload 0), 8), (8, .inl (.int 1), 9), (9, .inr (.invokevirtual 18), 12), (12, .inr .ireturn, 13), (13, .inr (.aload 0), 14), (14, .inr (.aload 0), 15), (15, .inr (.getfield 6), 18), (18, .inr (.getfield 513), 21), (21, .inr (.iload 1), 22), (22, .inr (.invokevirtual 99), 25), (25, .inr (.iload 2), 26), (26, .inr (.invokevirtual 109), 29), (29, .inr .ireturn, 30)]
/-- MaskBench.takeOut(LMaskBench$Marks;I)I -/
def c_109 : List (Nat × pm_I × Nat) := [(0, .inr (.aload 1), 1), (1, .inr (.ifnull 12), 4), (4, .inr (.aload 1), 5), (5, .inr (.iload 2), 6), (6, .inr (.invokevirtual 100), 9), (9, .inr (.ifCond .ne 18), 12), (12, .inr (.aload 0), 13), (13, .inl (.int 2), 14), (14, .inr (.invokevirtual 18), 17), (17, .inr .ireturn, 18), (18, .inr (.aload 0), 19), (19, .inr (.invokevirtual 104), 22), (22, .inr (.aload 1), 23), (23, .inr (.iload 2), 24), (24, .inr (.invokevirtual 110), 27), (27, .inr (.aload 0), 28), (28, .inr (.aload 1), 29), (29, .inr (.getfield 387), 32), (32, .inr (.invokevirtual 80), 35), (35, .inr .ireturn, 36)]
/-- MaskBench$Marks.takeOut(I)V -/
def c_110 : List (Nat × pm_I × Nat) := [(0, .inr (.aload 0), 1), (1, .inr (.iload 1), 2), (2, .inr (.invokevirtual 100), 5), (5, .inr (.ifCond .ne 9), 8), (8, .inr .return_, 9), (9, .inr (.iload 1), 10), (10, .inr (.istore 2), 11), (11, .inr (.iload 2), 12), (12, .inl (.int 1), 13), (13, .inr .iadd, 14), (14, .inr (.aload 0), 15), (15, .inr (.getfield 387), 18), (18, .inr (.if_icmp .ge 69), 21), (21, .inr (.aload 0), 22), (22, .inr (.getfield 384), 25), (25, .inr (.iload 2), 26), (26, .inr (.aload 0), 27), (27, .inr (.getfield 384), 30), (30, .inr (.iload 2), 31), (31, .inl (.int 1), 32), (32, .inr .iadd, 33), (33, .inr .iaload, 34), (34, .inr .iastore, 35), (35, .inr (.aload 0), 36), (36, .inr (.getfield 385), 39), (39, .inr (.iload 2), 40), (40, .inr (.aload 0), 41), (41, .inr (.getfield 385), 44), (44, .inr (.iload 2), 45), (45, .inl (.int 1), 46), (46, .inr .iadd, 47), (47, .inr .iaload, 48), (48, .inr .iastore, 49), (49, .inr (.aload 0), 50), (50, .inr (.getfield 386), 53), (53, .inr (.iload 2), 54), (54, .inr (.aload 0), 55), (55, .inr (.getfield 386), 58), (58, .inr (.iload 2), 59), (59, .inl (.int 1), 60), (60, .inr .iadd, 61), (61, .inr .iaload, 62), (62, .inr .iastore, 63), (63, .inr (.iinc 2 1), 66), (66, .inr (.goto 11), 69), (69, .inr (.aload 0), 70), (70, .inr .dup, 71), (71, .inr (.getfield 387), 74), (74, .inl (.int 1), 75), (75, .inr .isub, 76), (76, .inr (.putfield 387), 79), (79, .inr .return_, 80)]
/-- MaskBench.lose(II)I -/
def c_111 : List (Nat × pm_I × Nat) := [(0, .inr (.iload 1), 1), (1, .inr (.iload 2), 2), (2, .inr (.invokestatic 103), 5), (5, .inr (.ifCond .ne 14), 8), (8, .inr (.aload 0), 9), (9, .inl (.int 1), 10), (10, .inr (.invokevirtual 18), 13), (13, .inr .ireturn, 14), (14, .inr (.aload 0), 15), (15, .inr (.getfield 6), 18), (18, .inr (.getfield 513), 21), (21, .inr (.getfield 321), 24), (24, .inr (.astore 3), 25), (25, .inr (.aload 3), 26), (26, .inr (.invokevirtual 37), 29), (29, .inr (.ifCond .eq 38), 32), (32, .inr (.aload 0), 33), (33, .inl (.int 3), 34), (34, .inr (.invokevirtual 18), 37), (37, .inr .ireturn, 38), (38, .inr (.aload 3), 39), (39, .inr (.iload 1), 40), (40, .inr (.iload 2), 41), (41, .inr (.invokevirtual 112), 44), (44, .inr (.ifCond .eq 53), 47), (47, .inr (.aload 0), 48), (48, .inl (.int 4), 49), (49, .inr (.invokevirtual 18), 52), (52, .inr .ireturn, 53), (53, .inr (.aload 0), 54), (54, .inr (.invokevirtual 104), 57), (57, .inr (.aload 3), 58), (58, .inr (.iload 1), 59), (59, .inr (.iload 2), 60), (60, .inl (.int 0), 61), (61, .inr (.invokevirtual 76), 64), (64, .inr (.aload 0), 65), (65, .inr (.aload 3), 66), (66, .inr (.getfield 387), 69), (69, .inr (.invokevirtual 80), 72), (72, .inr .ireturn, 73)]
/-- MaskBench$Marks.tells(II)Z -/
def c_112 : List (Nat × pm_I × Nat) := [(0, .inl (.int 0), 1), (1, .inr (.istore 3), 2), (2, .inr (.iload 3), 3), (3, .inr (.aload 0), 4), (4, .inr (.getfield 387), 7), (7, .inr (.if_icmp .ge 38), 10), (10, .inr (.aload 0), 11), (11, .inr (.getfield 384), 14), (14, .inr (.iload 3), 15), (15, .inr .iaload, 16), (16, .inr (.iload 1), 17), (17, .inr (.if_icmp .ne 32), 20), (20, .inr (.aload 0), 21), (21, .inr (.getfield 385), 24), (24, .inr (.iload 3), 25), (25, .inr .iaload, 26), (26, .inr (.iload 2), 27), (27, .inr (.if_icmp .ne 32), 30), (30, .inl (.int 1), 31), (31, .inr .ireturn, 32), (32, .inr (.iinc 3 1), 35), (35, .inr (.goto 2), 38), (38, .inl (.int 0), 39), (39, .inr .ireturn, 40)]
/-- MaskBench.heal(I)I -/
def c_113 : List (Nat × pm_I × Nat) := [(0, .inr (.aload 0), 1), (1, .inr (.aload 0), 2), (2, .inr (.getfield 6), 5), (5, .inr (.getfield 513), 8), (8, .inr (.getfield 321), 11), (11, .inr (.iload 1), 12), (12, .inr (.invokevirtual 109), 15), (15, .inr .ireturn, 16)]
/-- MaskBench.light(I)I -/
def c_114 : List (Nat × pm_I × Nat) := [(0, .inr (.iload 1), 1), (1, .inr (.ifCond .lt 10), 4), (4, .inr (.iload 1), 5), (5, .inl (.int 99), 7), (7, .inr (.if_icmp .le 16), 10), (10, .inr (.aload 0), 11), (11, .inl (.int 1), 12), (12, .inr (.invokevirtual 18), 15), (15, .inr .ireturn, 16), (16, .inr (.aload 0), 17), (17, .inr (.getfield 6), 20), (20, .inr (.getfield 513), 23), (23, .inr (.getfield 323), 26), (26, .inr (.istore 2), 27), (27, .inr (.iload 2), 28), (28, .inr (.iload 1), 29), (29, .inr (.if_icmp .ne 38), 32), (32, .inr (.aload 0), 33), (33, .inl (.int 4), 34), (34, .inr (.invokevirtual 18), 37), (37, .inr .ireturn, 38), (38, .inr (.aload 0), 39), (39, .inr (.invokevirtual 104), 42), (42, .inr (.aload 0), 43), (43, .inr (.getfield 6), 46), (46, .inr (.getfield 513), 49), (49, .inr (.iload 1), 50), (50, .inr (.putfield 323), 53), (53, .inr (.aload 0), 54), (54, .inr (.iload 2), 55), (55, .inr (.invokevirtual 80), 58), (58, .inr .ireturn, 59)]
/-- MaskBench.use(I)I -/
def c_115 : List (Nat × pm_I × Nat) := [(0, .inr (.aload 0), 1), (1, .inr (.getfield 6), 4), (4, .inr (.iload 1), 5), (5, .inr (.invokevirtual 56), 8), (8, .inr (.ifnonnull 17), 11), (11, .inr (.aload 0), 12), (12, .inl (.int 2), 13), (13, .inr (.invokevirtual 18), 16), (16, .inr .ireturn, 17), (17, .inr (.aload 0), 18), (18, .inr (.getfield 6), 21), (21, .inr (.getfield 513), 24), (24, .inr (.getfield 324), 27), (27, .inr (.istore 2), 28), (28, .inr (.iload 2), 29), (29, .inr (.iload 1), 30), (30, .inr (.if_icmp .ne 39), 33), (33, .inr (.aload 0), 34), (34, .inl (.int 4), 35), (35, .inr (.invokevirtual 18), 38), (38, .inr .ireturn, 39), (39, .inr (.aload 0), 40), (40, .inr (.invokevirtual 104), 43), (43, .inr (.aload 0), 44), (44, .inr (.getfield 6), 47), (47, .inr (.getfield 513), 50), (50, .inr (.iload 1), 51), (51, .inr (.putfield 324), 54), (54, .inr (.aload 0), 55), (55, .inr (.iload 2), 56), (56, .inr (.invokevirtual 80), 59), (59, .inr .ireturn, 60)]
/-- MaskBench.slide(II)I -/
def c_116 : List (Nat × pm_I × Nat) := [(0, .inr (.iload 1), 1), (1, .inr (.iload 2), 2), (2, .inr (.invokestatic 103), 5), (5, .inr (.ifCond .ne 14), 8), (8, .inr (.aload 0), 9), (9, .inl (.int 1), 10), (10, .inr (.invokevirtual 18), 13), (13, .inr .ireturn, 14), (14, .inr (.iload 1), 15), (15, .inr (.ifCond .ne 28), 18), (18, .inr (.iload 2), 19), (19, .inr (.ifCond .ne 28), 22), (22, .inr (.aload 0), 23), (23, .inl (.int 4), 24), (24, .inr (.invokevirtual 18), 27), (27, .inr .ireturn, 28), (28, .inr (.aload 0), 29), (29, .inr (.getfield 6), 32), (32, .inr (.getfield 513), 35), (35, .inr (.getfield 320), 38), (38, .inr (.astore 3), 39), (39, .inr (.aload 3), 40), (40, .inr (.getfield 387), 43), (43, .inr (.ifCond .ne 52), 46), (46, .inr (.aload 0), 47), (47, .inl (.int 5), 48), (48, .inr (.invokevirtual 18), 51), (51, .inr .ireturn, 52), (52, .inr (.aload 0), 53), (53, .inr (.invokevirtual 104), 56), (56, .inr (.aload 3), 57), (57, .inr (.iload 1), 58), (58, .inr (.iload 2), 59), (59, .inr (.invokevirtual 117), 62), (62, .inr (.aload 0), 63), (63, .inr (.aload 3), 64), (64, .inr (.getfield 387), 67), (67, .inr (.invokevirtual 80), 70), (70, .inr .ireturn, 71)]
/-- MaskBench$Marks.shift(II)V -/
def c_117 : List (Nat × pm_I × Nat) := [(0, .inl (.int 0), 1), (1, .inr (.istore 3), 2), (2, .inr (.iload 3), 3), (3, .inr (.aload 0), 4), (4, .inr (.getfield 387), 7), (7, .inr (.if_icmp .ge 50), 10), (10, .inr (.aload 0), 11), (11, .inr (.getfield 384), 14), (14, .inr (.iload 3), 15), (15, .inr (.aload 0), 16), (16, .inr (.getfield 384), 19), (19, .inr (.iload 3), 20), (20, .inr .iaload, 21), (21, .inr (.iload 1), 22), (22, .inr .iadd, 23), (23, .inl (.int 100), 25), (25, .inr .irem, 26), (26, .inr .iastore, 27), (27, .inr (.aload 0), 28), (28, .inr (.getfield 385), 31), (31, .inr (.iload 3), 32), (32, .inr (.aload 0), 33), (33, .inr (.getfield 385), 36), (36, .inr (.iload 3), 37), (37, .inr .iaload, 38), (38, .inr (.iload 2), 39), (39, .inr .iadd, 40), (40, .inl (.int 100), 42), (42, .inr .irem, 43), (43, .inr .iastore, 44), (44, .inr (.iinc 3 1), 47), (47, .inr (.goto 2), 50), (50, .inr .return_, 51)]
/-- MaskBench.undo()I -/
def c_118 : List (Nat × pm_I × Nat) := [(0, .inr (.aload 0), 1), (1, .inr (.getfield 3), 4), (4, .inr (.getfield 258), 7), (7, .inr (.ifCond .ne 16), 10), (10, .inr (.aload 0), 11), (11, .inl (.int 5), 12), (12, .inr (.invokevirtual 18), 15), (15, .inr .ireturn, 16), (16, .inr (.aload 0), 17), (17, .inr (.getfield 3), 20), (20, .inr (.aload 0), 21), (21, .inr (.getfield 6), 24), (24, .inr (.getfield 513), 27), (27, .inr (.invokevirtual 119), 30), (30, .inr (.aload 0), 31), (31, .inr (.getfield 8), 34), (34, .inr (.invokevirtual 79), 37), (37, .inr (.aload 0), 38), (38, .inr (.aload 0), 39), (39, .inr (.getfield 3), 42), (42, .inr (.getfield 258), 45), (45, .inr (.invokevirtual 80), 48), (48, .inr .ireturn, 49)]
/-- MaskBench$History.takeBack(LMaskBench$Scene;)V -/
def c_119 : List (Nat × pm_I × Nat) := [(0, .inr (.aload 0), 1), (1, .inr (.getfield 258), 4), (4, .inr (.ifCond .le 38), 7), (7, .inr (.aload 0), 8), (8, .inr .dup, 9), (9, .inr (.getfield 258), 12), (12, .inl (.int 1), 13), (13, .inr .isub, 14), (14, .inr (.putfield 258), 17), (17, .inr (.aload 1), 18), (18, .inr (.aload 0), 19), (19, .inr (.getfield 256), 22), (22, .inr (.aload 0), 23), (23, .inr (.getfield 257), 26), (26, .inr (.aload 0), 27), (27, .inr (.getfield 258), 30), (30, .inr .iadd, 31), (31, .inl (.int 12), 33), (33, .inr .irem, 34), (34, .inr .aaload, 35), (35, .inr (.invokevirtual 106), 38), (38, .inr .return_, 39)]
/-- MaskBench.at(III)I -/
def c_120 : List (Nat × pm_I × Nat) := [(0, .inr (.iload 3), 1), (1, .inr (.ifCond .lt 9), 4), (4, .inr (.iload 3), 5), (5, .inl (.int 5), 6), (6, .inr (.if_icmp .le 15), 9), (9, .inr (.aload 0), 10), (10, .inl (.int 1), 11), (11, .inr (.invokevirtual 18), 14), (14, .inr .ireturn, 15), (15, .inr (.aload 0), 16), (16, .inr (.iload 1), 17), (17, .inr (.iload 2), 18), (18, .inr (.invokevirtual 121), 21), (21, .inr (.istore 4), 23), (23, .inr (.iload 4), 25), (25, .inr (.ifCond .ne 39), 28), (28, .inr (.iload 3), 29), (29, .inl (.int 4), 30), (30, .inr (.if_icmp .ne 39), 33), (33, .inr (.aload 0), 34), (34, .inr (.invokevirtual 128), 37), (37, .inr (.istore 4), 39), (39, .inr (.iload 4), 41), (41, .inr (.ifCond .eq 51), 44), (44, .inr (.aload 0), 45), (45, .inr (.iload 4), 47), (47, .inr (.invokevirtual 18), 50), (50, .inr .ireturn, 51), (51, .inr (.aload 0), 52), (52, .inr (.aload 0), 53), (53, .inr (.getfield 8), 56), (56, .inr (.aload 0), 57), (57, .inr (.getfield 8), 60), (60, .inr (.getfield 653), 63), (63, .inr (.iload 1), 64), (64, .inr (.iload 2), 65), (65, .inr (.invokevirtual 93), 68), (68, .inr (.iload 3), 69), (69, .inr (.invokevirtual 130), 72), (72, .inr (.invokevirtual 80), 75), (75, .inr .ireturn, 76)]
/-- MaskBench.lookAt(II)I -/
def c_121 : List (Nat × pm_I × Nat) := [(0, .inr (.aload 0), 1), (1, .inr (.invokevirtual 122), 4), (4, .inr (.istore 3), 5), (5, .inr (.iload 3), 6), (6, .inr (.ifCond .ne 28), 9), (9, .inr (.aload 0), 10), (10, .inr (.getfield 8), 13), (13, .inr (.getfield 653), 16), (16, .inr (.iload 1), 17), (17, .inr (.iload 2), 18), (18, .inr (.invokevirtual 54), 21), (21, .inr (.ifCond .ne 28), 24), (24, .inl (.int 2), 25), (25, .inr (.goto 29), 28), (28, .inr (.iload 3), 29), (29, .inr .ireturn, 30)]
/-- MaskBench.look()I -/
def c_122 : List (Nat × pm_I × Nat) := [(0, .inr (.aload 0), 1), (1, .inr (.getfield 6), 4), (4, .inr (.invokevirtual 123), 7), (7, .inr (.astore 1), 8), (8, .inr (.aload 1), 9), (9, .inr (.ifnonnull 14), 12), (12, .inl (.int 2), 13), (13, .inr .ireturn, 14), (14, .inr (.aload 0), 15), (15, .inr (.getfield 8), 18), (18, .inr (.aload 1), 19), (19, .inr (.aload 0), 20), (20, .inr (.getfield 6), 23), (23, .inr (.getfield 513), 26), (26, .inr (.invokevirtual 124), 29), (29, .inl (.int 0), 30), (30, .inr .ireturn, 31)]
/-- MaskBench$Bench.plateInUse()LMaskBench$Plate; -/
def c_123 : List (Nat × pm_I × Nat) := [(0, .inr (.aload 0), 1), (1, .inr (.aload 0), 2), (2, .inr (.getfield 513), 5), (5, .inr (.getfield 324), 8), (8, .inr (.invokevirtual 56), 11), (11, .inr .areturn, 12)]
/-- MaskBench$Camera.aim(LMaskBench$Plate;LMaskBench$Scene;)V -/
def c_124 : List (Nat × pm_I × Nat) := [(0, .inr (.aload 0), 1), (1, .inr (.getfield 655), 4), (4, .inr (.ifCond .eq 8), 7), (7, .inr .return_, 8), (8, .inr (.aload 0), 9), (9, .inr (.aload 1), 10), (10, .inr (.putfield 653), 13), (13, .inr (.aload 0), 14), (14, .inr (.aload 2), 15), (15, .inr (.putfield 654), 18), (18, .inr (.aload 0), 19), (19, .inl (.int 1), 20), (20, .inr (.putfield 655), 23), (23, .inr (.aload 0), 24), (24, .inl (.int 0), 25), (25, .inr (.putfield 656), 28), (28, .inr (.aload 0), 29), (29, .inl (.int 0), 30), (30, .inr (.putfield 657), 33), (33, .inr (.aload 0), 34), (34, .inl (.int 0), 35), (35, .inr (.putfield 658), 38), (38, .inr (.aload 0), 39), (39, .inr (.invokevirtual 125), 42), (42, .inr (.aload 0), 43), (43, .inr (.getfield 643), 46), (46, .inl (.int 0), 47), (47, .inr (.aload 0), 48), (48, .inr (.getfield 653), 51), (51, .inr (.getfield 582), 54), (54, .inl (.int 0), 55), (55, .inr (.invokestatic 50), 58), (58, .inr (.aload 0), 59), (59, .inr (.aload 0), 60), (60, .inr (.getfield 643), 63), (63, .inr (.aload 0), 64), (64, .inr (.getfield 654), 67), (67, .inr (.getfield 320), 70), (70, .inr (.invokevirtual 126), 73), (73, .inr (.aload 0), 74), (74, .inr (.aload 0), 75), (75, .inr (.getfield 641), 78), (78, .inl (.int 0), 79), (79, .inr (.invokevirtual 127), 82), (82, .inl (.int 0), 83), (83, .inr (.istore 3), 84), (84, .inr (.iload 3), 85), (85, .inr (.aload 0), 86), (86, .inr (.getfield 653), 89), (89, .inr (.getfield 582), 92), (92, .inr (.if_icmp .ge 127), 95), (95, .inr (.aload 0), 96), (96, .inr (.getfield 642), 99), (99, .inr (.iload 3), 100), (100, .inr (.aload 0), 101), (101, .inr (.getfield 640), 104), (104, .inr (.iload 3), 105), (105, .inr .iaload, 106), (106, .inl (.int 1), 107), (107, .inr (.if_icmp .ne 114), 110), (110, .inl (.int 0), 111), (111, .inr (.goto 120), 114), (114, .inr (.aload 0), 115), (115, .inr (.getfield 641), 118), (118, .inr (.iload 3), 119), (119, .inr .iaload, 120), (120, .inr .iastore, 121), (121, .inr (.iinc 3 1), 124), (124, .inr (.goto 84), 127), (127, .inr .return_, 128)]
/-- MaskBench$Camera.markLost()V -/
def c_125 : List (Nat × pm_I × Nat) := [(0, .inr (.aload 0), 1), (1, .inr (.getfield 640), 4), (4, .inl (.int 0), 5), (5, .inr (.aload 0), 6), (6, .inr (.getfield 653), 9), (9, .inr (.getfield 582), 12), (12, .inl (.int 0), 13), (13, .inr (.invokestatic 50), 16), (16, .inr (.aload 0), 17), (17, .inr (.getfield 654), 20), (20, .inr (.getfield 321), 23), (23, .inr (.astore 1), 24), (24, .inl (.int 0), 25), (25, .inr (.istore 2), 26), (26, .inr (.iload 2), 27), (27, .inr (.aload 1), 28), (28, .inr (.getfield 387), 31), (31, .inr (.if_icmp .ge 65), 34), (34, .inr (.aload 0), 35), (35, .inr (.getfield 640), 38), (38, .inr (.aload 0), 39), (39, .inr (.getfield 653), 42), (42, .inr (.aload 1), 43), (43, .inr (.getfield 384), 46), (46, .inr (.iload 2), 47), (47, .inr .iaload, 48), (48, .inr (.aload 1), 49), (49, .inr (.getfield 385), 52), (52, .inr (.iload 2), 53), (53, .inr .iaload, 54), (54, .inr (.invokevirtual 93), 57), (57, .inl (.int 1), 58), (58, .inr .iastore, 59), (59, .inr (.iinc 2 1), 62), (62, .inr (.goto 26), 65), (65, .inr (.aload 0), 66), (66, .inr (.aload 0), 67), (67, .inr (.getfield 640), 70), (70, .inl (.int 0), 71), (71, .inr (.aload 0), 72), (72, .inr (.getfield 653), 75), (75, .inr (.getfield 582), 78), (78, .inr (.invokestatic 72), 81), (81, .inr (.putfield 652), 84), (84, .inr .return_, 85)]
/-- MaskBench$Camera.addCounts([ILMaskBench$Marks;)V -/
def c_126 : List (Nat × pm_I × Nat) := [(0, .inl (.int 0), 1), (1, .inr (.istore 3), 2), (2, .inr (.iload 3), 3), (3, .inr (.aload 2), 4), (4, .inr (.getfield 387), 7), (7, .inr (.if_icmp .ge 46), 10), (10, .inr (.aload 1), 11), (11, .inr (.aload 0), 12), (12, .inr (.getfield 653), 15), (15, .inr (.aload 2), 16), (16, .inr (.getfield 384), 19), (19, .inr (.iload 3), 20), (20, .inr .iaload, 21), (21, .inr (.aload 2), 22), (22, .inr (.getfield 385), 25), (25, .inr (.iload 3), 26), (26, .inr .iaload, 27), (27, .inr (.invokevirtual 93), 30), (30, .inr .dup2, 31), (31, .inr .iaload, 32), (32, .inr (.aload 2), 33), (33, .inr (.getfield 386), 36), (36, .inr (.iload 3), 37), (37, .inr .iaload, 38), (38, .inr .iadd, 39), (39, .inr .iastore, 40), (40, .inr (.iinc 3 1), 43), (43, .inr (.goto 2), 46), (46, .inr .return_, 47)]
/-- MaskBench$Camera.throwAll([II)V -/
def c_127 : List (Nat × pm_I × Nat) := [(0, .inr (.aload 1), 1), (1, .inl (.int 0), 2), (2, .inr (.aload 0), 3), (3, .inr (.getfield 653), 6), (6, .inr (.getfield 582), 9), (9, .inr (.aload 0), 10), (10, .inr (.getfield 654), 13), (13, .inr (.getfield 323), 16), (16, .inr (.invokestatic 50), 19), (19, .inr (.aload 0), 20), (20, .inr (.getfield 654), 23), (23, .inr (.getfield 320), 26), (26, .inr (.astore 3), 27), (27, .inl (.int 0), 28), (28, .inr (.istore 4), 30), (30, .inr (.iload 4), 32), (32, .inr (.aload 3), 33), (33, .inr (.getfield 387), 36), (36, .inr (.if_icmp .ge 85), 39), (39, .inr (.aload 0), 40), (40, .inr (.getfield 653), 43), (43, .inr (.aload 1), 44), (44, .inr (.aload 0), 45), (45, .inr (.getfield 653), 48), (48, .inr (.getfield 576), 51), (51, .inr (.aload 3), 52), (52, .inr (.getfield 384), 55), (55, .inr (.iload 4), 57), (57, .inr .iaload, 58), (58, .inr (.iload 2), 59), (59, .inr .iadd, 60), (60, .inr .ineg, 61), (61, .inr (.aload 3), 62), (62, .inr (.getfield 385), 65), (65, .inr (.iload 4), 67), (67, .inr .iaload, 68), (68, .inr .ineg, 69), (69, .inr (.aload 3), 70), (70, .inr (.getfield 386), 73), (73, .inr (.iload 4), 75), (75, .inr .iaload, 76), (76, .inr (.invokevirtual 65), 79), (79, .inr (.iinc 4 1), 82), (82, .inr (.goto 30), 85), (85, .inr (.aload 0), 86), (86, .inr (.aload 1), 87), (87, .inr (.aload 0), 88), (88, .inr (.getfield 654), 91), (91, .inr (.getfield 322), 94), (94, .inr (.invokevirtual 126), 97), (97, .inr .return_, 98)]
/-- MaskBench.lookToRestore()I -/
def c_128 : List (Nat × pm_I × Nat) := [(0, .inr (.aload 0), 1), (1, .inr (.invokevirtual 122), 4), (4, .inr (.istore 1), 5), (5, .inr (.iload 1), 6), (6, .inr (.ifCond .ne 26), 9), (9, .inr (.aload 0), 10), (10, .inr (.getfield 8), 13), (13, .inr (.getfield 653), 16), (16, .inr (.invokevirtual 129), 19), (19, .inr (.ifCond .ne 26), 22), (22, .inl (.int 5), 23), (23, .inr (.goto 27), 26), (26, .inr (.iload 1), 27), (27, .inr .ireturn, 28)]
/-- MaskBench$Plate.canRestore()Z -/
def c_129 : List (Nat × pm_I × Nat) := [(0, .inr (.aload 0), 1), (1, .inr (.invokevirtual 85), 4), (4, .inr (.aload 0), 5), (5, .inr (.getfield 582), 8), (8, .inl (.int 2), 9), (9, .inr (.if_icmp .lt 47), 12), (12, .inr (.aload 0), 13), (13, .inr (.getfield 583), 16), (16, .inr (.ifCond .le 47), 19), (19, .inr (.aload 0), 20), (20, .inr (.getfield 586), 23), (23, .inr (.aload 0), 24), (24, .inr (.getfield 587), 27), (27, .inr (.if_icmp .ne 47), 30), (30, .inr (.aload 0), 31), (31, .inr (.getfield 578), 34), (34, .inl (.int 0), 35), (35, .inr .iaload, 36), (36, .inr (.aload 0), 37), (37, .inr (.getfield 586), 40), (40, .inr (.if_icmp .eq 47), 43), (43, .inl (.int 1), 44), (44, .inr (.goto 48), 47), (47, .inl (.int 0), 48), (48, .inr .ireturn, 49)]
/-- MaskBench$Camera.figureAt(II)I -/
def c_130 : List (Nat × pm_I × Nat) := [(0, .inr (.iload 2), 1), (1, .inr (.tableswitch 95 0 4 #[36, 43, 50, 61, 72]), 36), (36, .inr (.aload 0), 37), (37, .inr (.getfield 642), 40), (40, .inr (.iload 1), 41), (41, .inr .iaload, 42), (42, .inr .ireturn, 43), (43, .inr (.aload 0), 44), (44, .inr (.getfield 641), 47), (47, .inr (.iload 1), 48), (48, .inr .iaload, 49), (49, .inr .ireturn, 50), (50, .inr (.aload 0), 51), (51, .inr (.invokevirtual 131), 54), (54, .inr (.aload 0), 55), (55, .inr (.getfield 644), 58), (58, .inr (.iload 1), 59), (59, .inr .iaload, 60), (60, .inr .ireturn, 61), (61, .inr (.aload 0), 62), (62, .inr (.invokevirtual 134), 65), (65, .inr (.aload 0), 66), (66, .inr (.getfield 645), 69), (69, .inr (.iload 1), 70), (70, .inr .iaload, 71), (71, .inr .ireturn, 72), (72, .inr (.aload 0), 73), (73, .inr (.invokevirtual 131), 76), (76, .inr (.aload 0), 77), (77, .inr (.aload 0), 78), (78, .inr (.getfield 644), 81), (81, .inr (.iload 1), 82), (82, .inr .iaload, 83), (83, .inr (.aload 0), 84), (84, .inr (.aload 0), 85), (85, .inr (.invokevirtual 135), 88), (88, .inr (.invokevirtual 136), 91), (91, .inr (.invokevirtual 139), 94), (94, .inr .ireturn, 95), (95, .inr (.aload 0), 96), (96, .inr (.getfield 643), 99), (99, .inr (.iload 1), 100), (100, .inr .iaload, 101), (101, .inr .ireturn, 102)]
/-- MaskBench$Camera.decode()V -/
def c_131 : List (Nat × pm_I × Nat) := [(0, .inr (.aload 0), 1), (1, .inr (.getfield 656), 4), (4, .inr (.ifCond .ne 27), 7), (7, .inr (.aload 0), 8), (8, .inr (.getfield 653), 11), (11, .inr (.aload 0), 12), (12, .inr (.getfield 642), 15), (15, .inr (.aload 0), 16), (16, .inr (.getfield 644), 19), (19, .inr (.invokevirtual 132), 22), (22, .inr (.aload 0), 23), (23, .inl (.int 1), 24), (24, .inr (.putfield 656), 27), (27, .inr .return_, 28)]
/-- MaskBench$Plate.decodeAll([I[I)V -/
def c_132 : List (Nat × pm_I × Nat) := [(0, .inr (.aload 2), 1), (1, .inl (.int 0), 2), (2, .inr (.aload 0), 3), (3, .inr (.getfield 582), 6), (6, .inl (.int 0), 7), (7, .inr (.invokestatic 50), 10), (10, .inl (.int 0), 11), (11, .inr (.istore 3), 12), (12, .inr (.iload 3), 13), (13, .inr (.aload 0), 14), (14, .inr (.getfield 582), 17), (17, .inr (.if_icmp .ge 45), 20), (20, .inr (.aload 1), 21), (21, .inr (.iload 3), 22), (22, .inr .iaload, 23), (23, .inr (.ifCond .eq 39), 26), (26, .inr (.aload 0), 27), (27, .inr (.aload 2), 28), (28, .inr (.aload 0), 29), (29, .inr (.getfield 577), 32), (32, .inr (.iload 3), 33), (33, .inr (.aload 1), 34), (34, .inr (.iload 3), 35), (35, .inr .iaload, 36), (36, .inr (.invokevirtual 133), 39), (39, .inr (.iinc 3 1), 42), (42, .inr (.goto 12), 45), (45, .inr .return_, 46)]
/-- MaskBench$Plate.addMirrored([I[III)V -/
def c_133 : List (Nat × pm_I × Nat) := [(0, .inr (.aload 0), 1), (1, .inr (.iload 3), 2), (2, .inr (.invokevirtual 70), 5), (5, .inr (.istore 5), 7), (7, .inl (.int 0), 8), (8, .inr (.istore 6), 10), (10, .inl (.int 0), 11), (11, .inr (.istore 7), 13), (13, .inr (.iload 7), 15), (15, .inr (.aload 0), 16), (16, .inr (.getfield 581), 19), (19, .inr (.if_icmp .ge 118), 22), (22, .inr (.aload 0), 23), (23, .inr (.iload 3), 24), (24, .inr (.invokevirtual 69), 27), (27, .inr (.istore 8), 29), (29, .inl (.int 0), 30), (30, .inr (.istore 9), 32), (32, .inr (.iload 9), 34), (34, .inr (.aload 0), 35), (35, .inr (.getfield 580), 38), (38, .inr (.if_icmp .ge 92), 41), (41, .inr (.aload 1), 42), (42, .inr (.iload 6), 44), (44, .inr .dup2, 45), (45, .inr .iaload, 46), (46, .inr (.iload 4), 48), (48, .inr (.aload 2), 49), (49, .inr (.iload 5), 51), (51, .inr (.aload 0), 52), (52, .inr (.getfield 580), 55), (55, .inr .imul, 56), (56, .inr (.iload 8), 58), (58, .inr .iadd, 59), (59, .inr .iaload, 60), (60, .inr .imul, 61), (61, .inr .iadd, 62), (62, .inr .iastore, 63), (63, .inr (.iinc 6 1), 66), (66, .inr (.iload 8), 68), (68, .inr (.ifCond .ne 80), 71), (71, .inr (.aload 0), 72), (72, .inr (.getfield 580), 75), (75, .inl (.int 1), 76), (76, .inr .isub, 77), (77, .inr (.goto 84), 80), (80, .inr (.iload 8), 82), (82, .inl (.int 1), 83), (83, .inr .isub, 84), (84, .inr (.istore 8), 86), (86, .inr (.iinc 9 1), 89), (89, .inr (.goto 32), 92), (92, .inr (.iload 5), 94), (94, .inr (.ifCond .ne 106), 97), (97, .inr (.aload 0), 98), (98, .inr (.getfield 581), 101), (101, .inl (.int 1), 102), (102, .inr .isub, 103), (103, .inr (.goto 110), 106), (106, .inr (.iload 5), 108), (108, .inl (.int 1), 109), (109, .inr .isub, 110), (110, .inr (.istore 5), 112), (112, .inr (.iinc 7 1), 115), (115, .inr (.goto 13), 118), (118, .inr .return_, 119)]
/-- MaskBench$Camera.findMoved()V -/
def c_134 : List (Nat × pm_I × Nat) := [(0, .inl (.int 0), 1), (1, .inr (.istore 1), 2), (2, .inr (.iload 1), 3), (3, .inr (.aload 0), 4), (4, .inr (.getfield 653), 7), (7, .inr (.getfield 582), 10), (10, .inr (.if_icmp .ge 38), 13), (13, .inr (.aload 0), 14), (14, .inr (.getfield 646), 17), (17, .inr (.iload 1), 18), (18, .inr (.aload 0), 19), (19, .inr (.getfield 641), 22), (22, .inr (.iload 1), 23), (23, .inr .iaload, 24), (24, .inr (.aload 0), 25), (25, .inr (.getfield 642), 28), (28, .inr (.iload 1), 29), (29, .inr .iaload, 30), (30, .inr .isub, 31), (31, .inr .iastore, 32), (32, .inr (.iinc 1 1), 35), (35, .inr (.goto 2), 38), (38, .inr (.aload 0), 39), (39, .inr (.getfield 653), 42), (42, .inr (.aload 0), 43), (43, .inr (.getfield 646), 46), (46, .inr (.aload 0), 47), (47, .inr (.getfield 645), 50), (50, .inr (.invokevirtual 132), 53), (53, .inr .return_, 54)]
/-- MaskBench$Camera.lightSeen()I -/
def c_135 : List (Nat × pm_I × Nat) := [(0, .inr (.aload 0), 1), (1, .inr (.getfield 642), 4), (4, .inl (.int 0), 5), (5, .inr (.aload 0), 6), (6, .inr (.getfield 653), 9), (9, .inr (.getfield 582), 12), (12, .inr (.invokestatic 72), 15), (15, .inr (.aload 0), 16), (16, .inr (.getfield 654), 19), (19, .inr (.getfield 323), 22), (22, .inr (.aload 0), 23), (23, .inr (.getfield 653), 26), (26, .inr (.getfield 582), 29), (29, .inr (.aload 0), 30), (30, .inr (.getfield 652), 33), (33, .inr .isub, 34), (34, .inr .imul, 35), (35, .inr .isub, 36), (36, .inr .ireturn, 37)]
/-- MaskBench$Camera.floorBy(I)I -/
def c_136 : List (Nat × pm_I × Nat) := [(0, .inr (.aload 0), 1), (1, .inr (.getfield 653), 4), (4, .inr (.getfield 586), 7), (7, .inr (.aload 0), 8), (8, .inr (.iload 1), 9), (9, .inr (.invokevirtual 137), 12), (12, .inr .imul, 13), (13, .inr (.aload 0), 14), (14, .inr (.getfield 654), 17), (17, .inr (.getfield 323), 20), (20, .inr (.aload 0), 21), (21, .inr (.getfield 653), 24), (24, .inr (.getfield 584), 27), (27, .inr .imul, 28), (28, .inr .iadd, 29), (29, .inr .ireturn, 30)]
/-- MaskBench$Camera.lightByHoles(I)I -/
def c_137 : List (Nat × pm_I × Nat) := [(0, .inr (.aload 0), 1), (1, .inr (.getfield 653), 4), (4, .inr (.getfield 583), 7), (7, .inr (.ifCond .le 24), 10), (10, .inr (.iload 1), 11), (11, .inr (.aload 0), 12), (12, .inr (.getfield 653), 15), (15, .inr (.getfield 583), 18), (18, .inr (.invokestatic 138), 21), (21, .inr (.goto 25), 24), (24, .inl (.int 0), 25), (25, .inr .ireturn, 26)]
/-- java/lang/Math.floorDiv(II)I -/
def c_138 : List (Nat × pm_I × Nat) := [(0, .inr (.iload 0), 1), (1, .inr (.iload 1), 2), (2, .inr .idiv, 3), (3, .inr (.istore 2), 4), (4, .inr (.iload 0), 5), (5, .inr (.iload 1), 6), (6, .inr .ixor, 7), (7, .inr (.ifCond .ge 21), 10), (10, .inr (.iload 2), 11), (11, .inr (.iload 1), 12), (12, .inr .imul, 13), (13, .inr (.iload 0), 14), (14, .inr (.if_icmp .eq 21), 17), (17, .inr (.iload 2), 18), (18, .inl (.int 1), 19), (19, .inr .isub, 20), (20, .inr .ireturn, 21), (21, .inr (.iload 2), 22), (22, .inr .ireturn, 23)]
/-- MaskBench$Camera.restoredBy(II)I -/
def c_139 : List (Nat × pm_I × Nat) := [(0, .inr (.aload 0), 1), (1, .inr (.getfield 653), 4), (4, .inr (.getfield 578), 7), (7, .inl (.int 0), 8), (8, .inr .iaload, 9), (9, .inr (.aload 0), 10), (10, .inr (.getfield 653), 13), (13, .inr (.getfield 586), 16), (16, .inr .isub, 17), (17, .inr (.istore 3), 18), (18, .inr (.iload 3), 19), (19, .inr (.ifCond .ne 26), 22), (22, .inl (.int 0), 23), (23, .inr (.goto 33), 26), (26, .inr (.iload 1), 27), (27, .inr (.iload 2), 28), (28, .inr .isub, 29), (29, .inr (.iload 3), 30), (30, .inr (.invokestatic 138), 33), (33, .inr .ireturn, 34)]
/-- MaskBench.all(I)I -/
def c_140 : List (Nat × pm_I × Nat) := [(0, .inr (.iload 1), 1), (1, .inr (.ifCond .lt 10), 4), (4, .inr (.iload 1), 5), (5, .inl (.int 7), 7), (7, .inr (.if_icmp .le 16), 10), (10, .inr (.aload 0), 11), (11, .inl (.int 1), 12), (12, .inr (.invokevirtual 18), 15), (15, .inr .ireturn, 16), (16, .inr (.iload 1), 17), (17, .inl (.int 3), 18), (18, .inr (.if_icmp .ne 28), 21), (21, .inr (.aload 0), 22), (22, .inr (.invokevirtual 128), 25), (25, .inr (.goto 32), 28), (28, .inr (.aload 0), 29), (29, .inr (.invokevirtual 122), 32), (32, .inr (.istore 2), 33), (33, .inr (.iload 2), 34), (34, .inr (.ifCond .ne 57), 37), (37, .inr (.iload 1), 38), (38, .inl (.int 2), 39), (39, .inr (.if_icmp .ne 57), 42), (42, .inr (.aload 0), 43), (43, .inr (.getfield 8), 46), (46, .inr (.getfield 653), 49), (49, .inr (.getfield 583), 52), (52, .inr (.ifCond .ne 57), 55), (55, .inl (.int 5), 56), (56, .inr (.istore 2), 57), (57, .inr (.iload 2), 58), (58, .inr (.ifCond .eq 67), 61), (61, .inr (.aload 0), 62), (62, .inr (.iload 2), 63), (63, .inr (.invokevirtual 18), 66), (66, .inr .ireturn, 67), (67, .inr (.aload 0), 68), (68, .inr (.aload 0), 69), (69, .inr (.getfield 8), 72), (72, .inr (.iload 1), 73), (73, .inr (.invokevirtual 141), 76), (76, .inr (.invokevirtual 80), 79), (79, .inr .ireturn, 80)]
/-- MaskBench$Camera.figure(I)I -/
def c_141 : List (Nat × pm_I × Nat) := [(0, .inr (.iload 1), 1), (1, .inr (.tableswitch 106 0 6 #[44, 60, 65, 74, 91, 96, 101]), 44), (44, .inr (.aload 0), 45), (45, .inr (.getfield 642), 48), (48, .inl (.int 0), 49), (49, .inr (.aload 0), 50), (50, .inr (.getfield 653), 53), (53, .inr (.getfield 582), 56), (56, .inr (.invokestatic 72), 59), (59, .inr .ireturn, 60), (60, .inr (.aload 0), 61), (61, .inr (.invokevirtual 135), 64), (64, .inr .ireturn, 65), (65, .inr (.aload 0), 66), (66, .inr (.aload 0), 67), (67, .inr (.invokevirtual 135), 70), (70, .inr (.invokevirtual 137), 73), (73, .inr .ireturn, 74), (74, .inr (.aload 0), 75), (75, .inr (.invokevirtual 131), 78), (78, .inr (.aload 0), 79), (79, .inr (.aload 0), 80), (80, .inr (.getfield 644), 83), (83, .inr (.aload 0), 84), (84, .inr (.invokevirtual 135), 87), (87, .inr (.invokevirtual 142), 90), (90, .inr .ireturn, 91), (91, .inr (.aload 0), 92), (92, .inr (.getfield 652), 95), (95, .inr .ireturn, 96), (96, .inr (.aload 0), 97), (97, .inr (.invokevirtual 144), 100), (100, .inr .ireturn, 101), (101, .inr (.aload 0), 102), (102, .inr (.invokevirtual 145), 105), (105, .inr .ireturn, 106), (106, .inr (.aload 0), 107), (107, .inr (.getfield 641), 110), (110, .inl (.int 0), 111), (111, .inr (.aload 0), 112), (112, .inr (.getfield 653), 115), (115, .inr (.getfield 582), 118), (118, .inr (.invokestatic 72), 121), (121, .inr (.aload 0), 122), (122, .inr (.getfield 642), 125), (125, .inl (.int 0), 126), (126, .inr (.aload 0), 127), (127, .inr (.getfield 653), 130), (130, .inr (.getfield 582), 133), (133, .inr (.invokestatic 72), 136), (136, .inr .isub, 137), (137, .inr .ireturn, 138)]
/-- MaskBench$Camera.errorOf([II)I -/
def c_142 : List (Nat × pm_I × Nat) := [(0, .inr (.aload 0), 1), (1, .inr (.iload 2), 2), (2, .inr (.invokevirtual 136), 5), (5, .inr (.istore 3), 6), (6, .inl (.int 0), 7), (7, .inr (.istore 4), 9), (9, .inl (.int 0), 10), (10, .inr (.istore 5), 12), (12, .inr (.iload 5), 14), (14, .inr (.aload 0), 15), (15, .inr (.getfield 653), 18), (18, .inr (.getfield 582), 21), (21, .inr (.if_icmp .ge 55), 24), (24, .inr (.iload 4), 26), (26, .inr (.aload 0), 27), (27, .inr (.aload 1), 28), (28, .inr (.iload 5), 30), (30, .inr .iaload, 31), (31, .inr (.iload 3), 32), (32, .inr (.invokevirtual 139), 35), (35, .inr (.aload 0), 36), (36, .inr (.getfield 643), 39), (39, .inr (.iload 5), 41), (41, .inr .iaload, 42), (42, .inr .isub, 43), (43, .inr (.invokestatic 143), 46), (46, .inr .iadd, 47), (47, .inr (.istore 4), 49), (49, .inr (.iinc 5 1), 52), (52, .inr (.goto 12), 55), (55, .inr (.iload 4), 57), (57, .inr .ireturn, 58)]
/-- java/lang/Math.abs(I)I -/
def c_143 : List (Nat × pm_I × Nat) := [(0, .inr (.iload 0), 1), (1, .inr (.ifCond .ge 9), 4), (4, .inr (.iload 0), 5), (5, .inr .ineg, 6), (6, .inr (.goto 10), 9), (9, .inr (.iload 0), 10), (10, .inr .ireturn, 11)]
/-- MaskBench$Camera.movedPlaces()I -/
def c_144 : List (Nat × pm_I × Nat) := [(0, .inr (.aload 0), 1), (1, .inr (.invokevirtual 134), 4), (4, .inl (.int 0), 5), (5, .inr (.istore 1), 6), (6, .inl (.int 0), 7), (7, .inr (.istore 2), 8), (8, .inr (.iload 2), 9), (9, .inr (.aload 0), 10), (10, .inr (.getfield 653), 13), (13, .inr (.getfield 582), 16), (16, .inr (.if_icmp .ge 42), 19), (19, .inr (.iload 1), 20), (20, .inr (.aload 0), 21), (21, .inr (.getfield 645), 24), (24, .inr (.iload 2), 25), (25, .inr .iaload, 26), (26, .inr (.ifCond .eq 33), 29), (29, .inl (.int 1), 30), (30, .inr (.goto 34), 33), (33, .inl (.int 0), 34), (34, .inr .iadd, 35), (35, .inr (.istore 1), 36), (36, .inr (.iinc 2 1), 39), (39, .inr (.goto 8), 42), (42, .inr (.iload 1), 43), (43, .inr .ireturn, 44)]
/-- MaskBench$Camera.farthestMoved()I -/
def c_145 : List (Nat × pm_I × Nat) := [(0, .inr (.aload 0), 1), (1, .inr (.invokevirtual 134), 4), (4, .inl (.int 0), 5), (5, .inr (.istore 1), 6), (6, .inl (.int 0), 7), (7, .inr (.istore 2), 8), (8, .inr (.iload 2), 9), (9, .inr (.aload 0), 10), (10, .inr (.getfield 653), 13), (13, .inr (.getfield 582), 16), (16, .inr (.if_icmp .ge 39), 19), (19, .inr (.iload 1), 20), (20, .inr (.aload 0), 21), (21, .inr (.getfield 645), 24), (24, .inr (.iload 2), 25), (25, .inr .iaload, 26), (26, .inr (.invokestatic 143), 29), (29, .inr (.invokestatic 3), 32), (32, .inr (.istore 1), 33), (33, .inr (.iinc 2 1), 36), (36, .inr (.goto 8), 39), (39, .inr (.iload 1), 40), (40, .inr .ireturn, 41)]
/-- MaskBench.peak(I)I -/
def c_146 : List (Nat × pm_I × Nat) := [(0, .inr (.iload 1), 1), (1, .inr (.ifCond .lt 9), 4), (4, .inr (.iload 1), 5), (5, .inl (.int 3), 6), (6, .inr (.if_icmp .le 15), 9), (9, .inr (.aload 0), 10), (10, .inl (.int 1), 11), (11, .inr (.invokevirtual 18), 14), (14, .inr .ireturn, 15), (15, .inr (.aload 0), 16), (16, .inr (.invokevirtual 122), 19), (19, .inr (.istore 2), 20), (20, .inr (.iload 2), 21), (21, .inr (.ifCond .eq 30), 24), (24, .inr (.aload 0), 25), (25, .inr (.iload 2), 26), (26, .inr (.invokevirtual 18), 29), (29, .inr .ireturn, 30), (30, .inr (.aload 0), 31), (31, .inr (.getfield 8), 34), (34, .inr (.invokevirtual 131), 37), (37, .inr (.iload 1), 38), (38, .inl (.int 3), 39), (39, .inr (.if_icmp .ne 61), 42), (42, .inr (.aload 0), 43), (43, .inr (.aload 0), 44), (44, .inr (.getfield 8), 47), (47, .inr (.aload 0), 48), (48, .inr (.getfield 8), 51), (51, .inr (.getfield 644), 54), (54, .inr (.invokevirtual 147), 57), (57, .inr (.invokevirtual 80), 60), (60, .inr .ireturn, 61), (61, .inr (.aload 0), 62), (62, .inr (.aload 0), 63), (63, .inr (.getfield 8), 66), (66, .inr (.aload 0), 67), (67, .inr (.getfield 8), 70), (70, .inr (.getfield 644), 73), (73, .inr (.iload 1), 74), (74, .inr (.invokevirtual 149), 77), (77, .inr (.invokevirtual 80), 80), (80, .inr .ireturn, 81)]
/-- MaskBench$Camera.timesGreatest([I)I -/
def c_147 : List (Nat × pm_I × Nat) := [(0, .inr (.aload 1), 1), (1, .inr (.aload 0), 2), (2, .inr (.aload 1), 3), (3, .inr (.invokevirtual 148), 6), (6, .inr .iaload, 7), (7, .inr (.istore 2), 8), (8, .inl (.int 0), 9), (9, .inr (.istore 3), 10), (10, .inl (.int 0), 11), (11, .inr (.istore 4), 13), (13, .inr (.iload 4), 15), (15, .inr (.aload 0), 16), (16, .inr (.getfield 653), 19), (19, .inr (.getfield 582), 22), (22, .inr (.if_icmp .ge 47), 25), (25, .inr (.iload 3), 26), (26, .inr (.aload 1), 27), (27, .inr (.iload 4), 29), (29, .inr .iaload, 30), (30, .inr (.iload 2), 31), (31, .inr (.if_icmp .ne 38), 34), (34, .inl (.int 1), 35), (35, .inr (.goto 39), 38), (38, .inl (.int 0), 39), (39, .inr .iadd, 40), (40, .inr (.istore 3), 41), (41, .inr (.iinc 4 1), 44), (44, .inr (.goto 13), 47), (47, .inr (.iload 3), 48), (48, .inr .ireturn, 49)]
/-- MaskBench$Camera.placeOfGreatest([I)I -/
def c_148 : List (Nat × pm_I × Nat) := [(0, .inl (.int 0), 1), (1, .inr (.istore 2), 2), (2, .inl (.int 1), 3), (3, .inr (.istore 3), 4), (4, .inr (.iload 3), 5), (5, .inr (.aload 0), 6), (6, .inr (.getfield 653), 9), (9, .inr (.getfield 582), 12), (12, .inr (.if_icmp .ge 32), 15), (15, .inr (.aload 1), 16), (16, .inr (.iload 3), 17), (17, .inr .iaload, 18), (18, .inr (.aload 1), 19), (19, .inr (.iload 2), 20), (20, .inr .iaload, 21), (21, .inr (.if_icmp .le 26), 24), (24, .inr (.iload 3), 25), (25, .inr (.istore 2), 26), (26, .inr (.iinc 3 1), 29), (29, .inr (.goto 4), 32), (32, .inr (.iload 2), 33), (33, .inr .ireturn, 34)]
/-- MaskBench$Camera.figureOfGreatest([II)I -/
def c_149 : List (Nat × pm_I × Nat) := [(0, .inr (.aload 0), 1), (1, .inr (.aload 1), 2), (2, .inr (.invokevirtual 148), 5), (5, .inr (.istore 3), 6), (6, .inr (.iload 2), 7), (7, .inl (.int 2), 8), (8, .inr (.if_icmp .ne 17), 11), (11, .inr (.aload 1), 12), (12, .inr (.iload 3), 13), (13, .inr .iaload, 14), (14, .inr (.goto 26), 17), (17, .inr (.aload 0), 18), (18, .inr (.getfield 653), 21), (21, .inr (.iload 3), 22), (22, .inr (.iload 2), 23), (23, .inr (.invokevirtual 150), 26), (26, .inr .ireturn, 27)]
/-- MaskBench$Plate.xOrY(II)I -/
def c_150 : List (Nat × pm_I × Nat) := [(0, .inr (.iload 2), 1), (1, .inr (.ifCond .ne 12), 4), (4, .inr (.aload 0), 5), (5, .inr (.iload 1), 6), (6, .inr (.invokevirtual 69), 9), (9, .inr (.goto 17), 12), (12, .inr (.aload 0), 13), (13, .inr (.iload 1), 14), (14, .inr (.invokevirtual 70), 17), (17, .inr .ireturn, 18)]
/-- MaskBench.found(II)I -/
def c_151 : List (Nat × pm_I × Nat) := [(0, .inr (.iload 1), 1), (1, .inl (.int (-1)), 2), (2, .inr (.if_icmp .lt 23), 5), (5, .inr (.iload 2), 6), (6, .inr (.ifCond .lt 23), 9), (9, .inr (.iload 2), 10), (10, .inl (.int 2), 11), (11, .inr (.if_icmp .gt 23), 14), (14, .inr (.iload 1), 15), (15, .inl (.int (-1)), 16), (16, .inr (.if_icmp .ne 29), 19), (19, .inr (.iload 2), 20), (20, .inr (.ifCond .eq 29), 23), (23, .inr (.aload 0), 24), (24, .inl (.int 1), 25), (25, .inr (.invokevirtual 18), 28), (28, .inr .ireturn, 29), (29, .inr (.aload 0), 30), (30, .inr (.invokevirtual 128), 33), (33, .inr (.istore 3), 34), (34, .inr (.iload 3), 35), (35, .inr (.ifCond .eq 44), 38), (38, .inr (.aload 0), 39), (39, .inr (.iload 3), 40), (40, .inr (.invokevirtual 18), 43), (43, .inr .ireturn, 44), (44, .inr (.aload 0), 45), (45, .inr (.getfield 8), 48), (48, .inr (.invokevirtual 152), 51), (51, .inr (.iload 1), 52), (52, .inl (.int (-1)), 53), (53, .inr (.if_icmp .ne 68), 56), (56, .inr (.aload 0), 57), (57, .inr (.aload 0), 58), (58, .inr (.getfield 8), 61), (61, .inr (.getfield 649), 64), (64, .inr (.invokevirtual 80), 67), (67, .inr .ireturn, 68), (68, .inr (.iload 1), 69), (69, .inr (.aload 0), 70), (70, .inr (.getfield 8), 73), (73, .inr (.getfield 649), 76), (76, .inr (.if_icmp .lt 85), 79), (79, .inr (.aload 0), 80), (80, .inl (.int 5), 81), (81, .inr (.invokevirtual 18), 84), (84, .inr .ireturn, 85), (85, .inr (.iload 2), 86), (86, .inl (.int 2), 87), (87, .inr (.if_icmp .ne 104), 90), (90, .inr (.aload 0), 91), (91, .inr (.aload 0), 92), (92, .inr (.getfield 8), 95), (95, .inr (.getfield 648), 98), (98, .inr (.iload 1), 99), (99, .inr .iaload, 100), (100, .inr (.invokevirtual 80), 103), (103, .inr .ireturn, 104), (104, .inr (.aload 0), 105), (105, .inr (.aload 0), 106), (106, .inr (.getfield 8), 109), (109, .inr (.getfield 653), 112), (112, .inr (.aload 0), 113), (113, .inr (.getfield 8), 116), (116, .inr (.getfield 647), 119), (119, .inr (.iload 1), 120), (120, .inr .iaload, 121), (121, .inr (.iload 2), 122), (122, .inr (.invokevirtual 150), 125), (125, .inr (.invokevirtual 80), 128), (128, .inr .ireturn, 129)]
/-- MaskBench$Camera.seekSources()V -/
def c_152 : List (Nat × pm_I × Nat) := [(0, .inr (.aload 0), 1), (1, .inr (.getfield 657), 4), (4, .inr (.ifCond .eq 8), 7), (7, .inr .return_, 8), (8, .inr (.aload 0), 9), (9, .inl (.int 1), 10), (10, .inr (.putfield 657), 13), (13, .inr (.aload 0), 14), (14, .inl (.int 0), 15), (15, .inr (.putfield 649), 18), (18, .inr (.aload 0), 19), (19, .inr (.invokevirtual 131), 22), (22, .inr (.aload 0), 23), (23, .inr (.getfield 644), 26), (26, .inl (.int 0), 27), (27, .inr (.aload 0), 28), (28, .inr (.getfield 645), 31), (31, .inl (.int 0), 32), (32, .inr (.aload 0), 33), (33, .inr (.getfield 653), 36), (36, .inr (.getfield 582), 39), (39, .inr (.invokestatic 9000), 42), (42, .inr (.aload 0), 43), (43, .inr (.invokevirtual 135), 46), (46, .inr (.istore 1), 47), (47, .inl (.int 0), 48), (48, .inr (.istore 2), 49), (49, .inr (.iload 2), 50), (50, .inl (.int 8), 52), (52, .inr (.if_icmp .ge 128), 55), (55, .inr (.aload 0), 56), (56, .inr (.aload 0), 57), (57, .inr (.getfield 645), 60), (60, .inr (.invokevirtual 148), 63), (63, .inr (.istore 3), 64), (64, .inr (.aload 0), 65), (65, .inr (.aload 0), 66), (66, .inr (.getfield 645), 69), (69, .inr (.iload 3), 70), (70, .inr .iaload, 71), (71, .inr (.aload 0), 72), (72, .inr (.iload 1), 73), (73, .inr (.invokevirtual 136), 76), (76, .inr (.invokevirtual 139), 79), (79, .inr (.istore 4), 81), (81, .inr (.iload 4), 83), (83, .inr (.ifCond .gt 87), 86), (86, .inr .return_, 87), (87, .inr (.aload 0), 88), (88, .inr (.getfield 647), 91), (91, .inr (.iload 2), 92), (92, .inr (.iload 3), 93), (93, .inr .iastore, 94), (94, .inr (.aload 0), 95), (95, .inr (.getfield 648), 98), (98, .inr (.iload 2), 99), (99, .inr (.iload 4), 101), (101, .inr .iastore, 102), (102, .inr (.aload 0), 103), (103, .inr (.iload 2), 104), (104, .inl (.int 1), 105), (105, .inr .iadd, 106), (106, .inr (.putfield 649), 109), (109, .inr (.iload 1), 110), (110, .inr (.iload 4), 112), (112, .inr (.aload 0), 113), (113, .inr (.iload 3), 114), (114, .inr (.iload 4), 116), (116, .inr (.invokevirtual 153), 119), (119, .inr .imul, 120), (120, .inr .isub, 121), (121, .inr (.istore 1), 122), (122, .inr (.iinc 2 1), 125), (125, .inr (.goto 49), 128), (128, .inr .return_, 129)]
/-- MaskBench$Camera.takeFromMade(II)I -/
def c_153 : List (Nat × pm_I × Nat) := [(0, .inr (.aload 0), 1), (1, .inr (.getfield 653), 4), (4, .inr (.getfield 583), 7), (7, .inr (.istore 3), 8), (8, .inr (.aload 0), 9), (9, .inr (.getfield 653), 12), (12, .inr (.aload 0), 13), (13, .inr (.getfield 645), 16), (16, .inr (.aload 0), 17), (17, .inr (.getfield 653), 20), (20, .inr (.getfield 578), 23), (23, .inr (.iload 1), 24), (24, .inr (.iload 2), 25), (25, .inr .ineg, 26), (26, .inr (.invokevirtual 133), 29), (29, .inl (.int 0), 30), (30, .inr (.istore 4), 32), (32, .inr (.iload 4), 34), (34, .inr (.aload 0), 35), (35, .inr (.getfield 653), 38), (38, .inr (.getfield 582), 41), (41, .inr (.if_icmp .ge 96), 44), (44, .inr (.aload 0), 45), (45, .inr (.getfield 640), 48), (48, .inr (.iload 4), 50), (50, .inr .iaload, 51), (51, .inl (.int 1), 52), (52, .inr (.if_icmp .ne 90), 55), (55, .inr (.aload 0), 56), (56, .inr (.iload 1), 57), (57, .inr (.iload 4), 59), (59, .inr (.invokevirtual 154), 62), (62, .inl (.int 1), 63), (63, .inr (.if_icmp .ne 90), 66), (66, .inr (.aload 0), 67), (67, .inr (.getfield 653), 70), (70, .inr (.aload 0), 71), (71, .inr (.getfield 645), 74), (74, .inr (.aload 0), 75), (75, .inr (.getfield 653), 78), (78, .inr (.getfield 577), 81), (81, .inr (.iload 4), 83), (83, .inr (.iload 2), 84), (84, .inr (.invokevirtual 133), 87), (87, .inr (.iinc 3 (-1)), 90), (90, .inr (.iinc 4 1), 93), (93, .inr (.goto 32), 96), (96, .inr (.iload 3), 97), (97, .inr .ireturn, 98)]
/-- MaskBench$Camera.throwsOn(II)I -/
def c_154 : List (Nat × pm_I × Nat) := [(0, .inr (.aload 0), 1), (1, .inr (.getfield 653), 4), (4, .inr (.iload 2), 5), (5, .inr (.invokevirtual 69), 8), (8, .inr (.aload 0), 9), (9, .inr (.getfield 653), 12), (12, .inr (.iload 1), 13), (13, .inr (.invokevirtual 69), 16), (16, .inr .isub, 17), (17, .inr (.istore 3), 18), (18, .inr (.aload 0), 19), (19, .inr (.getfield 653), 22), (22, .inr (.iload 2), 23), (23, .inr (.invokevirtual 70), 26), (26, .inr (.aload 0), 27), (27, .inr (.getfield 653), 30), (30, .inr (.iload 1), 31), (31, .inr (.invokevirtual 70), 34), (34, .inr .isub, 35), (35, .inr (.istore 4), 37), (37, .inr (.aload 0), 38), (38, .inr (.getfield 653), 41), (41, .inr (.getfield 576), 44), (44, .inr (.aload 0), 45), (45, .inr (.getfield 653), 48), (48, .inr (.iload 3), 49), (49, .inr (.iload 4), 51), (51, .inr (.invokevirtual 93), 54), (54, .inr .iaload, 55), (55, .inr .ireturn, 56)]
/-- MaskBench.frames(IIII)I -/
def c_155 : List (Nat × pm_I × Nat) := [(0, .inr (.iload 1), 1), (1, .inl (.int 1), 2), (2, .inr (.if_icmp .lt 22), 5), (5, .inr (.iload 1), 6), (6, .inl (.int 20), 8), (8, .inr (.if_icmp .gt 22), 11), (11, .inr (.iload 2), 12), (12, .inl (.int 1), 13), (13, .inr (.if_icmp .lt 22), 16), (16, .inr (.iload 2), 17), (17, .inl (.int 99), 19), (19, .inr (.if_icmp .le 28), 22), (22, .inr (.aload 0), 23), (23, .inl (.int 1), 24), (24, .inr (.invokevirtual 18), 27), (27, .inr .ireturn, 28), (28, .inr (.aload 0), 29), (29, .inr (.iload 3), 30), (30, .inr (.iload 4), 32), (32, .inr (.invokevirtual 121), 35), (35, .inr (.istore 5), 37), (37, .inr (.iload 5), 39), (39, .inr (.ifCond .eq 49), 42), (42, .inr (.aload 0), 43), (43, .inr (.iload 5), 45), (45, .inr (.invokevirtual 18), 48), (48, .inr .ireturn, 49), (49, .inl (.int 0), 50), (50, .inr (.istore 6), 52), (52, .inl (.int 0), 53), (53, .inr (.istore 7), 55), (55, .inr (.iload 7), 57), (57, .inr (.iload 1), 58), (58, .inr (.if_icmp .ge 86), 61), (61, .inr (.iload 6), 63), (63, .inr (.aload 0), 64), (64, .inr (.getfield 8), 67), (67, .inr (.iload 7), 69), (69, .inr (.iload 2), 70), (70, .inr .imul, 71), (71, .inr (.iload 3), 72), (72, .inr (.iload 4), 74), (74, .inr (.invokevirtual 156), 77), (77, .inr .iadd, 78), (78, .inr (.istore 6), 80), (80, .inr (.iinc 7 1), 83), (83, .inr (.goto 55), 86), (86, .inr (.aload 0), 87), (87, .inr (.iload 6), 89), (89, .inr (.invokevirtual 80), 92), (92, .inr .ireturn, 93)]
/-- MaskBench$Camera.frameAt(III)I -/
def c_156 : List (Nat × pm_I × Nat) := [(0, .inr (.aload 0), 1), (1, .inr (.aload 0), 2), (2, .inr (.getfield 645), 5), (5, .inr (.iload 1), 6), (6, .inr (.invokevirtual 127), 9), (9, .inr (.aload 0), 10), (10, .inr (.aload 0), 11), (11, .inr (.getfield 645), 14), (14, .inr (.invokevirtual 157), 17), (17, .inr (.aload 0), 18), (18, .inr (.getfield 653), 21), (21, .inr (.aload 0), 22), (22, .inr (.getfield 645), 25), (25, .inr (.iload 2), 26), (26, .inr (.iload 1), 27), (27, .inr .iadd, 28), (28, .inr (.iload 3), 29), (29, .inr (.invokevirtual 158), 32), (32, .inr .ireturn, 33)]
/-- MaskBench$Camera.clearLost([I)V -/
def c_157 : List (Nat × pm_I × Nat) := [(0, .inl (.int 0), 1), (1, .inr (.istore 2), 2), (2, .inr (.iload 2), 3), (3, .inr (.aload 0), 4), (4, .inr (.getfield 653), 7), (7, .inr (.getfield 582), 10), (10, .inr (.if_icmp .ge 33), 13), (13, .inr (.aload 0), 14), (14, .inr (.getfield 640), 17), (17, .inr (.iload 2), 18), (18, .inr .iaload, 19), (19, .inl (.int 1), 20), (20, .inr (.if_icmp .ne 27), 23), (23, .inr (.aload 1), 24), (24, .inr (.iload 2), 25), (25, .inl (.int 0), 26), (26, .inr .iastore, 27), (27, .inr (.iinc 2 1), 30), (30, .inr (.goto 2), 33), (33, .inr .return_, 34)]
/-- MaskBench$Plate.weighed([III)I -/
def c_158 : List (Nat × pm_I × Nat) := [(0, .inl (.int 0), 1), (1, .inr (.istore 4), 3), (3, .inl (.int 0), 4), (4, .inr (.istore 5), 6), (6, .inr (.iload 5), 8), (8, .inr (.aload 0), 9), (9, .inr (.getfield 582), 12), (12, .inr (.if_icmp .ge 63), 15), (15, .inr (.aload 1), 16), (16, .inr (.iload 5), 18), (18, .inr .iaload, 19), (19, .inr (.ifCond .eq 57), 22), (22, .inr (.iload 4), 24), (24, .inr (.aload 1), 25), (25, .inr (.iload 5), 27), (27, .inr .iaload, 28), (28, .inr (.aload 0), 29), (29, .inr (.getfield 577), 32), (32, .inr (.aload 0), 33), (33, .inr (.aload 0), 34), (34, .inr (.iload 5), 36), (36, .inr (.invokevirtual 69), 39), (39, .inr (.iload 2), 40), (40, .inr .isub, 41), (41, .inr (.aload 0), 42), (42, .inr (.iload 5), 44), (44, .inr (.invokevirtual 70), 47), (47, .inr (.iload 3), 48), (48, .inr .isub, 49), (49, .inr (.invokevirtual 93), 52), (52, .inr .iaload, 53), (53, .inr .imul, 54), (54, .inr .iadd, 55), (55, .inr (.istore 4), 57), (57, .inr (.iinc 5 1), 60), (60, .inr (.goto 6), 63), (63, .inr (.iload 4), 65), (65, .inr .ireturn, 66)]
/-- MaskBench.filled(I)I -/
def c_159 : List (Nat × pm_I × Nat) := [(0, .inr (.iload 1), 1), (1, .inr (.ifCond .lt 9), 4), (4, .inr (.iload 1), 5), (5, .inl (.int 1), 6), (6, .inr (.if_icmp .le 15), 9), (9, .inr (.aload 0), 10), (10, .inl (.int 1), 11), (11, .inr (.invokevirtual 18), 14), (14, .inr .ireturn, 15), (15, .inr (.aload 0), 16), (16, .inr (.invokevirtual 128), 19), (19, .inr (.istore 2), 20), (20, .inr (.iload 2), 21), (21, .inr (.ifCond .eq 30), 24), (24, .inr (.aload 0), 25), (25, .inr (.iload 2), 26), (26, .inr (.invokevirtual 18), 29), (29, .inr .ireturn, 30), (30, .inr (.aload 0), 31), (31, .inr (.getfield 8), 34), (34, .inr (.invokevirtual 160), 37), (37, .inr (.aload 0), 38), (38, .inr (.iload 1), 39), (39, .inr (.ifCond .ne 52), 42), (42, .inr (.aload 0), 43), (43, .inr (.getfield 8), 46), (46, .inr (.invokevirtual 162), 49), (49, .inr (.goto 59), 52), (52, .inr (.aload 0), 53), (53, .inr (.getfield 8), 56), (56, .inr (.invokevirtual 163), 59), (59, .inr (.invokevirtual 80), 62), (62, .inr .ireturn, 63)]
/-- MaskBench$Camera.fillLost()V -/
def c_160 : List (Nat × pm_I × Nat) := [(0, .inr (.aload 0), 1), (1, .inr (.invokevirtual 152), 4), (4, .inl (.int 0), 5), (5, .inr (.istore 1), 6), (6, .inr (.iload 1), 7), (7, .inr (.aload 0), 8), (8, .inr (.getfield 653), 11), (11, .inr (.getfield 582), 14), (14, .inr (.if_icmp .ge 61), 17), (17, .inr (.aload 0), 18), (18, .inr (.getfield 646), 21), (21, .inr (.iload 1), 22), (22, .inr (.aload 0), 23), (23, .inr (.getfield 640), 26), (26, .inr (.iload 1), 27), (27, .inr .iaload, 28), (28, .inl (.int 1), 29), (29, .inr (.if_icmp .ne 48), 32), (32, .inr (.aload 0), 33), (33, .inr (.getfield 654), 36), (36, .inr (.getfield 323), 39), (39, .inr (.aload 0), 40), (40, .inr (.iload 1), 41), (41, .inr (.invokevirtual 161), 44), (44, .inr .iadd, 45), (45, .inr (.goto 54), 48), (48, .inr (.aload 0), 49), (49, .inr (.getfield 642), 52), (52, .inr (.iload 1), 53), (53, .inr .iaload, 54), (54, .inr .iastore, 55), (55, .inr (.iinc 1 1), 58), (58, .inr (.goto 6), 61), (61, .inr .return_, 62)]
/-- MaskBench$Camera.thrownByFound(I)I -/
def c_161 : List (Nat × pm_I × Nat) := [(0, .inl (.int 0), 1), (1, .inr (.istore 2), 2), (2, .inl (.int 0), 3), (3, .inr (.istore 3), 4), (4, .inr (.iload 3), 5), (5, .inr (.aload 0), 6), (6, .inr (.getfield 649), 9), (9, .inr (.if_icmp .ge 39), 12), (12, .inr (.iload 2), 13), (13, .inr (.aload 0), 14), (14, .inr (.getfield 648), 17), (17, .inr (.iload 3), 18), (18, .inr .iaload, 19), (19, .inr (.aload 0), 20), (20, .inr (.aload 0), 21), (21, .inr (.getfield 647), 24), (24, .inr (.iload 3), 25), (25, .inr .iaload, 26), (26, .inr (.iload 1), 27), (27, .inr (.invokevirtual 154), 30), (30, .inr .imul, 31), (31, .inr .iadd, 32), (32, .inr (.istore 2), 33), (33, .inr (.iinc 3 1), 36), (36, .inr (.goto 4), 39), (39, .inr (.iload 2), 40), (40, .inr .ireturn, 41)]
/-- MaskBench$Camera.errorFilled()I -/
def c_162 : List (Nat × pm_I × Nat) := [(0, .inr (.aload 0), 1), (1, .inr (.getfield 653), 4), (4, .inr (.aload 0), 5), (5, .inr (.getfield 646), 8), (8, .inr (.aload 0), 9), (9, .inr (.getfield 645), 12), (12, .inr (.invokevirtual 132), 15), (15, .inr (.aload 0), 16), (16, .inr (.aload 0), 17), (17, .inr (.getfield 645), 20), (20, .inr (.aload 0), 21), (21, .inr (.getfield 646), 24), (24, .inl (.int 0), 25), (25, .inr (.aload 0), 26), (26, .inr (.getfield 653), 29), (29, .inr (.getfield 582), 32), (32, .inr (.invokestatic 72), 35), (35, .inr (.aload 0), 36), (36, .inr (.getfield 654), 39), (39, .inr (.getfield 323), 42), (42, .inr (.aload 0), 43), (43, .inr (.getfield 653), 46), (46, .inr (.getfield 582), 49), (49, .inr .imul, 50), (50, .inr .isub, 51), (51, .inr (.invokevirtual 142), 54), (54, .inr .ireturn, 55)]
/-- MaskBench$Camera.farthestFilled()I -/
def c_163 : List (Nat × pm_I × Nat) := [(0, .inl (.int 0), 1), (1, .inr (.istore 1), 2), (2, .inl (.int 0), 3), (3, .inr (.istore 2), 4), (4, .inr (.iload 2), 5), (5, .inr (.aload 0), 6), (6, .inr (.getfield 653), 9), (9, .inr (.getfield 582), 12), (12, .inr (.if_icmp .ge 52), 15), (15, .inr (.aload 0), 16), (16, .inr (.getfield 640), 19), (19, .inr (.iload 2), 20), (20, .inr .iaload, 21), (21, .inl (.int 1), 22), (22, .inr (.if_icmp .ne 46), 25), (25, .inr (.iload 1), 26), (26, .inr (.aload 0), 27), (27, .inr (.getfield 646), 30), (30, .inr (.iload 2), 31), (31, .inr .iaload, 32), (32, .inr (.aload 0), 33), (33, .inr (.getfield 641), 36), (36, .inr (.iload 2), 37), (37, .inr .iaload, 38), (38, .inr .isub, 39), (39, .inr (.invokestatic 143), 42), (42, .inr (.invokestatic 3), 45), (45, .inr (.istore 1), 46), (46, .inr (.iinc 2 1), 49), (49, .inr (.goto 4), 52), (52, .inr (.iload 1), 53), (53, .inr .ireturn, 54)]
/-- MaskBench.coarse(II)I -/
def c_164 : List (Nat × pm_I × Nat) := [(0, .inr (.iload 1), 1), (1, .inl (.int 2), 2), (2, .inr (.if_icmp .lt 9), 5), (5, .inr (.iload 2), 6), (6, .inr (.ifCond .ge 15), 9), (9, .inr (.aload 0), 10), (10, .inl (.int 1), 11), (11, .inr (.invokevirtual 18), 14), (14, .inr .ireturn, 15), (15, .inr (.aload 0), 16), (16, .inr (.invokevirtual 122), 19), (19, .inr (.istore 3), 20), (20, .inr (.iload 3), 21), (21, .inr (.ifCond .eq 30), 24), (24, .inr (.aload 0), 25), (25, .inr (.iload 3), 26), (26, .inr (.invokevirtual 18), 29), (29, .inr .ireturn, 30), (30, .inr (.aload 0), 31), (31, .inr (.getfield 8), 34), (34, .inr (.getfield 653), 37), (37, .inr (.getfield 580), 40), (40, .inr (.iload 1), 41), (41, .inr .irem, 42), (42, .inr (.ifCond .ne 61), 45), (45, .inr (.iload 2), 46), (46, .inr (.aload 0), 47), (47, .inr (.getfield 8), 50), (50, .inr (.getfield 653), 53), (53, .inr (.getfield 582), 56), (56, .inr (.iload 1), 57), (57, .inr .idiv, 58), (58, .inr (.if_icmp .lt 67), 61), (61, .inr (.aload 0), 62), (62, .inl (.int 5), 63), (63, .inr (.invokevirtual 18), 66), (66, .inr .ireturn, 67), (67, .inr (.aload 0), 68), (68, .inr (.aload 0), 69), (69, .inr (.getfield 8), 72), (72, .inr (.getfield 642), 75), (75, .inr (.iload 2), 76), (76, .inr (.iload 1), 77), (77, .inr .imul, 78), (78, .inr (.iload 1), 79), (79, .inr (.invokestatic 72), 82), (82, .inr (.invokevirtual 80), 85), (85, .inr .ireturn, 86)]
/-- MaskBench.anti(II)I -/
def c_165 : List (Nat × pm_I × Nat) := [(0, .inr (.aload 0), 1), (1, .inr (.iload 1), 2), (2, .inr (.iload 2), 3), (3, .inr (.invokevirtual 121), 6), (6, .inr (.istore 3), 7), (7, .inr (.iload 3), 8), (8, .inr (.ifCond .ne 27), 11), (11, .inr (.aload 0), 12), (12, .inr (.aload 0), 13), (13, .inr (.getfield 8), 16), (16, .inr (.iload 1), 17), (17, .inr (.iload 2), 18), (18, .inr (.invokevirtual 166), 21), (21, .inr (.invokevirtual 80), 24), (24, .inr (.goto 32), 27), (27, .inr (.aload 0), 28), (28, .inr (.iload 3), 29), (29, .inr (.invokevirtual 18), 32), (32, .inr .ireturn, 33)]
/-- MaskBench$Camera.antiAt(II)I -/
def c_166 : List (Nat × pm_I × Nat) := [(0, .inr (.aload 0), 1), (1, .inr (.getfield 645), 4), (4, .inl (.int 0), 5), (5, .inr (.aload 0), 6), (6, .inr (.getfield 653), 9), (9, .inr (.getfield 582), 12), (12, .inl (.int 0), 13), (13, .inr (.invokestatic 50), 16), (16, .inr (.aload 0), 17), (17, .inr (.getfield 654), 20), (20, .inr (.getfield 320), 23), (23, .inr (.astore 3), 24), (24, .inl (.int 0), 25), (25, .inr (.istore 4), 27), (27, .inr (.iload 4), 29), (29, .inr (.aload 3), 30), (30, .inr (.getfield 387), 33), (33, .inr (.if_icmp .ge 123), 36), (36, .inl (.int 0), 37), (37, .inr (.istore 5), 39), (39, .inr (.iload 5), 41), (41, .inr (.aload 0), 42), (42, .inr (.getfield 653), 45), (45, .inr (.getfield 582), 48), (48, .inr (.if_icmp .ge 74), 51), (51, .inr (.aload 0), 52), (52, .inr (.getfield 645), 55), (55, .inr (.iload 5), 57), (57, .inr .dup2, 58), (58, .inr .iaload, 59), (59, .inr (.aload 3), 60), (60, .inr (.getfield 386), 63), (63, .inr (.iload 4), 65), (65, .inr .iaload, 66), (66, .inr .isub, 67), (67, .inr .iastore, 68), (68, .inr (.iinc 5 1), 71), (71, .inr (.goto 39), 74), (74, .inr (.aload 0), 75), (75, .inr (.getfield 653), 78), (78, .inr (.aload 0), 79), (79, .inr (.getfield 645), 82), (82, .inr (.aload 0), 83), (83, .inr (.getfield 653), 86), (86, .inr (.getfield 576), 89), (89, .inr (.aload 3), 90), (90, .inr (.getfield 384), 93), (93, .inr (.iload 4), 95), (95, .inr .iaload, 96), (96, .inr .ineg, 97), (97, .inr (.aload 3), 98), (98, .inr (.getfield 385), 101), (101, .inr (.iload 4), 103), (103, .inr .iaload, 104), (104, .inr .ineg, 105), (105, .inl (.int 2), 106), (106, .inr (.aload 3), 107), (107, .inr (.getfield 386), 110), (110, .inr (.iload 4), 112), (112, .inr .iaload, 113), (113, .inr .imul, 114), (114, .inr (.invokevirtual 65), 117), (117, .inr (.iinc 4 1), 120), (120, .inr (.goto 27), 123), (123, .inr (.aload 0), 124), (124, .inr (.aload 0), 125), (125, .inr (.getfield 645), 128), (128, .inr (.invokevirtual 157), 131), (131, .inr (.aload 0), 132), (132, .inr (.getfield 653), 135), (135, .inr (.aload 0), 136), (136, .inr (.getfield 645), 139), (139, .inr (.iload 1), 140), (140, .inr (.iload 2), 141), (141, .inr (.invokevirtual 158), 144), (144, .inr .ireturn, 145)]
/-- MaskBench.keep()I -/
def c_167 : List (Nat × pm_I × Nat) := [(0, .inr (.aload 0), 1), (1, .inr (.invokevirtual 122), 4), (4, .inr (.istore 1), 5), (5, .inr (.iload 1), 6), (6, .inr (.ifCond .eq 15), 9), (9, .inr (.aload 0), 10), (10, .inr (.iload 1), 11), (11, .inr (.invokevirtual 18), 14), (14, .inr .ireturn, 15), (15, .inr (.aload 0), 16), (16, .inr (.getfield 4), 19), (19, .inr (.aload 0), 20), (20, .inr (.getfield 8), 23), (23, .inr (.invokevirtual 168), 26), (26, .inr (.aload 0), 27), (27, .inr (.aload 0), 28), (28, .inr (.getfield 8), 31), (31, .inr (.getfield 653), 34), (34, .inr (.getfield 582), 37), (37, .inr (.invokevirtual 80), 40), (40, .inr .ireturn, 41)]
/-- MaskBench$Picture.take(LMaskBench$Camera;)V -/
def c_168 : List (Nat × pm_I × Nat) := [(0, .inr (.aload 0), 1), (1, .inr (.aload 1), 2), (2, .inr (.getfield 653), 5), (5, .inr (.getfield 580), 8), (8, .inr (.putfield 449), 11), (11, .inr (.aload 0), 12), (12, .inr (.aload 1), 13), (13, .inr (.getfield 653), 16), (16, .inr (.getfield 581), 19), (19, .inr (.putfield 450), 22), (22, .inr (.aload 1), 23), (23, .inr (.getfield 642), 26), (26, .inl (.int 0), 27), (27, .inr (.aload 0), 28), (28, .inr (.getfield 448), 31), (31, .inl (.int 0), 32), (32, .inr (.aload 1), 33), (33, .inr (.getfield 653), 36), (36, .inr (.getfield 582), 39), (39, .inr (.invokestatic 9000), 42), (42, .inr .return_, 43)]
/-- MaskBench.match(I)J -/
def c_169 : List (Nat × pm_I × Nat) := [(0, .inr (.iload 1), 1), (1, .inr (.ifCond .lt 9), 4), (4, .inr (.iload 1), 5), (5, .inl (.int 2), 6), (6, .inr (.if_icmp .le 16), 9), (9, .inr (.aload 0), 10), (10, .inl (.int 1), 11), (11, .inr (.invokevirtual 18), 14), (14, .inr .i2l, 15), (15, .inr .lreturn, 16), (16, .inr (.aload 0), 17), (17, .inr (.invokevirtual 122), 20), (20, .inr (.istore 2), 21), (21, .inr (.iload 2), 22), (22, .inr (.ifCond .eq 32), 25), (25, .inr (.aload 0), 26), (26, .inr (.iload 2), 27), (27, .inr (.invokevirtual 18), 30), (30, .inr .i2l, 31), (31, .inr .lreturn, 32), (32, .inr (.aload 0), 33), (33, .inr (.getfield 4), 36), (36, .inr (.aload 0), 37), (37, .inr (.getfield 8), 40), (40, .inr (.getfield 653), 43), (43, .inr (.invokevirtual 170), 46), (46, .inr (.ifCond .ne 56), 49), (49, .inr (.aload 0), 50), (50, .inl (.int 5), 51), (51, .inr (.invokevirtual 18), 54), (54, .inr .i2l, 55), (55, .inr .lreturn, 56), (56, .inr (.aload 0), 57), (57, .inr (.getfield 4), 60), (60, .inr (.aload 0), 61), (61, .inr (.getfield 8), 64), (64, .inr (.invokevirtual 171), 67), (67, .inr (.aload 0), 68), (68, .inl (.int 0), 69), (69, .inr (.putfield 10), 72), (72, .inr (.iload 1), 73), (73, .inl (.int 2), 74), (74, .inr (.if_icmp .ne 87), 77), (77, .inr (.aload 0), 78), (78, .inr (.getfield 4), 81), (81, .inr (.getfield 452), 84), (84, .inr (.goto 106), 87), (87, .inr (.aload 0), 88), (88, .inr (.getfield 8), 91), (91, .inr (.getfield 653), 94), (94, .inr (.aload 0), 95), (95, .inr (.getfield 4), 98), (98, .inr (.getfield 451), 101), (101, .inr (.iload 1), 102), (102, .inr (.invokevirtual 150), 105), (105, .inr .i2l, 106), (106, .inr .lreturn, 107)]
/-- MaskBench$Picture.fits(LMaskBench$Plate;)Z -/
def c_170 : List (Nat × pm_I × Nat) := [(0, .inr (.aload 1), 1), (1, .inr (.getfield 580), 4), (4, .inr (.aload 0), 5), (5, .inr (.getfield 449), 8), (8, .inr (.if_icmp .ne 26), 11), (11, .inr (.aload 1), 12), (12, .inr (.getfield 581), 15), (15, .inr (.aload 0), 16), (16, .inr (.getfield 450), 19), (19, .inr (.if_icmp .ne 26), 22), (22, .inl (.int 1), 23), (23, .inr (.goto 27), 26), (26, .inl (.int 0), 27), (27, .inr .ireturn, 28)]
/-- MaskBench$Picture.lay(LMaskBench$Camera;)V -/
def c_171 : List (Nat × pm_I × Nat) := [(0, .inr (.aload 1), 1), (1, .inr (.getfield 653), 4), (4, .inr (.astore 2), 5), (5, .inr (.aload 0), 6), (6, .inl (.int 0), 7), (7, .inr (.putfield 451), 10), (10, .inr (.aload 0), 11), (11, .inr (.aload 0), 12), (12, .inr (.aload 1), 13), (13, .inl (.int 0), 14), (14, .inl (.int 0), 15), (15, .inr (.invokevirtual 172), 18), (18, .inr (.putfield 452), 21), (21, .inl (.int 1), 22), (22, .inr (.istore 3), 23), (23, .inr (.iload 3), 24), (24, .inr (.aload 2), 25), (25, .inr (.getfield 582), 28), (28, .inr (.if_icmp .ge 75), 31), (31, .inr (.aload 0), 32), (32, .inr (.aload 1), 33), (33, .inr (.aload 2), 34), (34, .inr (.iload 3), 35), (35, .inr (.invokevirtual 69), 38), (38, .inr (.aload 2), 39), (39, .inr (.iload 3), 40), (40, .inr (.invokevirtual 70), 43), (43, .inr (.invokevirtual 172), 46), (46, .inr (.lstore 4), 48), (48, .inr (.lload 4), 50), (50, .inr (.aload 0), 51), (51, .inr (.getfield 452), 54), (54, .inr .lcmp, 55), (55, .inr (.ifCond .le 69), 58), (58, .inr (.aload 0), 59), (59, .inr (.iload 3), 60), (60, .inr (.putfield 451), 63), (63, .inr (.aload 0), 64), (64, .inr (.lload 4), 66), (66, .inr (.putfield 452), 69), (69, .inr (.iinc 3 1), 72), (72, .inr (.goto 23), 75), (75, .inr .return_, 76)]
/-- MaskBench$Picture.sumAt(LMaskBench$Camera;II)J -/
def c_172 : List (Nat × pm_I × Nat) := [(0, .inr (.aload 1), 1), (1, .inr (.getfield 653), 4), (4, .inr (.astore 4), 6), (6, .inl (.long 0), 7), (7, .inr (.lstore 5), 9), (9, .inl (.int 0), 10), (10, .inr (.istore 7), 12), (12, .inl (.int 0), 13), (13, .inr (.istore 8), 15), (15, .inr (.iload 8), 17), (17, .inr (.aload 4), 19), (19, .inr (.getfield 581), 22), (22, .inr (.if_icmp .ge 104), 25), (25, .inr (.iload 8), 27), (27, .inr (.iload 3), 28), (28, .inr .iadd, 29), (29, .inr (.aload 4), 31), (31, .inr (.getfield 581), 34), (34, .inr .irem, 35), (35, .inr (.aload 4), 37), (37, .inr (.getfield 580), 40), (40, .inr .imul, 41), (41, .inr (.istore 9), 43), (43, .inl (.int 0), 44), (44, .inr (.istore 10), 46), (46, .inr (.iload 10), 48), (48, .inr (.aload 4), 50), (50, .inr (.getfield 580), 53), (53, .inr (.if_icmp .ge 98), 56), (56, .inr (.lload 5), 58), (58, .inr (.aload 0), 59), (59, .inr (.getfield 448), 62), (62, .inr (.iload 7), 64), (64, .inr .iaload, 65), (65, .inr .i2l, 66), (66, .inr (.aload 1), 67), (67, .inr (.getfield 642), 70), (70, .inr (.iload 9), 72), (72, .inr (.iload 10), 74), (74, .inr (.iload 2), 75), (75, .inr .iadd, 76), (76, .inr (.aload 4), 78), (78, .inr (.getfield 580), 81), (81, .inr .irem, 82), (82, .inr .iadd, 83), (83, .inr .iaload, 84), (84, .inr .i2l, 85), (85, .inr .lmul, 86), (86, .inr .ladd, 87), (87, .inr (.lstore 5), 89), (89, .inr (.iinc 7 1), 92), (92, .inr (.iinc 10 1), 95), (95, .inr (.goto 46), 98), (98, .inr (.iinc 8 1), 101), (101, .inr (.goto 15), 104), (104, .inr (.lload 5), 106), (106, .inr .lreturn, 107)]
/-- MaskBench.minus(II)I -/
def c_173 : List (Nat × pm_I × Nat) := [(0, .inr (.aload 0), 1), (1, .inr (.iload 1), 2), (2, .inr (.iload 2), 3), (3, .inr (.invokevirtual 121), 6), (6, .inr (.istore 3), 7), (7, .inr (.iload 3), 8), (8, .inr (.ifCond .eq 17), 11), (11, .inr (.aload 0), 12), (12, .inr (.iload 3), 13), (13, .inr (.invokevirtual 18), 16), (16, .inr .ireturn, 17), (17, .inr (.aload 0), 18), (18, .inr (.getfield 8), 21), (21, .inr (.getfield 653), 24), (24, .inr (.astore 4), 26), (26, .inr (.aload 0), 27), (27, .inr (.getfield 4), 30), (30, .inr (.aload 4), 32), (32, .inr (.invokevirtual 170), 35), (35, .inr (.ifCond .ne 44), 38), (38, .inr (.aload 0), 39), (39, .inl (.int 5), 40), (40, .inr (.invokevirtual 18), 43), (43, .inr .ireturn, 44), (44, .inr (.aload 0), 45), (45, .inr (.aload 4), 47), (47, .inr (.aload 0), 48), (48, .inr (.getfield 8), 51), (51, .inr (.getfield 642), 54), (54, .inr (.iload 1), 55), (55, .inr (.iload 2), 56), (56, .inr (.invokevirtual 158), 59), (59, .inr (.aload 4), 61), (61, .inr (.aload 0), 62), (62, .inr (.getfield 4), 65), (65, .inr (.getfield 448), 68), (68, .inr (.iload 1), 69), (69, .inr (.iload 2), 70), (70, .inr (.invokevirtual 158), 73), (73, .inr .isub, 74), (74, .inr (.invokevirtual 80), 77), (77, .inr .ireturn, 78)]
/-- MaskBench.shots(III)I -/
def c_174 : List (Nat × pm_I × Nat) := [(0, .inr (.iload 1), 1), (1, .inl (.int 1), 2), (2, .inr (.if_icmp .lt 33), 5), (5, .inr (.iload 1), 6), (6, .inl (.int 500), 9), (9, .inr (.if_icmp .gt 33), 12), (12, .inr (.iload 2), 13), (13, .inl (.int 1), 14), (14, .inr (.if_icmp .lt 33), 17), (17, .inr (.iload 2), 18), (18, .inl (.int 65536), 21), (21, .inr (.if_icmp .gt 33), 24), (24, .inr (.iload 3), 25), (25, .inr (.ifCond .lt 33), 28), (28, .inr (.iload 3), 29), (29, .inl (.int 3), 30), (30, .inr (.if_icmp .le 39), 33), (33, .inr (.aload 0), 34), (34, .inl (.int 1), 35), (35, .inr (.invokevirtual 18), 38), (38, .inr .ireturn, 39), (39, .inr (.aload 0), 40), (40, .inr (.invokevirtual 122), 43), (43, .inr (.istore 4), 45), (45, .inr (.iload 4), 47), (47, .inr (.ifCond .eq 57), 50), (50, .inr (.aload 0), 51), (51, .inr (.iload 4), 53), (53, .inr (.invokevirtual 18), 56), (56, .inr .ireturn, 57), (57, .inr (.aload 0), 58), (58, .inr (.getfield 8), 61), (61, .inr (.getfield 641), 64), (64, .inl (.int 0), 65), (65, .inr (.aload 0), 66), (66, .inr (.getfield 8), 69), (69, .inr (.getfield 653), 72), (72, .inr (.getfield 582), 75), (75, .inr (.invokestatic 72), 78), (78, .inr (.istore 5), 80), (80, .inr (.iload 5), 82), (82, .inr (.ifCond .gt 91), 85), (85, .inr (.aload 0), 86), (86, .inl (.int 5), 87), (87, .inr (.invokevirtual 18), 90), (90, .inr .ireturn, 91), (91, .inr (.aload 0), 92), (92, .inr (.getfield 8), 95), (95, .inr (.iload 1), 96), (96, .inr (.iload 2), 97), (97, .inr (.iload 5), 99), (99, .inr (.invokevirtual 175), 102), (102, .inr (.istore 6), 104), (104, .inr (.iload 3), 105), (105, .inr (.ifCond .ne 115), 108), (108, .inr (.aload 0), 109), (109, .inr (.iload 6), 111), (111, .inr (.invokevirtual 80), 114), (114, .inr .ireturn, 115), (115, .inr (.aload 0), 116), (116, .inr (.aload 0), 117), (117, .inr (.getfield 8), 120), (120, .inr (.iload 3), 121), (121, .inl (.int 1), 122), (122, .inr .isub, 123), (123, .inr (.invokevirtual 177), 126), (126, .inr (.invokevirtual 80), 129), (129, .inr .ireturn, 130)]
/-- MaskBench$Camera.shoot(III)I -/
def c_175 : List (Nat × pm_I × Nat) := [(0, .inr (.aload 0), 1), (1, .inr (.getfield 646), 4), (4, .inl (.int 0), 5), (5, .inr (.aload 0), 6), (6, .inr (.getfield 653), 9), (9, .inr (.getfield 582), 12), (12, .inl (.int 0), 13), (13, .inr (.invokestatic 50), 16), (16, .inr (.iload 3), 17), (17, .inr (.ifCond .gt 22), 20), (20, .inl (.int 0), 21), (21, .inr .ireturn, 22), (22, .inr (.iload 2), 23), (23, .inr .i2l, 24), (24, .inr (.lstore 4), 26), (26, .inl (.int 0), 27), (27, .inr (.istore 6), 29), (29, .inl (.int 0), 30), (30, .inr (.istore 7), 32), (32, .inr (.iload 7), 34), (34, .inr (.iload 1), 35), (35, .inr (.if_icmp .ge 92), 38), (38, .inl (.long 48271), 41), (41, .inr (.lload 4), 43), (43, .inr .lmul, 44), (44, .inl (.long 2147483647), 47), (47, .inr .lrem, 48), (48, .inr (.lstore 4), 50), (50, .inr (.aload 0), 51), (51, .inr (.lload 4), 53), (53, .inr (.iload 3), 54), (54, .inr .i2l, 55), (55, .inr .lrem, 56), (56, .inr .l2i, 57), (57, .inr (.invokevirtual 176), 60), (60, .inr (.istore 8), 62), (62, .inr (.aload 0), 63), (63, .inr (.getfield 640), 66), (66, .inr (.iload 8), 68), (68, .inr .iaload, 69), (69, .inr (.ifCond .ne 86), 72), (72, .inr (.aload 0), 73), (73, .inr (.getfield 646), 76), (76, .inr (.iload 8), 78), (78, .inr .dup2, 79), (79, .inr .iaload, 80), (80, .inl (.int 1), 81), (81, .inr .iadd, 82), (82, .inr .iastore, 83), (83, .inr (.iinc 6 1), 86), (86, .inr (.iinc 7 1), 89), (89, .inr (.goto 32), 92), (92, .inr (.iload 6), 94), (94, .inr .ireturn, 95)]
/-- MaskBench$Camera.placeOfNumber(I)I -/
def c_176 : List (Nat × pm_I × Nat) := [(0, .inr (.iload 1), 1), (1, .inr (.istore 2), 2), (2, .inl (.int 0), 3), (3, .inr (.istore 3), 4), (4, .inr (.iload 3), 5), (5, .inr (.aload 0), 6), (6, .inr (.getfield 653), 9), (9, .inr (.getfield 582), 12), (12, .inl (.int 1), 13), (13, .inr .isub, 14), (14, .inr (.if_icmp .ge 42), 17), (17, .inr (.iload 2), 18), (18, .inr (.aload 0), 19), (19, .inr (.getfield 641), 22), (22, .inr (.iload 3), 23), (23, .inr .iaload, 24), (24, .inr (.if_icmp .lt 42), 27), (27, .inr (.iload 2), 28), (28, .inr (.aload 0), 29), (29, .inr (.getfield 641), 32), (32, .inr (.iload 3), 33), (33, .inr .iaload, 34), (34, .inr .isub, 35), (35, .inr (.istore 2), 36), (36, .inr (.iinc 3 1), 39), (39, .inr (.goto 4), 42), (42, .inr (.iload 3), 43), (43, .inr .ireturn, 44)]
/-- MaskBench$Camera.figureOfShots(I)I -/
def c_177 : List (Nat × pm_I × Nat) := [(0, .inr (.aload 0), 1), (1, .inr (.getfield 653), 4), (4, .inr (.aload 0), 5), (5, .inr (.getfield 646), 8), (8, .inr (.aload 0), 9), (9, .inr (.getfield 645), 12), (12, .inr (.invokevirtual 132), 15), (15, .inr (.aload 0), 16), (16, .inr (.aload 0), 17), (17, .inr (.getfield 645), 20), (20, .inr (.iload 1), 21), (21, .inr (.invokevirtual 149), 24), (24, .inr .ireturn, 25)]
/-- MaskBench.best(I)I -/
def c_178 : List (Nat × pm_I × Nat) := [(0, .inr (.iload 1), 1), (1, .inr (.ifCond .lt 9), 4), (4, .inr (.iload 1), 5), (5, .inl (.int 1), 6), (6, .inr (.if_icmp .le 15), 9), (9, .inr (.aload 0), 10), (10, .inl (.int 1), 11), (11, .inr (.invokevirtual 18), 14), (14, .inr .ireturn, 15), (15, .inl (.int (-1)), 16), (16, .inr (.istore 2), 17), (17, .inl (.int 0), 18), (18, .inr (.istore 3), 19), (19, .inl (.int 0), 20), (20, .inr (.istore 4), 22), (22, .inr (.iload 4), 24), (24, .inr (.aload 0), 25), (25, .inr (.getfield 6), 28), (28, .inr (.getfield 515), 31), (31, .inr (.if_icmp .ge 114), 34), (34, .inr (.aload 0), 35), (35, .inr (.getfield 6), 38), (38, .inr (.iload 4), 40), (40, .inr (.invokevirtual 56), 43), (43, .inr (.astore 5), 45), (45, .inr (.aload 5), 47), (47, .inr (.ifnull 108), 50), (50, .inr (.aload 5), 52), (52, .inr (.invokevirtual 129), 55), (55, .inr (.ifCond .eq 108), 58), (58, .inr (.aload 0), 59), (59, .inr (.getfield 9), 62), (62, .inr (.invokevirtual 79), 65), (65, .inr (.aload 0), 66), (66, .inr (.getfield 9), 69), (69, .inr (.aload 5), 71), (71, .inr (.aload 0), 72), (72, .inr (.getfield 6), 75), (75, .inr (.getfield 513), 78), (78, .inr (.invokevirtual 124), 81), (81, .inr (.aload 0), 82), (82, .inr (.getfield 9), 85), (85, .inl (.int 3), 86), (86, .inr (.invokevirtual 141), 89), (89, .inr (.istore 6), 91), (91, .inr (.iload 2), 92), (92, .inl (.int (-1)), 93), (93, .inr (.if_icmp .eq 102), 96), (96, .inr (.iload 6), 98), (98, .inr (.iload 3), 99), (99, .inr (.if_icmp .ge 108), 102), (102, .inr (.iload 4), 104), (104, .inr (.istore 2), 105), (105, .inr (.iload 6), 107), (107, .inr (.istore 3), 108), (108, .inr (.iinc 4 1), 111), (111, .inr (.goto 22), 114), (114, .inr (.iload 2), 115), (115, .inl (.int (-1)), 116), (116, .inr (.if_icmp .ne 125), 119), (119, .inr (.aload 0), 120), (120, .inl (.int 5), 121), (121, .inr (.invokevirtual 18), 124), (124, .inr .ireturn, 125), (125, .inr (.aload 0), 126), (126, .inr (.iload 1), 127), (127, .inr (.ifCond .ne 134), 130), (130, .inr (.iload 2), 131), (131, .inr (.goto 135), 134), (134, .inr (.iload 3), 135), (135, .inr (.invokevirtual 80), 138), (138, .inr .ireturn, 139)]
/-- MaskBench.worst(I)I -/
def c_179 : List (Nat × pm_I × Nat) := [(0, .inr (.iload 1), 1), (1, .inr (.ifCond .lt 9), 4), (4, .inr (.iload 1), 5), (5, .inl (.int 2), 6), (6, .inr (.if_icmp .le 15), 9), (9, .inr (.aload 0), 10), (10, .inl (.int 1), 11), (11, .inr (.invokevirtual 18), 14), (14, .inr .ireturn, 15), (15, .inr (.aload 0), 16), (16, .inr (.invokevirtual 128), 19), (19, .inr (.istore 2), 20), (20, .inr (.iload 2), 21), (21, .inr (.ifCond .eq 30), 24), (24, .inr (.aload 0), 25), (25, .inr (.iload 2), 26), (26, .inr (.invokevirtual 18), 29), (29, .inr .ireturn, 30), (30, .inr (.aload 0), 31), (31, .inr (.getfield 8), 34), (34, .inr (.invokevirtual 180), 37), (37, .inr (.aload 0), 38), (38, .inr (.getfield 8), 41), (41, .inr (.getfield 650), 44), (44, .inl (.int (-1)), 45), (45, .inr (.if_icmp .ne 54), 48), (48, .inr (.aload 0), 49), (49, .inl (.int 5), 50), (50, .inr (.invokevirtual 18), 53), (53, .inr .ireturn, 54), (54, .inr (.iload 1), 55), (55, .inl (.int 2), 56), (56, .inr (.if_icmp .ne 71), 59), (59, .inr (.aload 0), 60), (60, .inr (.aload 0), 61), (61, .inr (.getfield 8), 64), (64, .inr (.getfield 651), 67), (67, .inr (.invokevirtual 80), 70), (70, .inr .ireturn, 71), (71, .inr (.aload 0), 72), (72, .inr (.aload 0), 73), (73, .inr (.getfield 8), 76), (76, .inr (.getfield 653), 79), (79, .inr (.aload 0), 80), (80, .inr (.getfield 8), 83), (83, .inr (.getfield 650), 86), (86, .inr (.iload 1), 87), (87, .inr (.invokevirtual 150), 90), (90, .inr (.invokevirtual 80), 93), (93, .inr .ireturn, 94)]
/-- MaskBench$Camera.seekWorst()V -/
def c_180 : List (Nat × pm_I × Nat) := [(0, .inr (.aload 0), 1), (1, .inr (.getfield 658), 4), (4, .inr (.ifCond .eq 8), 7), (7, .inr .return_, 8), (8, .inr (.aload 0), 9), (9, .inl (.int 1), 10), (10, .inr (.putfield 658), 13), (13, .inr (.aload 0), 14), (14, .inr (.invokevirtual 131), 17), (17, .inr (.aload 0), 18), (18, .inl (.int (-1)), 19), (19, .inr (.putfield 650), 22), (22, .inr (.aload 0), 23), (23, .inl (.int 0), 24), (24, .inr (.putfield 651), 27), (27, .inr (.aload 0), 28), (28, .inr (.invokevirtual 135), 31), (31, .inr (.istore 1), 32), (32, .inl (.int 0), 33), (33, .inr (.istore 2), 34), (34, .inr (.iload 2), 35), (35, .inr (.aload 0), 36), (36, .inr (.getfield 653), 39), (39, .inr (.getfield 582), 42), (42, .inr (.if_icmp .ge 157), 45), (45, .inr (.aload 0), 46), (46, .inr (.getfield 640), 49), (49, .inr (.iload 2), 50), (50, .inr .iaload, 51), (51, .inr (.ifCond .ne 151), 54), (54, .inr (.aload 0), 55), (55, .inr (.getfield 644), 58), (58, .inl (.int 0), 59), (59, .inr (.aload 0), 60), (60, .inr (.getfield 645), 63), (63, .inl (.int 0), 64), (64, .inr (.aload 0), 65), (65, .inr (.getfield 653), 68), (68, .inr (.getfield 582), 71), (71, .inr (.invokestatic 9000), 74), (74, .inr (.aload 0), 75), (75, .inr (.getfield 653), 78), (78, .inr (.aload 0), 79), (79, .inr (.getfield 645), 82), (82, .inr (.aload 0), 83), (83, .inr (.getfield 653), 86), (86, .inr (.getfield 577), 89), (89, .inr (.iload 2), 90), (90, .inr (.aload 0), 91), (91, .inr (.getfield 642), 94), (94, .inr (.iload 2), 95), (95, .inr .iaload, 96), (96, .inr .ineg, 97), (97, .inr (.invokevirtual 133), 100), (100, .inr (.aload 0), 101), (101, .inr (.aload 0), 102), (102, .inr (.getfield 645), 105), (105, .inr (.iload 1), 106), (106, .inr (.aload 0), 107), (107, .inr (.getfield 642), 110), (110, .inr (.iload 2), 111), (111, .inr .iaload, 112), (112, .inr (.aload 0), 113), (113, .inr (.getfield 654), 116), (116, .inr (.getfield 323), 119), (119, .inr .isub, 120), (120, .inr .isub, 121), (121, .inr (.invokevirtual 142), 124), (124, .inr (.istore 3), 125), (125, .inr (.aload 0), 126), (126, .inr (.getfield 650), 129), (129, .inl (.int (-1)), 130), (130, .inr (.if_icmp .eq 141), 133), (133, .inr (.iload 3), 134), (134, .inr (.aload 0), 135), (135, .inr (.getfield 651), 138), (138, .inr (.if_icmp .le 151), 141), (141, .inr (.aload 0), 142), (142, .inr (.iload 2), 143), (143, .inr (.putfield 650), 146), (146, .inr (.aload 0), 147), (147, .inr (.iload 3), 148), (148, .inr (.putfield 651), 151), (151, .inr (.iinc 2 1), 154), (154, .inr (.goto 34), 157), (157, .inr .return_, 158)]
/-- MaskBench.print()I -/
def c_181 : List (Nat × pm_I × Nat) := [(0, .inr (.aload 0), 1), (1, .inr (.getfield 1), 4), (4, .inr (.invokevirtual 22), 7), (7, .inr (.aload 0), 8), (8, .inr (.getfield 1), 11), (11, .inr (.aload 0), 12), (12, .inr (.getfield 6), 15), (15, .inr (.getfield 514), 18), (18, .inr (.invokevirtual 182), 21), (21, .inr (.aload 0), 22), (22, .inl (.ref 100011), 25), (25, .inr (.aload 0), 26), (26, .inr (.getfield 6), 29), (29, .inr (.getfield 513), 32), (32, .inr (.getfield 320), 35), (35, .inl (.int 1), 36), (36, .inr (.invokevirtual 183), 39), (39, .inr (.aload 0), 40), (40, .inl (.ref 100012), 43), (43, .inr (.aload 0), 44), (44, .inr (.getfield 6), 47), (47, .inr (.getfield 513), 50), (50, .inr (.getfield 321), 53), (53, .inl (.int 0), 54), (54, .inr (.invokevirtual 183), 57), (57, .inr (.aload 0), 58), (58, .inl (.ref 100013), 61), (61, .inr (.aload 0), 62), (62, .inr (.getfield 6), 65), (65, .inr (.getfield 513), 68), (68, .inr (.getfield 322), 71), (71, .inl (.int 1), 72), (72, .inr (.invokevirtual 183), 75), (75, .inr (.aload 0), 76), (76, .inr (.getfield 1), 79), (79, .inl (.ref 100014), 82), (82, .inr (.invokevirtual 184), 85), (85, .inr (.aload 0), 86), (86, .inr (.getfield 1), 89), (89, .inr (.aload 0), 90), (90, .inr (.getfield 6), 93), (93, .inr (.getfield 513), 96), (96, .inr (.getfield 323), 99), (99, .inr (.invokevirtual 185), 102), (102, .inr (.aload 0), 103), (103, .inr (.getfield 1), 106), (106, .inl (.int 59), 108), (108, .inr (.invokevirtual 16), 111), (111, .inr (.aload 0), 112), (112, .inr (.getfield 6), 115), (115, .inr (.invokevirtual 123), 118), (118, .inr (.astore 1), 119), (119, .inr (.aload 1), 120), (120, .inr (.ifnull 153), 123), (123, .inr (.aload 0), 124), (124, .inr (.getfield 1), 127), (127, .inl (.ref 100015), 130), (130, .inr (.invokevirtual 184), 133), (133, .inr (.aload 0), 134), (134, .inr (.getfield 1), 137), (137, .inr (.aload 1), 138), (138, .inr (.getfield 579), 141), (141, .inr (.invokevirtual 186), 144), (144, .inr (.aload 0), 145), (145, .inr (.getfield 1), 148), (148, .inl (.int 59), 150), (150, .inr (.invokevirtual 16), 153), (153, .inr (.aload 0), 154), (154, .inr (.aload 0), 155), (155, .inr (.getfield 1), 158), (158, .inr (.getfield 65), 161), (161, .inr (.invokevirtual 80), 164), (164, .inr .ireturn, 165)]
/-- MaskBench$Paper.putAll(LMaskBench$Paper;)V -/
def c_182 : List (Nat × pm_I × Nat) := [(0, .inl (.int 0), 1), (1, .inr (.istore 2), 2), (2, .inr (.iload 2), 3), (3, .inr (.aload 1), 4), (4, .inr (.getfield 65), 7), (7, .inr (.if_icmp .ge 26), 10), (10, .inr (.aload 0), 11), (11, .inr (.aload 1), 12), (12, .inr (.getfield 64), 15), (15, .inr (.iload 2), 16), (16, .inr .iaload, 17), (17, .inr (.invokevirtual 16), 20), (20, .inr (.iinc 2 1), 23), (23, .inr (.goto 2), 26), (26, .inr .return_, 27)]
/-- MaskBench.printMarks(Ljava/lang/String;LMaskBench$Marks;Z)V -/
def c_183 : List (Nat × pm_I × Nat) := [(0, .inl (.int 0), 1), (1, .inr (.istore 4), 3), (3, .inr (.iload 4), 5), (5, .inr (.aload 2), 6), (6, .inr (.getfield 387), 9), (9, .inr (.if_icmp .ge 81), 12), (12, .inr (.aload 0), 13), (13, .inr (.getfield 1), 16), (16, .inr (.aload 1), 17), (17, .inr (.invokevirtual 184), 20), (20, .inr (.aload 0), 21), (21, .inr (.getfield 1), 24), (24, .inr (.aload 2), 25), (25, .inr (.getfield 384), 28), (28, .inr (.iload 4), 30), (30, .inr .iaload, 31), (31, .inr (.invokevirtual 185), 34), (34, .inr (.aload 0), 35), (35, .inr (.getfield 1), 38), (38, .inr (.aload 2), 39), (39, .inr (.getfield 385), 42), (42, .inr (.iload 4), 44), (44, .inr .iaload, 45), (45, .inr (.invokevirtual 185), 48), (48, .inr (.iload 3), 49), (49, .inr (.ifCond .eq 66), 52), (52, .inr (.aload 0), 53), (53, .inr (.getfield 1), 56), (56, .inr (.aload 2), 57), (57, .inr (.getfield 386), 60), (60, .inr (.iload 4), 62), (62, .inr .iaload, 63), (63, .inr (.invokevirtual 185), 66), (66, .inr (.aload 0), 67), (67, .inr (.getfield 1), 70), (70, .inl (.int 59), 72), (72, .inr (.invokevirtual 16), 75), (75, .inr (.iinc 4 1), 78), (78, .inr (.goto 3), 81), (81, .inr .return_, 82)]
/-- MaskBench$Paper.putWord(Ljava/lang/String;)V -/
def c_184 : List (Nat × pm_I × Nat) := [(0, .inr (.aload 0), 1), (1, .inr (.invokevirtual 74), 4), (4, .inl (.int 0), 5), (5, .inr (.istore 2), 6), (6, .inr (.iload 2), 7), (7, .inr (.aload 1), 8), (8, .inr (.invokevirtual 9001), 11), (11, .inr (.if_icmp .ge 29), 14), (14, .inr (.aload 0), 15), (15, .inr (.aload 1), 16), (16, .inr (.iload 2), 17), (17, .inr (.invokevirtual 9002), 20), (20, .inr (.invokevirtual 16), 23), (23, .inr (.iinc 2 1), 26), (26, .inr (.goto 6), 29), (29, .inr .return_, 30)]
/-- MaskBench$Paper.putNumber(I)V -/
def c_185 : List (Nat × pm_I × Nat) := [(0, .inr (.aload 0), 1), (1, .inr (.invokevirtual 74), 4), (4, .inl (.int 1), 5), (5, .inr (.istore 2), 6), (6, .inr (.iload 2), 7), (7, .inl (.int 1000), 10), (10, .inr (.if_icmp .ge 29), 13), (13, .inr (.iload 1), 14), (14, .inr (.iload 2), 15), (15, .inr .idiv, 16), (16, .inl (.int 10), 18), (18, .inr (.if_icmp .lt 29), 21), (21, .inr (.iload 2), 22), (22, .inl (.int 10), 24), (24, .inr .imul, 25), (25, .inr (.istore 2), 26), (26, .inr (.goto 6), 29), (29, .inr (.iload 2), 30), (30, .inr (.ifCond .le 54), 33), (33, .inr (.aload 0), 34), (34, .inl (.int 48), 36), (36, .inr (.iload 1), 37), (37, .inr (.iload 2), 38), (38, .inr .idiv, 39), (39, .inl (.int 10), 41), (41, .inr .irem, 42), (42, .inr .iadd, 43), (43, .inr (.invokevirtual 16), 46), (46, .inr (.iload 2), 47), (47, .inl (.int 10), 49), (49, .inr .idiv, 50), (50, .inr (.istore 2), 51), (51, .inr (.goto 29), 54), (54, .inr .return_, 55)]
/-- MaskBench$Paper.putName(I)V -/
def c_186 : List (Nat × pm_I × Nat) := [(0, .inr (.aload 0), 1), (1, .inr (.invokevirtual 74), 4), (4, .inl (.int 25), 6), (6, .inr (.istore 2), 7), (7, .inr (.iload 2), 8), (8, .inr (.ifCond .lt 38), 11), (11, .inr (.iload 1), 12), (12, .inr (.iload 2), 13), (13, .inr .ishr, 14), (14, .inl (.int 31), 16), (16, .inr .iand, 17), (17, .inr (.istore 3), 18), (18, .inr (.iload 3), 19), (19, .inr (.ifCond .eq 32), 22), (22, .inr (.aload 0), 23), (23, .inl (.int 97), 25), (25, .inr (.iload 3), 26), (26, .inr .iadd, 27), (27, .inl (.int 1), 28), (28, .inr .isub, 29), (29, .inr (.invokevirtual 16), 32), (32, .inr (.iinc 2 (-5)), 35), (35, .inr (.goto 7), 38), (38, .inr .return_, 39)]
/-- MaskBench.out(I)I -/
def c_187 : List (Nat × pm_I × Nat) := [(0, .inr (.iload 1), 1), (1, .inr (.ifCond .ge 10), 4), (4, .inr (.aload 0), 5), (5, .inl (.int 1), 6), (6, .inr (.invokevirtual 18), 9), (9, .inr .ireturn, 10), (10, .inr (.iload 1), 11), (11, .inr (.aload 0), 12), (12, .inr (.getfield 1), 15), (15, .inr (.getfield 65), 18), (18, .inr (.if_icmp .lt 27), 21), (21, .inr (.aload 0), 22), (22, .inl (.int 5), 23), (23, .inr (.invokevirtual 18), 26), (26, .inr .ireturn, 27), (27, .inr (.aload 0), 28), (28, .inr (.aload 0), 29), (29, .inr (.getfield 1), 32), (32, .inr (.getfield 64), 35), (35, .inr (.iload 1), 36), (36, .inr .iaload, 37), (37, .inr (.invokevirtual 80), 40), (40, .inr .ireturn, 41)]
/-- MaskBenchModel.<init>()V -/
def c_188 : List (Nat × pm_I × Nat) := [(0, .inr (.aload 0), 1), (1, .inr (.invokespecial 9003), 4), (4, .inr (.aload 0), 5), (5, .inl (.int 282), 8), (8, .inr (.newarray .int), 10), (10, .inr (.putfield 706), 13), (13, .inr (.aload 0), 14), (14, .inl (.int 282), 17), (17, .inr (.newarray .int), 19), (19, .inr (.putfield 707), 22), (22, .inr (.aload 0), 23), (23, .inl (.int 42), 25), (25, .inr (.newarray .int), 27), (27, .inr (.putfield 708), 30), (30, .inr (.aload 0), 31), (31, .inl (.int 42), 33), (33, .inr (.newarray .int), 35), (35, .inr (.putfield 709), 38), (38, .inr (.aload 0), 39), (39, .inl (.int 1734), 42), (42, .inr (.newarray .int), 44), (44, .inr (.putfield 710), 47), (47, .inr (.aload 0), 48), (48, .inl (.int 1734), 51), (51, .inr (.newarray .int), 53), (53, .inr (.putfield 711), 56), (56, .inr (.aload 0), 57), (57, .inl (.int 1734), 60), (60, .inr (.newarray .int), 62), (62, .inr (.putfield 712), 65), (65, .inr (.aload 0), 66), (66, .inl (.int 1734), 69), (69, .inr (.newarray .int), 71), (71, .inr (.putfield 713), 74), (74, .inr (.aload 0), 75), (75, .inl (.int 6), 77), (77, .inr (.newarray .long), 79), (79, .inr (.putfield 714), 82), (82, .inr (.aload 0), 83), (83, .inl (.int 6), 85), (85, .inr (.newarray .long), 87), (87, .inr (.putfield 715), 90), (90, .inr (.aload 0), 91), (91, .inl (.int 6), 93), (93, .inr (.newarray .long), 95), (95, .inr (.putfield 716), 98), (98, .inr (.aload 0), 99), (99, .inl (.int 6), 101), (101, .inr (.newarray .long), 103), (103, .inr (.putfield 717), 106), (106, .inr (.aload 0), 107), (107, .inl (.int 89), 109), (109, .inr (.newarray .int), 111), (111, .inr (.putfield 720), 114), (114, .inr (.aload 0), 115), (115, .inl (.int 89), 117), (117, .inr (.newarray .int), 119), (119, .inr (.putfield 721), 122), (122, .inr (.aload 0), 123), (123, .inl (.int 1068), 126), (126, .inr (.newarray .int), 128), (128, .inr (.putfield 722), 131), (131, .inr (.aload 0), 132), (132, .inl (.int 6), 134), (134, .inr (.newarray .int), 136), (136, .inr (.putfield 724), 139), (139, .inr (.aload 0), 140), (140, .inl (.int 6), 142), (142, .inr (.newarray .int), 144), (144, .inr (.putfield 725), 147), (147, .inr (.aload 0), 148), (148, .inl (.int 6), 150), (150, .inr (.newarray .int), 152), (152, .inr (.putfield 726), 155), (155, .inr (.aload 0), 156), (156, .inl (.int 6), 158), (158, .inr (.newarray .boolean), 160), (160, .inr (.putfield 727), 163), (163, .inr (.aload 0), 164), (164, .inl (.int 289), 167), (167, .inr (.newarray .boolean), 169), (169, .inr (.putfield 731), 172), (172, .inr (.aload 0), 173), (173, .inl (.int 289), 176), (176, .inr (.newarray .int), 178), (178, .inr (.putfield 732), 181), (181, .inr (.aload 0), 182), (182, .inl (.int 289), 185), (185, .inr (.newarray .int), 187), (187, .inr (.putfield 733), 190), (190, .inr (.aload 0), 191), (191, .inl (.int 289), 194), (194, .inr (.newarray .int), 196), (196, .inr (.putfield 734), 199), (199, .inr (.aload 0), 200), (200, .inl (.int 289), 203), (203, .inr (.newarray .int), 205), (205, .inr (.putfield 735), 208), (208, .inr (.aload 0), 209), (209, .inl (.int 24), 211), (211, .inr (.newarray .int), 213), (213, .inr (.putfield 739), 216), (216, .inr (.aload 0), 217), (217, .inl (.int 289), 220), (220, .inr (.newarray .int), 222), (222, .inr (.putfield 741), 225), (225, .inr (.aload 0), 226), (226, .inl (.int 289), 229), (229, .inr (.newarray .int), 231), (231, .inr (.putfield 742), 234), (234, .inr (.aload 0), 235), (235, .inl (.int 800), 238), (238, .inr (.newarray .byte), 240), (240, .inr (.putfield 746), 243), (243, .inr (.aload 0), 244), (244, .inl (.int (-1)), 245), (245, .inr (.putfield 748), 248), (248, .inr (.aload 0), 249), (249, .inl (.int (-1)), 250), (250, .inr (.putfield 749), 253), (253, .inr (.aload 0), 254), (254, .inl (.int 13), 256), (256, .inr (.newarray .long), 258), (258, .inr .dup, 259), (259, .inl (.int 0), 260), (260, .inl (.long 8740526), 263), (263, .inr .lastore, 264), (264, .inr .dup, 265), (265, .inl (.int 1), 266), (266, .inl (.long 13550), 269), (269, .inr .lastore, 270), (270, .inr .dup, 271), (271, .inl (.int 2), 272), (272, .inl (.long 46486), 275), (275, .inr .lastore, 276), (276, .inr .dup, 277), (277, .inl (.int 3), 278), (278, .inl (.long 409469), 281), (281, .inr .lastore, 282), (282, .inr .dup, 283), (283, .inl (.int 4), 284), (284, .inl (.long 10348), 287), (287, .inr .lastore, 288), (288, .inr .dup, 289), (289, .inl (.int 5), 290), (290, .inl (.long 50849), 293), (293, .inr .lastore, 294), (294, .inr .dup, 295), (295, .inl (.int 6), 297), (297, .inl (.long 282078293), 300), (300, .inr .lastore, 301), (301, .inr .dup, 302), (302, .inl (.int 7), 304), (304, .inl (.long 281027399), 307), (307, .inr .lastore, 308), (308, .inr .dup, 309), (309, .inl (.int 8), 311), (311, .inl (.long 247664), 314), (314, .inr .lastore, 315), (315, .inr .dup, 316), (316, .inl (.int 9), 318), (318, .inl (.long 10504213), 321), (321, .inr .lastore, 322), (322, .inr .dup, 323), (323, .inl (.int 10), 325), (325, .inl (.long 40187), 328), (328, .inr .lastore, 329), (329, .inr .dup, 330), (330, .inl (.int 11), 332), (332, .inl (.long 15827), 335), (335, .inr .lastore, 336), (336, .inr .dup, 337), (337, .inl (.int 12), 339), (339, .inl (.long 14006), 342), (342, .inr .lastore, 343), (343, .inr (.putfield 759), 346), (346, .inr (.aload 0), 347), (347, .inl (.int 2000), 350), (350, .inr (.newarray .int), 352), (352, .inr (.putfield 760), 355), (355, .inr .return_, 356)]
/-- MaskBenchModel.status()I -/
def c_189 : List (Nat × pm_I × Nat) := [(0, .inr (.aload 0), 1), (1, .inl (.int 0), 2), (2, .inr (.putfield 705), 5), (5, .inr (.aload 0), 6), (6, .inr (.getfield 704), 9), (9, .inr .ireturn, 10)]
/-- MaskBenchModel.many(I)I -/
def c_190 : List (Nat × pm_I × Nat) := [(0, .inr (.aload 0), 1), (1, .inr (.iload 1), 2), (2, .inr .i2l, 3), (3, .inl (.long 0), 4), (4, .inl (.long 6), 7), (7, .inr (.invokestatic 191), 10), (10, .inr (.ifCond .ne 17), 13), (13, .inl (.int 1), 14), (14, .inr (.goto 34), 17), (17, .inr (.iload 1), 18), (18, .inl (.int 5), 19), (19, .inr (.if_icmp .ne 33), 22), (22, .inr (.aload 0), 23), (23, .inr (.getfield 718), 26), (26, .inr (.ifCond .ne 33), 29), (29, .inl (.int 5), 30), (30, .inr (.goto 34), 33), (33, .inl (.int 0), 34), (34, .inr (.invokevirtual 192), 37), (37, .inr (.ifCond .ne 42), 40), (40, .inl (.int (-1)), 41), (41, .inr .ireturn, 42), (42, .inr (.iload 1), 43), (43, .inr (.tableswitch 108 0 5 #[80, 85, 85, 85, 94, 101]), 80), (80, .inr (.aload 0), 81), (81, .inr (.getfield 718), 84), (84, .inr .ireturn, 85), (85, .inr (.aload 0), 86), (86, .inr (.getfield 720), 89), (89, .inr (.iload 1), 90), (90, .inl (.int 1), 91), (91, .inr .isub, 92), (92, .inr .iaload, 93), (93, .inr .ireturn, 94), (94, .inr (.aload 0), 95), (95, .inr (.getfield 720), 98), (98, .inl (.int 3), 99), (99, .inr .iaload, 100), (100, .inr .ireturn, 101), (101, .inr (.aload 0), 102), (102, .inr (.getfield 720), 105), (105, .inl (.int 4), 106), (106, .inr .iaload, 107), (107, .inr .ireturn, 108), (108, .inr (.aload 0), 109), (109, .inr (.getfield 723), 112), (112, .inr .ireturn, 113)]
/-- MaskBenchModel.isIn(JJJ)Z -/
def c_191 : List (Nat × pm_I × Nat) := [(0, .inr (.lload 0), 1), (1, .inr (.lload 2), 2), (2, .inr .lcmp, 3), (3, .inr (.ifCond .lt 17), 6), (6, .inr (.lload 0), 7), (7, .inr (.lload 4), 9), (9, .inr .lcmp, 10), (10, .inr (.ifCond .gt 17), 13), (13, .inl (.int 1), 14), (14, .inr (.goto 18), 17), (17, .inl (.int 0), 18), (18, .inr .ireturn, 19)]
/-- MaskBenchModel.is(I)Z -/
def c_192 : List (Nat × pm_I × Nat) := [(0, .inr (.aload 0), 1), (1, .inl (.int 0), 2), (2, .inr (.putfield 705), 5), (5, .inr (.aload 0), 6), (6, .inr (.iload 1), 7), (7, .inr (.putfield 704), 10), (10, .inr (.iload 1), 11), (11, .inr (.ifCond .ne 18), 14), (14, .inl (.int 1), 15), (15, .inr (.goto 19), 18), (18, .inl (.int 0), 19), (19, .inr .ireturn, 20)]
/-- MaskBenchModel.plate(II)I -/
def c_193 : List (Nat × pm_I × Nat) := [(0, .inr (.aload 0), 1), (1, .inr (.iload 2), 2), (2, .inr .i2l, 3), (3, .inl (.long 0), 4), (4, .inl (.long 7), 7), (7, .inr (.invokestatic 191), 10), (10, .inr (.ifCond .ne 17), 13), (13, .inl (.int 1), 14), (14, .inr (.goto 48), 17), (17, .inr (.aload 0), 18), (18, .inr (.iload 1), 19), (19, .inr (.invokevirtual 194), 22), (22, .inr (.ifCond .ne 29), 25), (25, .inl (.int 2), 26), (26, .inr (.goto 48), 29), (29, .inr (.iload 2), 30), (30, .inl (.int 5), 31), (31, .inr (.if_icmp .le 47), 34), (34, .inr (.aload 0), 35), (35, .inr (.iload 1), 36), (36, .inr (.invokevirtual 195), 39), (39, .inl (.int 1), 40), (40, .inr (.if_icmp .ne 47), 43), (43, .inl (.int 5), 44), (44, .inr (.goto 48), 47), (47, .inl (.int 0), 48), (48, .inr (.invokevirtual 192), 51), (51, .inr (.ifCond .ne 56), 54), (54, .inl (.int (-1)), 55), (55, .inr .ireturn, 56), (56, .inr (.aload 0), 57), (57, .inr (.iload 1), 58), (58, .inr (.invokevirtual 198), 61), (61, .inr (.iload 2), 62), (62, .inr (.tableswitch 156 0 6 #[104, 110, 116, 122, 128, 135, 149]), 104), (104, .inr (.aload 0), 105), (105, .inr (.iload 1), 106), (106, .inr (.invokevirtual 196), 109), (109, .inr .ireturn, 110), (110, .inr (.aload 0), 111), (111, .inr (.iload 1), 112), (112, .inr (.invokevirtual 197), 115), (115, .inr .ireturn, 116), (116, .inr (.aload 0), 117), (117, .inr (.iload 1), 118), (118, .inr (.invokevirtual 204), 121), (121, .inr .ireturn, 122), (122, .inr (.aload 0), 123), (123, .inr (.iload 1), 124), (124, .inr (.invokevirtual 205), 127), (127, .inr .ireturn, 128), (128, .inr (.aload 0), 129), (129, .inr (.getfield 726), 132), (132, .inr (.iload 1), 133), (133, .inr .iaload, 134), (134, .inr .ireturn, 135), (135, .inr (.aload 0), 136), (136, .inr (.iload 1), 137), (137, .inr (.invokevirtual 206), 140), (140, .inr (.ifCond .eq 147), 143), (143, .inl (.int 1), 144), (144, .inr (.goto 148), 147), (147, .inl (.int 0), 148), (148, .inr .ireturn, 149), (149, .inr (.aload 0), 150), (150, .inr (.getfield 724), 153), (153, .inr (.iload 1), 154), (154, .inr .iaload, 155), (155, .inr .ireturn, 156), (156, .inr (.aload 0), 157), (157, .inr (.getfield 725), 160), (160, .inr (.iload 1), 161), (161, .inr .iaload, 162), (162, .inr .ireturn, 163)]
/-- MaskBenchModel.isPlate(I)Z -/
def c_194 : List (Nat × pm_I × Nat) := [(0, .inr (.iload 1), 1), (1, .inr .i2l, 2), (2, .inl (.long 0), 3), (3, .inr (.aload 0), 4), (4, .inr (.getfield 718), 7), (7, .inl (.int 1), 8), (8, .inr .isub, 9), (9, .inr .i2l, 10), (10, .inr (.invokestatic 191), 13), (13, .inr .ireturn, 14)]
/-- MaskBenchModel.cellsOf(I)I -/
def c_195 : List (Nat × pm_I × Nat) := [(0, .inr (.aload 0), 1), (1, .inr (.iload 1), 2), (2, .inr (.invokevirtual 196), 5), (5, .inr (.aload 0), 6), (6, .inr (.iload 1), 7), (7, .inr (.invokevirtual 197), 10), (10, .inr .imul, 11), (11, .inr .ireturn, 12)]
/-- MaskBenchModel.wideOf(I)I -/
def c_196 : List (Nat × pm_I × Nat) := [(0, .inr (.aload 0), 1), (1, .inr (.getfield 708), 4), (4, .inl (.int 7), 6), (6, .inr (.iload 1), 7), (7, .inr .imul, 8), (8, .inl (.int 0), 9), (9, .inr .iadd, 10), (10, .inr .iaload, 11), (11, .inr .ireturn, 12)]
/-- MaskBenchModel.highOf(I)I -/
def c_197 : List (Nat × pm_I × Nat) := [(0, .inr (.aload 0), 1), (1, .inr (.getfield 708), 4), (4, .inl (.int 7), 6), (6, .inr (.iload 1), 7), (7, .inr .imul, 8), (8, .inl (.int 1), 9), (9, .inr .iadd, 10), (10, .inr .iaload, 11), (11, .inr .ireturn, 12)]
/-- MaskBenchModel.laysSides(I)V -/
def c_198 : List (Nat × pm_I × Nat) := [(0, .inr (.aload 0), 1), (1, .inr (.getfield 727), 4), (4, .inr (.iload 1), 5), (5, .inr .baload, 6), (6, .inr (.ifCond .eq 10), 9), (9, .inr .return_, 10), (10, .inr (.aload 0), 11), (11, .inr (.getfield 727), 14), (14, .inr (.iload 1), 15), (15, .inl (.int 1), 16), (16, .inr .bastore, 17), (17, .inr (.aload 0), 18), (18, .inr (.getfield 726), 21), (21, .inr (.iload 1), 22), (22, .inr (.aload 0), 23), (23, .inr (.iload 1), 24), (24, .inl (.int 0), 25), (25, .inl (.int 0), 26), (26, .inr (.invokevirtual 199), 29), (29, .inr .iastore, 30), (30, .inl (.int 0), 31), (31, .inr (.istore 2), 32), (32, .inl (.int 0), 33), (33, .inr (.istore 3), 34), (34, .inr (.iload 3), 35), (35, .inr (.aload 0), 36), (36, .inr (.iload 1), 37), (37, .inr (.invokevirtual 197), 40), (40, .inr (.if_icmp .ge 154), 43), (43, .inl (.int 0), 44), (44, .inr (.istore 4), 46), (46, .inr (.iload 4), 48), (48, .inr (.aload 0), 49), (49, .inr (.iload 1), 50), (50, .inr (.invokevirtual 196), 53), (53, .inr (.if_icmp .ge 148), 56), (56, .inr (.iload 4), 58), (58, .inr (.iload 3), 59), (59, .inr .iadd, 60), (60, .inr (.ifCond .ne 66), 63), (63, .inr (.goto 142), 66), (66, .inr (.aload 0), 67), (67, .inr (.iload 1), 68), (68, .inr (.iload 4), 70), (70, .inr (.iload 3), 71), (71, .inr (.invokevirtual 199), 74), (74, .inr (.istore 5), 76), (76, .inr (.aload 0), 77), (77, .inr (.getfield 724), 80), (80, .inr (.iload 1), 81), (81, .inr (.iload 2), 82), (82, .inr (.ifCond .eq 96), 85), (85, .inr (.iload 5), 87), (87, .inr (.aload 0), 88), (88, .inr (.getfield 724), 91), (91, .inr (.iload 1), 92), (92, .inr .iaload, 93), (93, .inr (.if_icmp .ge 101), 96), (96, .inr (.iload 5), 98), (98, .inr (.goto 107), 101), (101, .inr (.aload 0), 102), (102, .inr (.getfield 724), 105), (105, .inr (.iload 1), 106), (106, .inr .iaload, 107), (107, .inr .iastore, 108), (108, .inr (.aload 0), 109), (109, .inr (.getfield 725), 112), (112, .inr (.iload 1), 113), (113, .inr (.iload 2), 114), (114, .inr (.ifCond .eq 128), 117), (117, .inr (.iload 5), 119), (119, .inr (.aload 0), 120), (120, .inr (.getfield 725), 123), (123, .inr (.iload 1), 124), (124, .inr .iaload, 125), (125, .inr (.if_icmp .le 133), 128), (128, .inr (.iload 5), 130), (130, .inr (.goto 139), 133), (133, .inr (.aload 0), 134), (134, .inr (.getfield 725), 137), (137, .inr (.iload 1), 138), (138, .inr .iaload, 139), (139, .inr .iastore, 140), (140, .inl (.int 1), 141), (141, .inr (.istore 2), 142), (142, .inr (.iinc 4 1), 145), (145, .inr (.goto 46), 148), (148, .inr (.iinc 3 1), 151), (151, .inr (.goto 34), 154), (154, .inr .return_, 155)]
/-- MaskBenchModel.sideOf(III)I -/
def c_199 : List (Nat × pm_I × Nat) := [(0, .inl (.int 0), 1), (1, .inr (.istore 4), 3), (3, .inl (.int 0), 4), (4, .inr (.istore 5), 6), (6, .inr (.iload 5), 8), (8, .inr (.aload 0), 9), (9, .inr (.iload 1), 10), (10, .inr (.invokevirtual 197), 13), (13, .inr (.if_icmp .ge 75), 16), (16, .inl (.int 0), 17), (17, .inr (.istore 6), 19), (19, .inr (.iload 6), 21), (21, .inr (.aload 0), 22), (22, .inr (.iload 1), 23), (23, .inr (.invokevirtual 196), 26), (26, .inr (.if_icmp .ge 69), 29), (29, .inr (.iload 4), 31), (31, .inr (.aload 0), 32), (32, .inr (.iload 1), 33), (33, .inr (.iload 6), 35), (35, .inr (.iload 5), 37), (37, .inr (.invokevirtual 200), 40), (40, .inr (.ifCond .eq 59), 43), (43, .inr (.aload 0), 44), (44, .inr (.iload 1), 45), (45, .inr (.iload 6), 47), (47, .inr (.iload 2), 48), (48, .inr .iadd, 49), (49, .inr (.iload 5), 51), (51, .inr (.iload 3), 52), (52, .inr .iadd, 53), (53, .inr (.invokevirtual 203), 56), (56, .inr (.goto 60), 59), (59, .inl (.int 0), 60), (60, .inr .iadd, 61), (61, .inr (.istore 4), 63), (63, .inr (.iinc 6 1), 66), (66, .inr (.goto 19), 69), (69, .inr (.iinc 5 1), 72), (72, .inr (.goto 6), 75), (75, .inr (.iload 4), 77), (77, .inr .ireturn, 78)]
/-- MaskBenchModel.isHole(III)Z -/
def c_200 : List (Nat × pm_I × Nat) := [(0, .inr (.aload 0), 1), (1, .inr (.getfield 710), 4), (4, .inr (.aload 0), 5), (5, .inr (.iload 1), 6), (6, .inr (.iload 2), 7), (7, .inr (.iload 3), 8), (8, .inr (.invokevirtual 201), 11), (11, .inr .iaload, 12), (12, .inl (.int 1), 13), (13, .inr (.if_icmp .ne 20), 16), (16, .inl (.int 1), 17), (17, .inr (.goto 21), 20), (20, .inl (.int 0), 21), (21, .inr .ireturn, 22)]
/-- MaskBenchModel.indexOf(III)I -/
def c_201 : List (Nat × pm_I × Nat) := [(0, .inl (.int 289), 3), (3, .inr (.iload 1), 4), (4, .inr .imul, 5), (5, .inr (.iload 3), 6), (6, .inr (.aload 0), 7), (7, .inr (.iload 1), 8), (8, .inr (.invokevirtual 197), 11), (11, .inr (.invokestatic 202), 14), (14, .inr (.aload 0), 15), (15, .inr (.iload 1), 16), (16, .inr (.invokevirtual 196), 19), (19, .inr .imul, 20), (20, .inr .iadd, 21), (21, .inr (.iload 2), 22), (22, .inr (.aload 0), 23), (23, .inr (.iload 1), 24), (24, .inr (.invokevirtual 196), 27), (27, .inr (.invokestatic 202), 30), (30, .inr .iadd, 31), (31, .inr .ireturn, 32)]
/-- MaskBenchModel.round(II)I -/
def c_202 : List (Nat × pm_I × Nat) := [(0, .inr (.iload 0), 1), (1, .inr (.iload 1), 2), (2, .inr .irem, 3), (3, .inr (.iload 1), 4), (4, .inr .iadd, 5), (5, .inr (.iload 1), 6), (6, .inr .irem, 7), (7, .inr .ireturn, 8)]
/-- MaskBenchModel.weightOf(III)I -/
def c_203 : List (Nat × pm_I × Nat) := [(0, .inr (.aload 0), 1), (1, .inr (.getfield 712), 4), (4, .inr (.aload 0), 5), (5, .inr (.iload 1), 6), (6, .inr (.iload 2), 7), (7, .inr (.iload 3), 8), (8, .inr (.invokevirtual 201), 11), (11, .inr .iaload, 12), (12, .inr .ireturn, 13)]
/-- MaskBenchModel.holesOf(I)I -/
def c_204 : List (Nat × pm_I × Nat) := [(0, .inl (.int 0), 1), (1, .inr (.istore 2), 2), (2, .inl (.int 0), 3), (3, .inr (.istore 3), 4), (4, .inr (.iload 3), 5), (5, .inr (.aload 0), 6), (6, .inr (.iload 1), 7), (7, .inr (.invokevirtual 195), 10), (10, .inr (.if_icmp .ge 34), 13), (13, .inr (.iload 2), 14), (14, .inr (.aload 0), 15), (15, .inr (.getfield 710), 18), (18, .inl (.int 289), 21), (21, .inr (.iload 1), 22), (22, .inr .imul, 23), (23, .inr (.iload 3), 24), (24, .inr .iadd, 25), (25, .inr .iaload, 26), (26, .inr .iadd, 27), (27, .inr (.istore 2), 28), (28, .inr (.iinc 3 1), 31), (31, .inr (.goto 4), 34), (34, .inr (.iload 2), 35), (35, .inr .ireturn, 36)]
/-- MaskBenchModel.weightsOf(I)I -/
def c_205 : List (Nat × pm_I × Nat) := [(0, .inl (.int 0), 1), (1, .inr (.istore 2), 2), (2, .inl (.int 0), 3), (3, .inr (.istore 3), 4), (4, .inr (.iload 3), 5), (5, .inr (.aload 0), 6), (6, .inr (.iload 1), 7), (7, .inr (.invokevirtual 195), 10), (10, .inr (.if_icmp .ge 34), 13), (13, .inr (.iload 2), 14), (14, .inr (.aload 0), 15), (15, .inr (.getfield 712), 18), (18, .inl (.int 289), 21), (21, .inr (.iload 1), 22), (22, .inr .imul, 23), (23, .inr (.iload 3), 24), (24, .inr .iadd, 25), (25, .inr .iaload, 26), (26, .inr .iadd, 27), (27, .inr (.istore 2), 28), (28, .inr (.iinc 3 1), 31), (31, .inr (.goto 4), 34), (34, .inr (.iload 2), 35), (35, .inr .ireturn, 36)]
/-- MaskBenchModel.isFlat(I)Z -/
def c_206 : List (Nat × pm_I × Nat) := [(0, .inr (.aload 0), 1), (1, .inr (.iload 1), 2), (2, .inr (.invokevirtual 198), 5), (5, .inr (.aload 0), 6), (6, .inr (.iload 1), 7), (7, .inr (.invokevirtual 195), 10), (10, .inl (.int 1), 11), (11, .inr (.if_icmp .eq 29), 14), (14, .inr (.aload 0), 15), (15, .inr (.getfield 724), 18), (18, .inr (.iload 1), 19), (19, .inr .iaload, 20), (20, .inr (.aload 0), 21), (21, .inr (.getfield 725), 24), (24, .inr (.iload 1), 25), (25, .inr .iaload, 26), (26, .inr (.if_icmp .ne 33), 29), (29, .inl (.int 1), 30), (30, .inr (.goto 34), 33), (33, .inl (.int 0), 34), (34, .inr .ireturn, 35)]
/-- MaskBenchModel.cell(IIII)I -/
def c_207 : List (Nat × pm_I × Nat) := [(0, .inr (.aload 0), 1), (1, .inr (.iload 4), 3), (3, .inr .i2l, 4), (4, .inl (.long 0), 5), (5, .inl (.long 2), 8), (8, .inr (.invokestatic 191), 11), (11, .inr (.ifCond .ne 18), 14), (14, .inl (.int 1), 15), (15, .inr (.goto 41), 18), (18, .inr (.aload 0), 19), (19, .inr (.iload 1), 20), (20, .inr (.invokevirtual 194), 23), (23, .inr (.ifCond .eq 40), 26), (26, .inr (.aload 0), 27), (27, .inr (.iload 1), 28), (28, .inr (.iload 2), 29), (29, .inr (.iload 3), 30), (30, .inr (.invokevirtual 208), 33), (33, .inr (.ifCond .eq 40), 36), (36, .inl (.int 0), 37), (37, .inr (.goto 41), 40), (40, .inl (.int 2), 41), (41, .inr (.invokevirtual 192), 44), (44, .inr (.ifCond .ne 49), 47), (47, .inl (.int (-1)), 48), (48, .inr .ireturn, 49), (49, .inr (.iload 4), 51), (51, .inr (.ifCond .ne 69), 54), (54, .inr (.aload 0), 55), (55, .inr (.getfield 710), 58), (58, .inr (.aload 0), 59), (59, .inr (.iload 1), 60), (60, .inr (.iload 2), 61), (61, .inr (.iload 3), 62), (62, .inr (.invokevirtual 201), 65), (65, .inr .iaload, 66), (66, .inr (.goto 92), 69), (69, .inr (.iload 4), 71), (71, .inl (.int 1), 72), (72, .inr (.if_icmp .ne 85), 75), (75, .inr (.aload 0), 76), (76, .inr (.iload 1), 77), (77, .inr (.iload 2), 78), (78, .inr (.iload 3), 79), (79, .inr (.invokevirtual 203), 82), (82, .inr (.goto 92), 85), (85, .inr (.aload 0), 86), (86, .inr (.iload 1), 87), (87, .inr (.iload 2), 88), (88, .inr (.iload 3), 89), (89, .inr (.invokevirtual 199), 92), (92, .inr .ireturn, 93)]
/-- MaskBenchModel.isOn(III)Z -/
def c_208 : List (Nat × pm_I × Nat) := [(0, .inr (.iload 2), 1), (1, .inr .i2l, 2), (2, .inl (.long 0), 3), (3, .inr (.aload 0), 4), (4, .inr (.iload 1), 5), (5, .inr (.invokevirtual 196), 8), (8, .inl (.int 1), 9), (9, .inr .isub, 10), (10, .inr .i2l, 11), (11, .inr (.invokestatic 191), 14), (14, .inr (.ifCond .eq 38), 17), (17, .inr (.iload 3), 18), (18, .inr .i2l, 19), (19, .inl (.long 0), 20), (20, .inr (.aload 0), 21), (21, .inr (.iload 1), 22), (22, .inr (.invokevirtual 197), 25), (25, .inl (.int 1), 26), (26, .inr .isub, 27), (27, .inr .i2l, 28), (28, .inr (.invokestatic 191), 31), (31, .inr (.ifCond .eq 38), 34), (34, .inl (.int 1), 35), (35, .inr (.goto 39), 38), (38, .inl (.int 0), 39), (39, .inr .ireturn, 40)]
/-- MaskBenchModel.alike(II)I -/
def c_209 : List (Nat × pm_I × Nat) := [(0, .inr (.aload 0), 1), (1, .inr (.aload 0), 2), (2, .inr (.iload 1), 3), (3, .inr (.invokevirtual 194), 6), (6, .inr (.ifCond .eq 21), 9), (9, .inr (.aload 0), 10), (10, .inr (.iload 2), 11), (11, .inr (.invokevirtual 194), 14), (14, .inr (.ifCond .eq 21), 17), (17, .inl (.int 0), 18), (18, .inr (.goto 22), 21), (21, .inl (.int 2), 22), (22, .inr (.invokevirtual 192), 25), (25, .inr (.ifCond .ne 30), 28), (28, .inl (.int (-1)), 29), (29, .inr .ireturn, 30), (30, .inr (.aload 0), 31), (31, .inr (.iload 1), 32), (32, .inr (.invokevirtual 196), 35), (35, .inr (.aload 0), 36), (36, .inr (.iload 2), 37), (37, .inr (.invokevirtual 196), 40), (40, .inr (.if_icmp .ne 56), 43), (43, .inr (.aload 0), 44), (44, .inr (.iload 1), 45), (45, .inr (.invokevirtual 197), 48), (48, .inr (.aload 0), 49), (49, .inr (.iload 2), 50), (50, .inr (.invokevirtual 197), 53), (53, .inr (.if_icmp .eq 58), 56), (56, .inl (.int 0), 57), (57, .inr .ireturn, 58), (58, .inl (.int 0), 59), (59, .inr (.istore 3), 60), (60, .inr (.iload 3), 61), (61, .inr (.aload 0), 62), (62, .inr (.iload 1), 63), (63, .inr (.invokevirtual 197), 66), (66, .inr (.if_icmp .ge 108), 69), (69, .inl (.int 0), 70), (70, .inr (.istore 4), 72), (72, .inr (.iload 4), 74), (74, .inr (.aload 0), 75), (75, .inr (.iload 1), 76), (76, .inr (.invokevirtual 196), 79), (79, .inr (.if_icmp .ge 102), 82), (82, .inr (.aload 0), 83), (83, .inr (.iload 1), 84), (84, .inr (.iload 2), 85), (85, .inr (.iload 4), 87), (87, .inr (.iload 3), 88), (88, .inr (.invokevirtual 210), 91), (91, .inr (.ifCond .eq 96), 94), (94, .inl (.int 1), 95), (95, .inr .ireturn, 96), (96, .inr (.iinc 4 1), 99), (99, .inr (.goto 72), 102), (102, .inr (.iinc 3 1), 105), (105, .inr (.goto 60), 108), (108, .inl (.int 0), 109), (109, .inr .ireturn, 110)]
/-- MaskBenchModel.areAlike(IIII)Z -/
def c_210 : List (Nat × pm_I × Nat) := [(0, .inl (.int 0), 1), (1, .inr (.istore 5), 3), (3, .inr (.iload 5), 5), (5, .inr (.aload 0), 6), (6, .inr (.iload 1), 7), (7, .inr (.invokevirtual 197), 10), (10, .inr (.if_icmp .ge 66), 13), (13, .inl (.int 0), 14), (14, .inr (.istore 6), 16), (16, .inr (.iload 6), 18), (18, .inr (.aload 0), 19), (19, .inr (.iload 1), 20), (20, .inr (.invokevirtual 196), 23), (23, .inr (.if_icmp .ge 60), 26), (26, .inr (.aload 0), 27), (27, .inr (.iload 1), 28), (28, .inr (.iload 6), 30), (30, .inr (.iload 5), 32), (32, .inr (.invokevirtual 200), 35), (35, .inr (.aload 0), 36), (36, .inr (.iload 2), 37), (37, .inr (.iload 6), 39), (39, .inr (.iload 3), 40), (40, .inr .isub, 41), (41, .inr (.iload 5), 43), (43, .inr (.iload 4), 45), (45, .inr .isub, 46), (46, .inr (.invokevirtual 200), 49), (49, .inr (.if_icmp .eq 54), 52), (52, .inl (.int 0), 53), (53, .inr .ireturn, 54), (54, .inr (.iinc 6 1), 57), (57, .inr (.goto 16), 60), (60, .inr (.iinc 5 1), 63), (63, .inr (.goto 3), 66), (66, .inl (.int 1), 67), (67, .inr .ireturn, 68)]
/-- MaskBenchModel.root(II)I -/
def c_211 : List (Nat × pm_I × Nat) := [(0, .inr (.aload 0), 1), (1, .inr (.iload 1), 2), (2, .inr (.invokestatic 212), 5), (5, .inr (.ifCond .eq 21), 8), (8, .inr (.iload 2), 9), (9, .inr .i2l, 10), (10, .inl (.long 1), 11), (11, .inr (.iload 1), 12), (12, .inl (.int 1), 13), (13, .inr .isub, 14), (14, .inr .i2l, 15), (15, .inr (.invokestatic 191), 18), (18, .inr (.ifCond .ne 25), 21), (21, .inl (.int 1), 22), (22, .inr (.goto 38), 25), (25, .inr (.iload 1), 26), (26, .inr (.iload 2), 27), (27, .inr (.invokestatic 213), 30), (30, .inr (.ifCond .ge 37), 33), (33, .inl (.int 5), 34), (34, .inr (.goto 38), 37), (37, .inl (.int 0), 38), (38, .inr (.invokevirtual 192), 41), (41, .inr (.ifCond .ne 46), 44), (44, .inl (.int (-1)), 45), (45, .inr .ireturn, 46), (46, .inr (.iload 1), 47), (47, .inr (.iload 2), 48), (48, .inr (.invokestatic 213), 51), (51, .inr .ireturn, 52)]
/-- MaskBenchModel.isPrime(I)Z -/
def c_212 : List (Nat × pm_I × Nat) := [(0, .inr (.iload 0), 1), (1, .inr .i2l, 2), (2, .inl (.long 3), 5), (5, .inl (.long 47), 8), (8, .inr (.invokestatic 191), 11), (11, .inr (.ifCond .ne 16), 14), (14, .inl (.int 0), 15), (15, .inr .ireturn, 16), (16, .inl (.int 2), 17), (17, .inr (.istore 1), 18), (18, .inr (.iload 1), 19), (19, .inr (.iload 0), 20), (20, .inr (.if_icmp .ge 37), 23), (23, .inr (.iload 0), 24), (24, .inr (.iload 1), 25), (25, .inr .irem, 26), (26, .inr (.ifCond .ne 31), 29), (29, .inl (.int 0), 30), (30, .inr .ireturn, 31), (31, .inr (.iinc 1 1), 34), (34, .inr (.goto 18), 37), (37, .inl (.int 1), 38), (38, .inr .ireturn, 39)]
/-- MaskBenchModel.rootOf(II)I -/
def c_213 : List (Nat × pm_I × Nat) := [(0, .inl (.int 1), 1), (1, .inr (.istore 2), 2), (2, .inr (.iload 2), 3), (3, .inr (.iload 0), 4), (4, .inr (.if_icmp .ge 24), 7), (7, .inr (.iload 2), 8), (8, .inr (.iload 2), 9), (9, .inr .imul, 10), (10, .inr (.iload 0), 11), (11, .inr .irem, 12), (12, .inr (.iload 1), 13), (13, .inr (.if_icmp .ne 18), 16), (16, .inr (.iload 2), 17), (17, .inr .ireturn, 18), (18, .inr (.iinc 2 1), 21), (21, .inr (.goto 2), 24), (24, .inl (.int (-1)), 25), (25, .inr .ireturn, 26)]
/-- MaskBenchModel.differences(II)I -/
def c_214 : List (Nat × pm_I × Nat) := [(0, .inr (.aload 0), 1), (1, .inr (.iload 2), 2), (2, .inr .i2l, 3), (3, .inl (.long 0), 4), (4, .inl (.long 2), 7), (7, .inr (.invokestatic 191), 10), (10, .inr (.ifCond .ne 17), 13), (13, .inl (.int 1), 14), (14, .inr (.goto 43), 17), (17, .inr (.aload 0), 18), (18, .inr (.iload 1), 19), (19, .inr (.invokevirtual 194), 22), (22, .inr (.ifCond .ne 29), 25), (25, .inl (.int 2), 26), (26, .inr (.goto 43), 29), (29, .inr (.aload 0), 30), (30, .inr (.iload 1), 31), (31, .inr (.invokevirtual 195), 34), (34, .inl (.int 1), 35), (35, .inr (.if_icmp .ne 42), 38), (38, .inl (.int 5), 39), (39, .inr (.goto 43), 42), (42, .inl (.int 0), 43), (43, .inr (.invokevirtual 192), 46), (46, .inr (.ifCond .ne 51), 49), (49, .inl (.int (-1)), 50), (50, .inr .ireturn, 51), (51, .inl (.int 289), 54), (54, .inr (.istore 3), 55), (55, .inl (.int (-1)), 56), (56, .inr (.istore 4), 58), (58, .inl (.int 0), 59), (59, .inr (.istore 5), 61), (61, .inl (.int 1), 62), (62, .inr (.istore 6), 64), (64, .inr (.iload 6), 66), (66, .inr (.aload 0), 67), (67, .inr (.iload 1), 68), (68, .inr (.invokevirtual 195), 71), (71, .inr (.if_icmp .ge 161), 74), (74, .inr (.aload 0), 75), (75, .inr (.iload 1), 76), (76, .inr (.iload 6), 78), (78, .inr (.aload 0), 79), (79, .inr (.iload 1), 80), (80, .inr (.invokevirtual 196), 83), (83, .inr .irem, 84), (84, .inr (.iload 6), 86), (86, .inr (.aload 0), 87), (87, .inr (.iload 1), 88), (88, .inr (.invokevirtual 196), 91), (91, .inr .idiv, 92), (92, .inr (.invokevirtual 215), 95), (95, .inr (.istore 7), 97), (97, .inr (.iload 7), 99), (99, .inr (.iload 3), 100), (100, .inr (.if_icmp .ge 108), 103), (103, .inr (.iload 7), 105), (105, .inr (.goto 109), 108), (108, .inr (.iload 3), 109), (109, .inr (.istore 3), 110), (110, .inr (.iload 7), 112), (112, .inr (.iload 4), 114), (114, .inr (.if_icmp .le 121), 117), (117, .inl (.int 1), 118), (118, .inr (.goto 137), 121), (121, .inr (.iload 7), 123), (123, .inr (.iload 4), 125), (125, .inr (.if_icmp .ne 135), 128), (128, .inr (.iload 5), 130), (130, .inl (.int 1), 131), (131, .inr .iadd, 132), (132, .inr (.goto 137), 135), (135, .inr (.iload 5), 137), (137, .inr (.istore 5), 139), (139, .inr (.iload 7), 141), (141, .inr (.iload 4), 143), (143, .inr (.if_icmp .le 151), 146), (146, .inr (.iload 7), 148), (148, .inr (.goto 153), 151), (151, .inr (.iload 4), 153), (153, .inr (.istore 4), 155), (155, .inr (.iinc 6 1), 158), (158, .inr (.goto 64), 161), (161, .inr (.iload 2), 162), (162, .inr (.ifCond .ne 169), 165), (165, .inr (.iload 3), 166), (166, .inr (.goto 181), 169), (169, .inr (.iload 2), 170), (170, .inl (.int 1), 171), (171, .inr (.if_icmp .ne 179), 174), (174, .inr (.iload 4), 176), (176, .inr (.goto 181), 179), (179, .inr (.iload 5), 181), (181, .inr .ireturn, 182)]
/-- MaskBenchModel.differencesAt(III)I -/
def c_215 : List (Nat × pm_I × Nat) := [(0, .inl (.int 0), 1), (1, .inr (.istore 4), 3), (3, .inl (.int 0), 4), (4, .inr (.istore 5), 6), (6, .inr (.iload 5), 8), (8, .inr (.aload 0), 9), (9, .inr (.iload 1), 10), (10, .inr (.invokevirtual 197), 13), (13, .inr (.if_icmp .ge 79), 16), (16, .inl (.int 0), 17), (17, .inr (.istore 6), 19), (19, .inr (.iload 6), 21), (21, .inr (.aload 0), 22), (22, .inr (.iload 1), 23), (23, .inr (.invokevirtual 196), 26), (26, .inr (.if_icmp .ge 73), 29), (29, .inr (.iload 4), 31), (31, .inr (.aload 0), 32), (32, .inr (.iload 1), 33), (33, .inr (.iload 6), 35), (35, .inr (.iload 5), 37), (37, .inr (.invokevirtual 200), 40), (40, .inr (.ifCond .eq 63), 43), (43, .inr (.aload 0), 44), (44, .inr (.iload 1), 45), (45, .inr (.iload 6), 47), (47, .inr (.iload 2), 48), (48, .inr .iadd, 49), (49, .inr (.iload 5), 51), (51, .inr (.iload 3), 52), (52, .inr .iadd, 53), (53, .inr (.invokevirtual 200), 56), (56, .inr (.ifCond .eq 63), 59), (59, .inl (.int 1), 60), (60, .inr (.goto 64), 63), (63, .inl (.int 0), 64), (64, .inr .iadd, 65), (65, .inr (.istore 4), 67), (67, .inr (.iinc 6 1), 70), (70, .inr (.goto 19), 73), (73, .inr (.iinc 5 1), 76), (76, .inr (.goto 6), 79), (79, .inr (.iload 4), 81), (81, .inr .ireturn, 82)]
/-- MaskBenchModel.window(IIIII)I -/
def c_216 : List (Nat × pm_I × Nat) := [(0, .inr (.aload 0), 1), (1, .inr (.iload 4), 3), (3, .inr .i2l, 4), (4, .inl (.long 1), 5), (5, .inl (.long 99), 8), (8, .inr (.invokestatic 191), 11), (11, .inr (.ifCond .eq 27), 14), (14, .inr (.iload 5), 16), (16, .inr .i2l, 17), (17, .inl (.long 1), 18), (18, .inl (.long 99), 21), (21, .inr (.invokestatic 191), 24), (24, .inr (.ifCond .ne 31), 27), (27, .inl (.int 1), 28), (28, .inr (.goto 54), 31), (31, .inr (.aload 0), 32), (32, .inr (.iload 1), 33), (33, .inr (.invokevirtual 194), 36), (36, .inr (.ifCond .eq 53), 39), (39, .inr (.aload 0), 40), (40, .inr (.iload 1), 41), (41, .inr (.iload 2), 42), (42, .inr (.iload 3), 43), (43, .inr (.invokevirtual 208), 46), (46, .inr (.ifCond .eq 53), 49), (49, .inl (.int 0), 50), (50, .inr (.goto 54), 53), (53, .inl (.int 2), 54), (54, .inr (.invokevirtual 192), 57), (57, .inr (.ifCond .ne 62), 60), (60, .inl (.int (-1)), 61), (61, .inr .ireturn, 62), (62, .inl (.int 0), 63), (63, .inr (.istore 6), 65), (65, .inl (.int 0), 66), (66, .inr (.istore 7), 68), (68, .inr (.iload 7), 70), (70, .inr (.iload 5), 72), (72, .inr (.if_icmp .ge 123), 75), (75, .inl (.int 0), 76), (76, .inr (.istore 8), 78), (78, .inr (.iload 8), 80), (80, .inr (.iload 4), 82), (82, .inr (.if_icmp .ge 117), 85), (85, .inr (.iload 6), 87), (87, .inr (.aload 0), 88), (88, .inr (.iload 1), 89), (89, .inr (.iload 2), 90), (90, .inr (.iload 8), 92), (92, .inr .iadd, 93), (93, .inr (.iload 3), 94), (94, .inr (.iload 7), 96), (96, .inr .iadd, 97), (97, .inr (.invokevirtual 200), 100), (100, .inr (.ifCond .eq 107), 103), (103, .inl (.int 1), 104), (104, .inr (.goto 108), 107), (107, .inl (.int 0), 108), (108, .inr .iadd, 109), (109, .inr (.istore 6), 111), (111, .inr (.iinc 8 1), 114), (114, .inr (.goto 78), 117), (117, .inr (.iinc 7 1), 120), (120, .inr (.goto 68), 123), (123, .inr (.iload 6), 125), (125, .inr .ireturn, 126)]
/-- MaskBenchModel.thing(III)I -/
def c_217 : List (Nat × pm_I × Nat) := [(0, .inr (.iload 1), 1), (1, .inr .i2l, 2), (2, .inl (.long 0), 3), (3, .inl (.long 2), 6), (6, .inr (.invokestatic 191), 9), (9, .inr (.ifCond .eq 37), 12), (12, .inr (.iload 3), 13), (13, .inr .i2l, 14), (14, .inl (.long 0), 15), (15, .inr (.iload 1), 16), (16, .inl (.int 1), 17), (17, .inr (.if_icmp .ne 24), 20), (20, .inl (.long 1), 21), (21, .inr (.goto 27), 24), (24, .inl (.long 2), 27), (27, .inr (.invokestatic 191), 30), (30, .inr (.ifCond .eq 37), 33), (33, .inl (.int 1), 34), (34, .inr (.goto 38), 37), (37, .inl (.int 0), 38), (38, .inr (.istore 4), 40), (40, .inr (.aload 0), 41), (41, .inr (.iload 4), 43), (43, .inr (.ifCond .ne 50), 46), (46, .inl (.int 1), 47), (47, .inr (.goto 64), 50), (50, .inr (.aload 0), 51), (51, .inr (.iload 1), 52), (52, .inr (.iload 2), 53), (53, .inr (.invokevirtual 218), 56), (56, .inr (.ifCond .eq 63), 59), (59, .inl (.int 0), 60), (60, .inr (.goto 64), 63), (63, .inl (.int 2), 64), (64, .inr (.invokevirtual 192), 67), (67, .inr (.ifCond .ne 72), 70), (70, .inl (.int (-1)), 71), (71, .inr .ireturn, 72), (72, .inr (.aload 0), 73), (73, .inr (.getfield 720), 76), (76, .inr (.iload 1), 77), (77, .inr (.invokestatic 220), 80), (80, .inl (.int 3), 81), (81, .inr (.iload 2), 82), (82, .inr .imul, 83), (83, .inr .iadd, 84), (84, .inr (.iload 3), 85), (85, .inr .iadd, 86), (86, .inr .iaload, 87), (87, .inr .ireturn, 88)]
/-- MaskBenchModel.isThing(II)Z -/
def c_218 : List (Nat × pm_I × Nat) := [(0, .inr (.iload 2), 1), (1, .inr .i2l, 2), (2, .inl (.long 0), 3), (3, .inr (.aload 0), 4), (4, .inr (.getfield 720), 7), (7, .inr (.iload 1), 8), (8, .inr (.invokestatic 219), 11), (11, .inr .iaload, 12), (12, .inl (.int 1), 13), (13, .inr .isub, 14), (14, .inr .i2l, 15), (15, .inr (.invokestatic 191), 18), (18, .inr .ireturn, 19)]
/-- MaskBenchModel.manyOf(I)I -/
def c_219 : List (Nat × pm_I × Nat) := [(0, .inr (.iload 0), 1), (1, .inr (.ifCond .ne 8), 4), (4, .inl (.int 0), 5), (5, .inr (.goto 18), 8), (8, .inr (.iload 0), 9), (9, .inl (.int 1), 10), (10, .inr (.if_icmp .ne 17), 13), (13, .inl (.int 1), 14), (14, .inr (.goto 18), 17), (17, .inl (.int 2), 18), (18, .inr .ireturn, 19)]
/-- MaskBenchModel.rowOf(I)I -/
def c_220 : List (Nat × pm_I × Nat) := [(0, .inr (.iload 0), 1), (1, .inr (.ifCond .ne 8), 4), (4, .inl (.int 5), 5), (5, .inr (.goto 20), 8), (8, .inr (.iload 0), 9), (9, .inl (.int 1), 10), (10, .inr (.if_icmp .ne 18), 13), (13, .inl (.int 29), 15), (15, .inr (.goto 20), 18), (18, .inl (.int 65), 20), (20, .inr .ireturn, 21)]
/-- MaskBenchModel.add(IIII)I -/
def c_221 : List (Nat × pm_I × Nat) := [(0, .inr (.iload 1), 1), (1, .inr (.ifCond .eq 9), 4), (4, .inr (.iload 1), 5), (5, .inl (.int 2), 6), (6, .inr (.if_icmp .ne 50), 9), (9, .inr (.iload 2), 10), (10, .inr .i2l, 11), (11, .inl (.long 0), 12), (12, .inl (.long 99), 15), (15, .inr (.invokestatic 191), 18), (18, .inr (.ifCond .eq 50), 21), (21, .inr (.iload 3), 22), (22, .inr .i2l, 23), (23, .inl (.long 0), 24), (24, .inl (.long 99), 27), (27, .inr (.invokestatic 191), 30), (30, .inr (.ifCond .eq 50), 33), (33, .inr (.iload 4), 35), (35, .inr .i2l, 36), (36, .inl (.long 1), 37), (37, .inl (.long 999), 40), (40, .inr (.invokestatic 191), 43), (43, .inr (.ifCond .eq 50), 46), (46, .inl (.int 1), 47), (47, .inr (.goto 51), 50), (50, .inl (.int 0), 51), (51, .inr (.istore 5), 53), (53, .inr (.aload 0), 54), (54, .inr (.iload 5), 56), (56, .inr (.ifCond .ne 63), 59), (59, .inl (.int 1), 60), (60, .inr (.goto 82), 63), (63, .inr (.aload 0), 64), (64, .inr (.getfield 720), 67), (67, .inr (.iload 1), 68), (68, .inr (.invokestatic 219), 71), (71, .inr .iaload, 72), (72, .inl (.int 8), 74), (74, .inr (.if_icmp .ne 81), 77), (77, .inl (.int 3), 78), (78, .inr (.goto 82), 81), (81, .inl (.int 0), 82), (82, .inr (.invokevirtual 192), 85), (85, .inr (.ifCond .eq 100), 88), (88, .inr (.aload 0), 89), (89, .inr (.iload 1), 90), (90, .inr (.iload 2), 91), (91, .inr (.iload 3), 92), (92, .inr (.iload 4), 94), (94, .inr (.invokevirtual 222), 97), (97, .inr (.goto 101), 100), (100, .inl (.int (-1)), 101), (101, .inr .ireturn, 102)]
/-- MaskBenchModel.comes(IIII)I -/
def c_222 : List (Nat × pm_I × Nat) := [(0, .inr (.aload 0), 1), (1, .inr (.invokevirtual 223), 4), (4, .inr (.aload 0), 5), (5, .inr (.getfield 720), 8), (8, .inr (.iload 1), 9), (9, .inr (.invokestatic 219), 12), (12, .inr .iaload, 13), (13, .inr (.istore 5), 15), (15, .inr (.iload 1), 16), (16, .inr (.invokestatic 220), 19), (19, .inl (.int 3), 20), (20, .inr (.iload 5), 22), (22, .inr .imul, 23), (23, .inr .iadd, 24), (24, .inr (.istore 6), 26), (26, .inr (.aload 0), 27), (27, .inr (.getfield 720), 30), (30, .inr (.iload 6), 32), (32, .inr (.iload 2), 33), (33, .inr .iastore, 34), (34, .inr (.aload 0), 35), (35, .inr (.getfield 720), 38), (38, .inr (.iload 6), 40), (40, .inl (.int 1), 41), (41, .inr .iadd, 42), (42, .inr (.iload 3), 43), (43, .inr .iastore, 44), (44, .inr (.aload 0), 45), (45, .inr (.getfield 720), 48), (48, .inr (.iload 6), 50), (50, .inl (.int 2), 51), (51, .inr .iadd, 52), (52, .inr (.iload 4), 54), (54, .inr .iastore, 55), (55, .inr (.aload 0), 56), (56, .inr (.getfield 720), 59), (59, .inr (.iload 1), 60), (60, .inr (.invokestatic 219), 63), (63, .inr .dup2, 64), (64, .inr .iaload, 65), (65, .inl (.int 1), 66), (66, .inr .iadd, 67), (67, .inr .iastore, 68), (68, .inr (.iload 5), 70), (70, .inr .ireturn, 71)]
/-- MaskBenchModel.remembers()V -/
def c_223 : List (Nat × pm_I × Nat) := [(0, .inr (.aload 0), 1), (1, .inr (.getfield 723), 4), (4, .inl (.int 12), 6), (6, .inr (.if_icmp .ne 49), 9), (9, .inl (.int 0), 10), (10, .inr (.istore 1), 11), (11, .inr (.iload 1), 12), (12, .inl (.int 979), 15), (15, .inr (.if_icmp .ge 39), 18), (18, .inr (.aload 0), 19), (19, .inr (.getfield 722), 22), (22, .inr (.iload 1), 23), (23, .inr (.aload 0), 24), (24, .inr (.getfield 722), 27), (27, .inr (.iload 1), 28), (28, .inl (.int 89), 30), (30, .inr .iadd, 31), (31, .inr .iaload, 32), (32, .inr .iastore, 33), (33, .inr (.iinc 1 1), 36), (36, .inr (.goto 11), 39), (39, .inr (.aload 0), 40), (40, .inr .dup, 41), (41, .inr (.getfield 723), 44), (44, .inl (.int 1), 45), (45, .inr .isub, 46), (46, .inr (.putfield 723), 49), (49, .inl (.int 0), 50), (50, .inr (.istore 1), 51), (51, .inr (.iload 1), 52), (52, .inl (.int 89), 54), (54, .inr (.if_icmp .ge 83), 57), (57, .inr (.aload 0), 58), (58, .inr (.getfield 722), 61), (61, .inl (.int 89), 63), (63, .inr (.aload 0), 64), (64, .inr (.getfield 723), 67), (67, .inr .imul, 68), (68, .inr (.iload 1), 69), (69, .inr .iadd, 70), (70, .inr (.aload 0), 71), (71, .inr (.getfield 720), 74), (74, .inr (.iload 1), 75), (75, .inr .iaload, 76), (76, .inr .iastore, 77), (77, .inr (.iinc 1 1), 80), (80, .inr (.goto 51), 83), (83, .inr (.aload 0), 84), (84, .inr .dup, 85), (85, .inr (.getfield 723), 88), (88, .inl (.int 1), 89), (89, .inr .iadd, 90), (90, .inr (.putfield 723), 93), (93, .inr .return_, 94)]
/-- MaskBenchModel.drop(II)I -/
def c_224 : List (Nat × pm_I × Nat) := [(0, .inr (.aload 0), 1), (1, .inr (.iload 1), 2), (2, .inr (.ifCond .eq 14), 5), (5, .inr (.iload 1), 6), (6, .inl (.int 2), 7), (7, .inr (.if_icmp .eq 14), 10), (10, .inl (.int 1), 11), (11, .inr (.goto 28), 14), (14, .inr (.aload 0), 15), (15, .inr (.iload 1), 16), (16, .inr (.iload 2), 17), (17, .inr (.invokevirtual 218), 20), (20, .inr (.ifCond .eq 27), 23), (23, .inl (.int 0), 24), (24, .inr (.goto 28), 27), (27, .inl (.int 2), 28), (28, .inr (.invokevirtual 192), 31), (31, .inr (.ifCond .eq 43), 34), (34, .inr (.aload 0), 35), (35, .inr (.iload 1), 36), (36, .inr (.iload 2), 37), (37, .inr (.invokevirtual 225), 40), (40, .inr (.goto 44), 43), (43, .inl (.int (-1)), 44), (44, .inr .ireturn, 45)]
/-- MaskBenchModel.goes(II)I -/
def c_225 : List (Nat × pm_I × Nat) := [(0, .inr (.aload 0), 1), (1, .inr (.invokevirtual 223), 4), (4, .inr (.aload 0), 5), (5, .inr (.getfield 720), 8), (8, .inr (.iload 1), 9), (9, .inr (.invokestatic 219), 12), (12, .inr .dup2, 13), (13, .inr .iaload, 14), (14, .inl (.int 1), 15), (15, .inr .isub, 16), (16, .inr .iastore, 17), (17, .inr (.iload 1), 18), (18, .inr (.invokestatic 220), 21), (21, .inl (.int 3), 22), (22, .inr (.iload 2), 23), (23, .inr .imul, 24), (24, .inr .iadd, 25), (25, .inr (.istore 3), 26), (26, .inr (.iload 3), 27), (27, .inr (.iload 1), 28), (28, .inr (.invokestatic 220), 31), (31, .inl (.int 3), 32), (32, .inr (.aload 0), 33), (33, .inr (.getfield 720), 36), (36, .inr (.iload 1), 37), (37, .inr (.invokestatic 219), 40), (40, .inr .iaload, 41), (41, .inr .imul, 42), (42, .inr .iadd, 43), (43, .inr (.if_icmp .ge 66), 46), (46, .inr (.aload 0), 47), (47, .inr (.getfield 720), 50), (50, .inr (.iload 3), 51), (51, .inr (.aload 0), 52), (52, .inr (.getfield 720), 55), (55, .inr (.iload 3), 56), (56, .inl (.int 3), 57), (57, .inr .iadd, 58), (58, .inr .iaload, 59), (59, .inr .iastore, 60), (60, .inr (.iinc 3 1), 63), (63, .inr (.goto 26), 66), (66, .inr (.aload 0), 67), (67, .inr (.getfield 720), 70), (70, .inr (.iload 1), 71), (71, .inr (.invokestatic 219), 74), (74, .inr .iaload, 75), (75, .inr .ireturn, 76)]
/-- MaskBenchModel.lose(II)I -/
def c_226 : List (Nat × pm_I × Nat) := [(0, .inl (.int 0), 1), (1, .inr (.istore 3), 2), (2, .inl (.int 0), 3), (3, .inr (.istore 4), 5), (5, .inr (.iload 4), 7), (7, .inr (.aload 0), 8), (8, .inr (.getfield 720), 11), (11, .inl (.int 1), 12), (12, .inr .iaload, 13), (13, .inr (.if_icmp .ge 66), 16), (16, .inr (.iload 3), 17), (17, .inr (.ifCond .ne 54), 20), (20, .inr (.aload 0), 21), (21, .inr (.getfield 720), 24), (24, .inl (.int 29), 26), (26, .inl (.int 3), 27), (27, .inr (.iload 4), 29), (29, .inr .imul, 30), (30, .inr .iadd, 31), (31, .inr .iaload, 32), (32, .inr (.iload 1), 33), (33, .inr (.if_icmp .ne 58), 36), (36, .inr (.aload 0), 37), (37, .inr (.getfield 720), 40), (40, .inl (.int 29), 42), (42, .inl (.int 3), 43), (43, .inr (.iload 4), 45), (45, .inr .imul, 46), (46, .inr .iadd, 47), (47, .inl (.int 1), 48), (48, .inr .iadd, 49), (49, .inr .iaload, 50), (50, .inr (.iload 2), 51), (51, .inr (.if_icmp .ne 58), 54), (54, .inl (.int 1), 55), (55, .inr (.goto 59), 58), (58, .inl (.int 0), 59), (59, .inr (.istore 3), 60), (60, .inr (.iinc 4 1), 63), (63, .inr (.goto 5), 66), (66, .inr (.aload 0), 67), (67, .inr (.iload 1), 68), (68, .inr .i2l, 69), (69, .inl (.long 0), 70), (70, .inl (.long 99), 73), (73, .inr (.invokestatic 191), 76), (76, .inr (.ifCond .eq 91), 79), (79, .inr (.iload 2), 80), (80, .inr .i2l, 81), (81, .inl (.long 0), 82), (82, .inl (.long 99), 85), (85, .inr (.invokestatic 191), 88), (88, .inr (.ifCond .ne 95), 91), (91, .inl (.int 1), 92), (92, .inr (.goto 119), 95), (95, .inr (.aload 0), 96), (96, .inr (.getfield 720), 99), (99, .inl (.int 1), 100), (100, .inr .iaload, 101), (101, .inl (.int 12), 103), (103, .inr (.if_icmp .ne 110), 106), (106, .inl (.int 3), 107), (107, .inr (.goto 119), 110), (110, .inr (.iload 3), 111), (111, .inr (.ifCond .eq 118), 114), (114, .inl (.int 4), 115), (115, .inr (.goto 119), 118), (118, .inl (.int 0), 119), (119, .inr (.invokevirtual 192), 122), (122, .inr (.ifCond .eq 138), 125), (125, .inr (.aload 0), 126), (126, .inl (.int 1), 127), (127, .inr (.iload 1), 128), (128, .inr (.iload 2), 129), (129, .inl (.int 0), 130), (130, .inr (.invokevirtual 222), 133), (133, .inl (.int 1), 134), (134, .inr .iadd, 135), (135, .inr (.goto 139), 138), (138, .inl (.int (-1)), 139), (139, .inr .ireturn, 140)]
/-- MaskBenchModel.heal(I)I -/
def c_227 : List (Nat × pm_I × Nat) := [(0, .inr (.aload 0), 1), (1, .inr (.aload 0), 2), (2, .inl (.int 1), 3), (3, .inr (.iload 1), 4), (4, .inr (.invokevirtual 218), 7), (7, .inr (.ifCond .eq 14), 10), (10, .inl (.int 0), 11), (11, .inr (.goto 15), 14), (14, .inl (.int 2), 15), (15, .inr (.invokevirtual 192), 18), (18, .inr (.ifCond .eq 30), 21), (21, .inr (.aload 0), 22), (22, .inl (.int 1), 23), (23, .inr (.iload 1), 24), (24, .inr (.invokevirtual 225), 27), (27, .inr (.goto 31), 30), (30, .inl (.int (-1)), 31), (31, .inr .ireturn, 32)]
/-- MaskBenchModel.light(I)I -/
def c_228 : List (Nat × pm_I × Nat) := [(0, .inr (.aload 0), 1), (1, .inr (.iload 1), 2), (2, .inr .i2l, 3), (3, .inl (.long 0), 4), (4, .inl (.long 99), 7), (7, .inr (.invokestatic 191), 10), (10, .inr (.ifCond .ne 17), 13), (13, .inl (.int 1), 14), (14, .inr (.goto 32), 17), (17, .inr (.aload 0), 18), (18, .inr (.getfield 720), 21), (21, .inl (.int 3), 22), (22, .inr .iaload, 23), (23, .inr (.iload 1), 24), (24, .inr (.if_icmp .ne 31), 27), (27, .inl (.int 4), 28), (28, .inr (.goto 32), 31), (31, .inl (.int 0), 32), (32, .inr (.invokevirtual 192), 35), (35, .inr (.ifCond .eq 47), 38), (38, .inr (.aload 0), 39), (39, .inl (.int 3), 40), (40, .inr (.iload 1), 41), (41, .inr (.invokevirtual 229), 44), (44, .inr (.goto 48), 47), (47, .inl (.int (-1)), 48), (48, .inr .ireturn, 49)]
/-- MaskBenchModel.changes(II)I -/
def c_229 : List (Nat × pm_I × Nat) := [(0, .inr (.aload 0), 1), (1, .inr (.getfield 720), 4), (4, .inr (.iload 1), 5), (5, .inr .iaload, 6), (6, .inr (.istore 3), 7), (7, .inr (.aload 0), 8), (8, .inr (.invokevirtual 223), 11), (11, .inr (.aload 0), 12), (12, .inr (.getfield 720), 15), (15, .inr (.iload 1), 16), (16, .inr (.iload 2), 17), (17, .inr .iastore, 18), (18, .inr (.iload 3), 19), (19, .inr .ireturn, 20)]
/-- MaskBenchModel.use(I)I -/
def c_230 : List (Nat × pm_I × Nat) := [(0, .inr (.aload 0), 1), (1, .inr (.aload 0), 2), (2, .inr (.iload 1), 3), (3, .inr (.invokevirtual 194), 6), (6, .inr (.ifCond .ne 13), 9), (9, .inl (.int 2), 10), (10, .inr (.goto 28), 13), (13, .inr (.aload 0), 14), (14, .inr (.getfield 720), 17), (17, .inl (.int 4), 18), (18, .inr .iaload, 19), (19, .inr (.iload 1), 20), (20, .inr (.if_icmp .ne 27), 23), (23, .inl (.int 4), 24), (24, .inr (.goto 28), 27), (27, .inl (.int 0), 28), (28, .inr (.invokevirtual 192), 31), (31, .inr (.ifCond .eq 43), 34), (34, .inr (.aload 0), 35), (35, .inl (.int 4), 36), (36, .inr (.iload 1), 37), (37, .inr (.invokevirtual 229), 40), (40, .inr (.goto 44), 43), (43, .inl (.int (-1)), 44), (44, .inr .ireturn, 45)]
/-- MaskBenchModel.slide(II)I -/
def c_231 : List (Nat × pm_I × Nat) := [(0, .inr (.iload 1), 1), (1, .inr .i2l, 2), (2, .inl (.long 0), 3), (3, .inl (.long 99), 6), (6, .inr (.invokestatic 191), 9), (9, .inr (.ifCond .eq 28), 12), (12, .inr (.iload 2), 13), (13, .inr .i2l, 14), (14, .inl (.long 0), 15), (15, .inl (.long 99), 18), (18, .inr (.invokestatic 191), 21), (21, .inr (.ifCond .eq 28), 24), (24, .inl (.int 1), 25), (25, .inr (.goto 29), 28), (28, .inl (.int 0), 29), (29, .inr (.istore 3), 30), (30, .inr (.aload 0), 31), (31, .inr (.iload 3), 32), (32, .inr (.ifCond .ne 39), 35), (35, .inl (.int 1), 36), (36, .inr (.goto 63), 39), (39, .inr (.iload 1), 40), (40, .inr (.iload 2), 41), (41, .inr .iadd, 42), (42, .inr (.ifCond .ne 49), 45), (45, .inl (.int 4), 46), (46, .inr (.goto 63), 49), (49, .inr (.aload 0), 50), (50, .inr (.getfield 720), 53), (53, .inl (.int 0), 54), (54, .inr .iaload, 55), (55, .inr (.ifCond .ne 62), 58), (58, .inl (.int 5), 59), (59, .inr (.goto 63), 62), (62, .inl (.int 0), 63), (63, .inr (.invokevirtual 192), 66), (66, .inr (.ifCond .ne 71), 69), (69, .inl (.int (-1)), 70), (70, .inr .ireturn, 71), (71, .inr (.aload 0), 72), (72, .inr (.invokevirtual 223), 75), (75, .inl (.int 0), 76), (76, .inr (.istore 4), 78), (78, .inr (.iload 4), 80), (80, .inr (.aload 0), 81), (81, .inr (.getfield 720), 84), (84, .inl (.int 0), 85), (85, .inr .iaload, 86), (86, .inr (.if_icmp .ge 153), 89), (89, .inr (.aload 0), 90), (90, .inr (.getfield 720), 93), (93, .inl (.int 5), 94), (94, .inl (.int 3), 95), (95, .inr (.iload 4), 97), (97, .inr .imul, 98), (98, .inr .iadd, 99), (99, .inr (.aload 0), 100), (100, .inr (.getfield 720), 103), (103, .inl (.int 5), 104), (104, .inl (.int 3), 105), (105, .inr (.iload 4), 107), (107, .inr .imul, 108), (108, .inr .iadd, 109), (109, .inr .iaload, 110), (110, .inr (.iload 1), 111), (111, .inr .iadd, 112), (112, .inl (.int 100), 114), (114, .inr .irem, 115), (115, .inr .iastore, 116), (116, .inr (.aload 0), 117), (117, .inr (.getfield 720), 120), (120, .inl (.int 5), 121), (121, .inl (.int 3), 122), (122, .inr (.iload 4), 124), (124, .inr .imul, 125), (125, .inr .iadd, 126), (126, .inl (.int 1), 127), (127, .inr .iadd, 128), (128, .inr (.aload 0), 129), (129, .inr (.getfield 720), 132), (132, .inl (.int 5), 133), (133, .inl (.int 3), 134), (134, .inr (.iload 4), 136), (136, .inr .imul, 137), (137, .inr .iadd, 138), (138, .inl (.int 1), 139), (139, .inr .iadd, 140), (140, .inr .iaload, 141), (141, .inr (.iload 2), 142), (142, .inr .iadd, 143), (143, .inl (.int 100), 145), (145, .inr .irem, 146), (146, .inr .iastore, 147), (147, .inr (.iinc 4 1), 150), (150, .inr (.goto 78), 153), (153, .inr (.aload 0), 154), (154, .inr (.getfield 720), 157), (157, .inl (.int 0), 158), (158, .inr .iaload, 159), (159, .inr .ireturn, 160)]
/-- MaskBenchModel.undo()I -/
def c_232 : List (Nat × pm_I × Nat) := [(0, .inr (.aload 0), 1), (1, .inr (.aload 0), 2), (2, .inr (.getfield 723), 5), (5, .inr (.ifCond .ne 12), 8), (8, .inl (.int 5), 9), (9, .inr (.goto 13), 12), (12, .inl (.int 0), 13), (13, .inr (.invokevirtual 192), 16), (16, .inr (.ifCond .ne 21), 19), (19, .inl (.int (-1)), 20), (20, .inr .ireturn, 21), (21, .inr (.aload 0), 22), (22, .inr .dup, 23), (23, .inr (.getfield 723), 26), (26, .inl (.int 1), 27), (27, .inr .isub, 28), (28, .inr (.putfield 723), 31), (31, .inl (.int 0), 32), (32, .inr (.istore 1), 33), (33, .inr (.iload 1), 34), (34, .inl (.int 89), 36), (36, .inr (.if_icmp .ge 65), 39), (39, .inr (.aload 0), 40), (40, .inr (.getfield 720), 43), (43, .inr (.iload 1), 44), (44, .inr (.aload 0), 45), (45, .inr (.getfield 722), 48), (48, .inl (.int 89), 50), (50, .inr (.aload 0), 51), (51, .inr (.getfield 723), 54), (54, .inr .imul, 55), (55, .inr (.iload 1), 56), (56, .inr .iadd, 57), (57, .inr .iaload, 58), (58, .inr .iastore, 59), (59, .inr (.iinc 1 1), 62), (62, .inr (.goto 33), 65), (65, .inr (.aload 0), 66), (66, .inr (.getfield 723), 69), (69, .inr .ireturn, 70)]
/-- MaskBenchModel.at(III)I -/
def c_233 : List (Nat × pm_I × Nat) := [(0, .inr (.aload 0), 1), (1, .inr (.iload 3), 2), (2, .inr .i2l, 3), (3, .inl (.long 0), 4), (4, .inl (.long 5), 7), (7, .inr (.invokestatic 191), 10), (10, .inr (.iload 1), 11), (11, .inr (.iload 2), 12), (12, .inr (.invokevirtual 234), 15), (15, .inr (.istore 4), 17), (17, .inr (.aload 0), 18), (18, .inr (.iload 4), 20), (20, .inr (.ifCond .ne 45), 23), (23, .inr (.iload 3), 24), (24, .inl (.int 4), 25), (25, .inr (.if_icmp .ne 45), 28), (28, .inr (.aload 0), 29), (29, .inr (.aload 0), 30), (30, .inr (.getfield 720), 33), (33, .inl (.int 4), 34), (34, .inr .iaload, 35), (35, .inr (.invokevirtual 235), 38), (38, .inr (.ifCond .ne 45), 41), (41, .inl (.int 5), 42), (42, .inr (.goto 47), 45), (45, .inr (.iload 4), 47), (47, .inr (.invokevirtual 192), 50), (50, .inr (.ifCond .ne 55), 53), (53, .inl (.int (-1)), 54), (54, .inr .ireturn, 55), (55, .inr (.aload 0), 56), (56, .inr (.aload 0), 57), (57, .inr (.getfield 720), 60), (60, .inl (.int 4), 61), (61, .inr .iaload, 62), (62, .inr (.invokevirtual 236), 65), (65, .inr (.aload 0), 66), (66, .inr (.invokevirtual 237), 69), (69, .inr (.iload 3), 70), (70, .inr (.tableswitch 176 0 4 #[104, 116, 128, 139, 161]), 104), (104, .inr (.aload 0), 105), (105, .inr (.getfield 733), 108), (108, .inr (.aload 0), 109), (109, .inr (.iload 1), 110), (110, .inr (.iload 2), 111), (111, .inr (.invokevirtual 239), 114), (114, .inr .iaload, 115), (115, .inr .ireturn, 116), (116, .inr (.aload 0), 117), (117, .inr (.getfield 732), 120), (120, .inr (.aload 0), 121), (121, .inr (.iload 1), 122), (122, .inr (.iload 2), 123), (123, .inr (.invokevirtual 239), 126), (126, .inr .iaload, 127), (127, .inr .ireturn, 128), (128, .inr (.aload 0), 129), (129, .inr (.aload 0), 130), (130, .inr (.getfield 733), 133), (133, .inr (.iload 1), 134), (134, .inr (.iload 2), 135), (135, .inr (.invokevirtual 245), 138), (138, .inr .ireturn, 139), (139, .inr (.aload 0), 140), (140, .inr (.aload 0), 141), (141, .inr (.getfield 732), 144), (144, .inr (.iload 1), 145), (145, .inr (.iload 2), 146), (146, .inr (.invokevirtual 245), 149), (149, .inr (.aload 0), 150), (150, .inr (.aload 0), 151), (151, .inr (.getfield 733), 154), (154, .inr (.iload 1), 155), (155, .inr (.iload 2), 156), (156, .inr (.invokevirtual 245), 159), (159, .inr .isub, 160), (160, .inr .ireturn, 161), (161, .inr (.aload 0), 162), (162, .inr (.aload 0), 163), (163, .inr (.aload 0), 164), (164, .inr (.getfield 733), 167), (167, .inr (.iload 1), 168), (168, .inr (.iload 2), 169), (169, .inr (.invokevirtual 245), 172), (172, .inr (.invokevirtual 246), 175), (175, .inr .ireturn, 176), (176, .inr (.aload 0), 177), (177, .inr (.iload 1), 178), (178, .inr (.iload 2), 179), (179, .inr (.invokevirtual 250), 182), (182, .inr .ireturn, 183)]
/-- MaskBenchModel.whyAt(ZII)I -/
def c_234 : List (Nat × pm_I × Nat) := [(0, .inr (.iload 1), 1), (1, .inr (.ifCond .ne 8), 4), (4, .inl (.int 1), 5), (5, .inr (.goto 35), 8), (8, .inr (.aload 0), 9), (9, .inr (.getfield 718), 12), (12, .inr (.ifCond .le 34), 15), (15, .inr (.aload 0), 16), (16, .inr (.aload 0), 17), (17, .inr (.getfield 720), 20), (20, .inl (.int 4), 21), (21, .inr .iaload, 22), (22, .inr (.iload 2), 23), (23, .inr (.iload 3), 24), (24, .inr (.invokevirtual 208), 27), (27, .inr (.ifCond .eq 34), 30), (30, .inl (.int 0), 31), (31, .inr (.goto 35), 34), (34, .inl (.int 2), 35), (35, .inr .ireturn, 36)]
/-- MaskBenchModel.canRestore(I)Z -/
def c_235 : List (Nat × pm_I × Nat) := [(0, .inr (.aload 0), 1), (1, .inr (.iload 1), 2), (2, .inr (.invokevirtual 195), 5), (5, .inl (.int 1), 6), (6, .inr (.if_icmp .le 44), 9), (9, .inr (.aload 0), 10), (10, .inr (.iload 1), 11), (11, .inr (.invokevirtual 206), 14), (14, .inr (.ifCond .eq 44), 17), (17, .inr (.aload 0), 18), (18, .inr (.iload 1), 19), (19, .inr (.invokevirtual 204), 22), (22, .inr (.ifCond .le 44), 25), (25, .inr (.aload 0), 26), (26, .inr (.getfield 726), 29), (29, .inr (.iload 1), 30), (30, .inr .iaload, 31), (31, .inr (.aload 0), 32), (32, .inr (.getfield 724), 35), (35, .inr (.iload 1), 36), (36, .inr .iaload, 37), (37, .inr (.if_icmp .eq 44), 40), (40, .inl (.int 1), 41), (41, .inr (.goto 45), 44), (44, .inl (.int 0), 45), (45, .inr .ireturn, 46)]
/-- MaskBenchModel.uses(I)V -/
def c_236 : List (Nat × pm_I × Nat) := [(0, .inr (.aload 0), 1), (1, .inr (.iload 1), 2), (2, .inr (.putfield 728), 5), (5, .inr (.aload 0), 6), (6, .inl (.int 0), 7), (7, .inr (.putfield 729), 10), (10, .inr (.aload 0), 11), (11, .inl (.int 0), 12), (12, .inr (.putfield 730), 15), (15, .inr .return_, 16)]
/-- MaskBenchModel.laysShadows()V -/
def c_237 : List (Nat × pm_I × Nat) := [(0, .inr (.aload 0), 1), (1, .inr (.invokevirtual 238), 4), (4, .inl (.int 0), 5), (5, .inr (.istore 1), 6), (6, .inr (.iload 1), 7), (7, .inr (.aload 0), 8), (8, .inr (.invokevirtual 240), 11), (11, .inr (.if_icmp .ge 53), 14), (14, .inl (.int 0), 15), (15, .inr (.istore 2), 16), (16, .inr (.iload 2), 17), (17, .inr (.aload 0), 18), (18, .inr (.invokevirtual 241), 21), (21, .inr (.if_icmp .ge 47), 24), (24, .inr (.aload 0), 25), (25, .inr (.getfield 732), 28), (28, .inr (.aload 0), 29), (29, .inr (.iload 2), 30), (30, .inr (.iload 1), 31), (31, .inr (.invokevirtual 239), 34), (34, .inr (.aload 0), 35), (35, .inr (.iload 2), 36), (36, .inr (.iload 1), 37), (37, .inr (.invokevirtual 242), 40), (40, .inr .iastore, 41), (41, .inr (.iinc 2 1), 44), (44, .inr (.goto 16), 47), (47, .inr (.iinc 1 1), 50), (50, .inr (.goto 6), 53), (53, .inl (.int 0), 54), (54, .inr (.istore 1), 55), (55, .inr (.iload 1), 56), (56, .inr (.aload 0), 57), (57, .inr (.getfield 720), 60), (60, .inl (.int 2), 61), (61, .inr .iaload, 62), (62, .inr (.if_icmp .ge 120), 65), (65, .inr (.aload 0), 66), (66, .inr (.getfield 732), 69), (69, .inr (.aload 0), 70), (70, .inr (.aload 0), 71), (71, .inr (.getfield 720), 74), (74, .inl (.int 65), 76), (76, .inl (.int 3), 77), (77, .inr (.iload 1), 78), (78, .inr .imul, 79), (79, .inr .iadd, 80), (80, .inr .iaload, 81), (81, .inr (.aload 0), 82), (82, .inr (.getfield 720), 85), (85, .inl (.int 65), 87), (87, .inl (.int 3), 88), (88, .inr (.iload 1), 89), (89, .inr .imul, 90), (90, .inr .iadd, 91), (91, .inl (.int 1), 92), (92, .inr .iadd, 93), (93, .inr .iaload, 94), (94, .inr (.invokevirtual 239), 97), (97, .inr .dup2, 98), (98, .inr .iaload, 99), (99, .inr (.aload 0), 100), (100, .inr (.getfield 720), 103), (103, .inl (.int 65), 105), (105, .inl (.int 3), 106), (106, .inr (.iload 1), 107), (107, .inr .imul, 108), (108, .inr .iadd, 109), (109, .inl (.int 2), 110), (110, .inr .iadd, 111), (111, .inr .iaload, 112), (112, .inr .iadd, 113), (113, .inr .iastore, 114), (114, .inr (.iinc 1 1), 117), (117, .inr (.goto 55), 120), (120, .inl (.int 0), 121), (121, .inr (.istore 1), 122), (122, .inr (.iload 1), 123), (123, .inr (.aload 0), 124), (124, .inr (.invokevirtual 244), 127), (127, .inr (.if_icmp .ge 161), 130), (130, .inr (.aload 0), 131), (131, .inr (.getfield 733), 134), (134, .inr (.iload 1), 135), (135, .inr (.aload 0), 136), (136, .inr (.getfield 731), 139), (139, .inr (.iload 1), 140), (140, .inr .baload, 141), (141, .inr (.ifCond .eq 148), 144), (144, .inl (.int 0), 145), (145, .inr (.goto 154), 148), (148, .inr (.aload 0), 149), (149, .inr (.getfield 732), 152), (152, .inr (.iload 1), 153), (153, .inr .iaload, 154), (154, .inr .iastore, 155), (155, .inr (.iinc 1 1), 158), (158, .inr (.goto 122), 161), (161, .inr .return_, 162)]
/-- MaskBenchModel.laysLost()V -/
def c_238 : List (Nat × pm_I × Nat) := [(0, .inl (.int 0), 1), (1, .inr (.istore 1), 2), (2, .inr (.iload 1), 3), (3, .inl (.int 289), 6), (6, .inr (.if_icmp .ge 22), 9), (9, .inr (.aload 0), 10), (10, .inr (.getfield 731), 13), (13, .inr (.iload 1), 14), (14, .inl (.int 0), 15), (15, .inr .bastore, 16), (16, .inr (.iinc 1 1), 19), (19, .inr (.goto 2), 22), (22, .inl (.int 0), 23), (23, .inr (.istore 1), 24), (24, .inr (.iload 1), 25), (25, .inr (.aload 0), 26), (26, .inr (.getfield 720), 29), (29, .inl (.int 1), 30), (30, .inr .iaload, 31), (31, .inr (.if_icmp .ge 74), 34), (34, .inr (.aload 0), 35), (35, .inr (.getfield 731), 38), (38, .inr (.aload 0), 39), (39, .inr (.aload 0), 40), (40, .inr (.getfield 720), 43), (43, .inl (.int 29), 45), (45, .inl (.int 3), 46), (46, .inr (.iload 1), 47), (47, .inr .imul, 48), (48, .inr .iadd, 49), (49, .inr .iaload, 50), (50, .inr (.aload 0), 51), (51, .inr (.getfield 720), 54), (54, .inl (.int 29), 56), (56, .inl (.int 3), 57), (57, .inr (.iload 1), 58), (58, .inr .imul, 59), (59, .inr .iadd, 60), (60, .inl (.int 1), 61), (61, .inr .iadd, 62), (62, .inr .iaload, 63), (63, .inr (.invokevirtual 239), 66), (66, .inl (.int 1), 67), (67, .inr .bastore, 68), (68, .inr (.iinc 1 1), 71), (71, .inr (.goto 24), 74), (74, .inr .return_, 75)]
/-- MaskBenchModel.cellAt(II)I -/
def c_239 : List (Nat × pm_I × Nat) := [(0, .inr (.iload 2), 1), (1, .inr (.aload 0), 2), (2, .inr (.invokevirtual 240), 5), (5, .inr (.invokestatic 202), 8), (8, .inr (.aload 0), 9), (9, .inr (.invokevirtual 241), 12), (12, .inr .imul, 13), (13, .inr (.iload 1), 14), (14, .inr (.aload 0), 15), (15, .inr (.invokevirtual 241), 18), (18, .inr (.invokestatic 202), 21), (21, .inr .iadd, 22), (22, .inr .ireturn, 23)]
/-- MaskBenchModel.high()I -/
def c_240 : List (Nat × pm_I × Nat) := [(0, .inr (.aload 0), 1), (1, .inr (.aload 0), 2), (2, .inr (.getfield 728), 5), (5, .inr (.invokevirtual 197), 8), (8, .inr .ireturn, 9)]
/-- MaskBenchModel.wide()I -/
def c_241 : List (Nat × pm_I × Nat) := [(0, .inr (.aload 0), 1), (1, .inr (.aload 0), 2), (2, .inr (.getfield 728), 5), (5, .inr (.invokevirtual 196), 8), (8, .inr .ireturn, 9)]
/-- MaskBenchModel.wholeAt(II)I -/
def c_242 : List (Nat × pm_I × Nat) := [(0, .inr (.aload 0), 1), (1, .inr (.getfield 720), 4), (4, .inl (.int 3), 5), (5, .inr .iaload, 6), (6, .inr (.istore 3), 7), (7, .inl (.int 0), 8), (8, .inr (.istore 4), 10), (10, .inr (.iload 4), 12), (12, .inr (.aload 0), 13), (13, .inr (.getfield 720), 16), (16, .inl (.int 0), 17), (17, .inr .iaload, 18), (18, .inr (.if_icmp .ge 78), 21), (21, .inr (.aload 0), 22), (22, .inr (.iload 1), 23), (23, .inr (.aload 0), 24), (24, .inr (.getfield 720), 27), (27, .inl (.int 5), 28), (28, .inl (.int 3), 29), (29, .inr (.iload 4), 31), (31, .inr .imul, 32), (32, .inr .iadd, 33), (33, .inr .iaload, 34), (34, .inr .isub, 35), (35, .inr (.iload 2), 36), (36, .inr (.aload 0), 37), (37, .inr (.getfield 720), 40), (40, .inl (.int 5), 41), (41, .inl (.int 3), 42), (42, .inr (.iload 4), 44), (44, .inr .imul, 45), (45, .inr .iadd, 46), (46, .inl (.int 1), 47), (47, .inr .iadd, 48), (48, .inr .iaload, 49), (49, .inr .isub, 50), (50, .inr (.invokevirtual 243), 53), (53, .inr (.ifCond .eq 72), 56), (56, .inr (.iload 3), 57), (57, .inr (.aload 0), 58), (58, .inr (.getfield 720), 61), (61, .inl (.int 5), 62), (62, .inl (.int 3), 63), (63, .inr (.iload 4), 65), (65, .inr .imul, 66), (66, .inr .iadd, 67), (67, .inl (.int 2), 68), (68, .inr .iadd, 69), (69, .inr .iaload, 70), (70, .inr .iadd, 71), (71, .inr (.istore 3), 72), (72, .inr (.iinc 4 1), 75), (75, .inr (.goto 10), 78), (78, .inr (.iload 3), 79), (79, .inr .ireturn, 80)]
/-- MaskBenchModel.letsThrough(II)Z -/
def c_243 : List (Nat × pm_I × Nat) := [(0, .inr (.aload 0), 1), (1, .inr (.aload 0), 2), (2, .inr (.getfield 728), 5), (5, .inr (.iload 1), 6), (6, .inr (.aload 0), 7), (7, .inr (.getfield 729), 10), (10, .inr .isub, 11), (11, .inr (.iload 2), 12), (12, .inr (.invokevirtual 200), 15), (15, .inr (.aload 0), 16), (16, .inr (.getfield 730), 19), (19, .inr (.if_icmp .eq 26), 22), (22, .inl (.int 1), 23), (23, .inr (.goto 27), 26), (26, .inl (.int 0), 27), (27, .inr .ireturn, 28)]
/-- MaskBenchModel.cells0()I -/
def c_244 : List (Nat × pm_I × Nat) := [(0, .inr (.aload 0), 1), (1, .inr (.aload 0), 2), (2, .inr (.getfield 728), 5), (5, .inr (.invokevirtual 195), 8), (8, .inr .ireturn, 9)]
/-- MaskBenchModel.decodedAt([III)I -/
def c_245 : List (Nat × pm_I × Nat) := [(0, .inl (.int 0), 1), (1, .inr (.istore 4), 3), (3, .inl (.int 0), 4), (4, .inr (.istore 5), 6), (6, .inr (.iload 5), 8), (8, .inr (.aload 0), 9), (9, .inr (.invokevirtual 240), 12), (12, .inr (.if_icmp .ge 78), 15), (15, .inl (.int 0), 16), (16, .inr (.istore 6), 18), (18, .inr (.iload 6), 20), (20, .inr (.aload 0), 21), (21, .inr (.invokevirtual 241), 24), (24, .inr (.if_icmp .ge 72), 27), (27, .inr (.iload 4), 29), (29, .inr (.aload 1), 30), (30, .inr (.aload 0), 31), (31, .inr (.invokevirtual 241), 34), (34, .inr (.iload 5), 36), (36, .inr .imul, 37), (37, .inr (.iload 6), 39), (39, .inr .iadd, 40), (40, .inr .iaload, 41), (41, .inr (.aload 0), 42), (42, .inr (.aload 0), 43), (43, .inr (.getfield 728), 46), (46, .inr (.iload 6), 48), (48, .inr (.iload 2), 49), (49, .inr .isub, 50), (50, .inr (.aload 0), 51), (51, .inr (.getfield 729), 54), (54, .inr .isub, 55), (55, .inr (.iload 5), 57), (57, .inr (.iload 3), 58), (58, .inr .isub, 59), (59, .inr (.invokevirtual 203), 62), (62, .inr .imul, 63), (63, .inr .iadd, 64), (64, .inr (.istore 4), 66), (66, .inr (.iinc 6 1), 69), (69, .inr (.goto 18), 72), (72, .inr (.iinc 5 1), 75), (75, .inr (.goto 6), 78), (78, .inr (.iload 4), 80), (80, .inr .ireturn, 81)]
/-- MaskBenchModel.restoredFrom(I)I -/
def c_246 : List (Nat × pm_I × Nat) := [(0, .inr (.aload 0), 1), (1, .inr (.getfield 724), 4), (4, .inr (.aload 0), 5), (5, .inr (.getfield 728), 8), (8, .inr .iaload, 9), (9, .inr (.istore 2), 10), (10, .inr (.iload 1), 11), (11, .inr (.iload 2), 12), (12, .inr (.aload 0), 13), (13, .inr (.invokevirtual 247), 16), (16, .inr (.aload 0), 17), (17, .inr (.aload 0), 18), (18, .inr (.getfield 728), 21), (21, .inr (.invokevirtual 204), 24), (24, .inr (.invokestatic 249), 27), (27, .inr .imul, 28), (28, .inr .isub, 29), (29, .inr (.aload 0), 30), (30, .inr (.getfield 720), 33), (33, .inl (.int 3), 34), (34, .inr .iaload, 35), (35, .inr (.aload 0), 36), (36, .inr (.aload 0), 37), (37, .inr (.getfield 728), 40), (40, .inr (.invokevirtual 205), 43), (43, .inr .imul, 44), (44, .inr .isub, 45), (45, .inr (.aload 0), 46), (46, .inr (.getfield 726), 49), (49, .inr (.aload 0), 50), (50, .inr (.getfield 728), 53), (53, .inr .iaload, 54), (54, .inr (.iload 2), 55), (55, .inr .isub, 56), (56, .inr (.invokestatic 249), 59), (59, .inr .ireturn, 60)]
/-- MaskBenchModel.light()I -/
def c_247 : List (Nat × pm_I × Nat) := [(0, .inl (.int 0), 1), (1, .inr (.istore 1), 2), (2, .inl (.int 0), 3), (3, .inr (.istore 2), 4), (4, .inr (.iload 2), 5), (5, .inr (.aload 0), 6), (6, .inr (.invokevirtual 244), 9), (9, .inr (.if_icmp .ge 27), 12), (12, .inr (.iload 1), 13), (13, .inr (.aload 0), 14), (14, .inr (.getfield 733), 17), (17, .inr (.iload 2), 18), (18, .inr .iaload, 19), (19, .inr .iadd, 20), (20, .inr (.istore 1), 21), (21, .inr (.iinc 2 1), 24), (24, .inr (.goto 4), 27), (27, .inr (.iload 1), 28), (28, .inr (.aload 0), 29), (29, .inr (.getfield 720), 32), (32, .inl (.int 3), 33), (33, .inr .iaload, 34), (34, .inr (.aload 0), 35), (35, .inr (.invokevirtual 244), 38), (38, .inr (.aload 0), 39), (39, .inr (.invokevirtual 248), 42), (42, .inr .isub, 43), (43, .inr .imul, 44), (44, .inr .isub, 45), (45, .inr .ireturn, 46)]
/-- MaskBenchModel.lostCells()I -/
def c_248 : List (Nat × pm_I × Nat) := [(0, .inl (.int 0), 1), (1, .inr (.istore 1), 2), (2, .inl (.int 0), 3), (3, .inr (.istore 2), 4), (4, .inr (.iload 2), 5), (5, .inr (.aload 0), 6), (6, .inr (.invokevirtual 244), 9), (9, .inr (.if_icmp .ge 35), 12), (12, .inr (.iload 1), 13), (13, .inr (.aload 0), 14), (14, .inr (.getfield 731), 17), (17, .inr (.iload 2), 18), (18, .inr .baload, 19), (19, .inr (.ifCond .eq 26), 22), (22, .inl (.int 1), 23), (23, .inr (.goto 27), 26), (26, .inl (.int 0), 27), (27, .inr .iadd, 28), (28, .inr (.istore 1), 29), (29, .inr (.iinc 2 1), 32), (32, .inr (.goto 4), 35), (35, .inr (.iload 1), 36), (36, .inr .ireturn, 37)]
/-- MaskBenchModel.downBy(II)I -/
def c_249 : List (Nat × pm_I × Nat) := [(0, .inr (.iload 0), 1), (1, .inr (.iload 1), 2), (2, .inr .idiv, 3), (3, .inr (.istore 2), 4), (4, .inr (.iload 0), 5), (5, .inr (.iload 1), 6), (6, .inr .irem, 7), (7, .inr (.ifCond .eq 37), 10), (10, .inr (.iload 0), 11), (11, .inr (.ifCond .ge 18), 14), (14, .inl (.int 1), 15), (15, .inr (.goto 19), 18), (18, .inl (.int 0), 19), (19, .inr (.iload 1), 20), (20, .inr (.ifCond .ge 27), 23), (23, .inl (.int 1), 24), (24, .inr (.goto 28), 27), (27, .inl (.int 0), 28), (28, .inr (.if_icmp .eq 37), 31), (31, .inr (.iload 2), 32), (32, .inl (.int 1), 33), (33, .inr .isub, 34), (34, .inr (.goto 38), 37), (37, .inr (.iload 2), 38), (38, .inr .ireturn, 39)]
/-- MaskBenchModel.trueAt(II)I -/
def c_250 : List (Nat × pm_I × Nat) := [(0, .inl (.int 0), 1), (1, .inr (.istore 3), 2), (2, .inl (.int 0), 3), (3, .inr (.istore 4), 5), (5, .inr (.iload 4), 7), (7, .inr (.aload 0), 8), (8, .inr (.getfield 720), 11), (11, .inl (.int 0), 12), (12, .inr .iaload, 13), (13, .inr (.if_icmp .ge 79), 16), (16, .inr (.iload 3), 17), (17, .inr (.aload 0), 18), (18, .inr (.aload 0), 19), (19, .inr (.getfield 720), 22), (22, .inl (.int 5), 23), (23, .inl (.int 3), 24), (24, .inr (.iload 4), 26), (26, .inr .imul, 27), (27, .inr .iadd, 28), (28, .inr .iaload, 29), (29, .inr (.aload 0), 30), (30, .inr (.getfield 720), 33), (33, .inl (.int 5), 34), (34, .inl (.int 3), 35), (35, .inr (.iload 4), 37), (37, .inr .imul, 38), (38, .inr .iadd, 39), (39, .inl (.int 1), 40), (40, .inr .iadd, 41), (41, .inr .iaload, 42), (42, .inr (.invokevirtual 239), 45), (45, .inr (.aload 0), 46), (46, .inr (.iload 1), 47), (47, .inr (.iload 2), 48), (48, .inr (.invokevirtual 239), 51), (51, .inr (.if_icmp .ne 70), 54), (54, .inr (.aload 0), 55), (55, .inr (.getfield 720), 58), (58, .inl (.int 5), 59), (59, .inl (.int 3), 60), (60, .inr (.iload 4), 62), (62, .inr .imul, 63), (63, .inr .iadd, 64), (64, .inl (.int 2), 65), (65, .inr .iadd, 66), (66, .inr .iaload, 67), (67, .inr (.goto 71), 70), (70, .inl (.int 0), 71), (71, .inr .iadd, 72), (72, .inr (.istore 3), 73), (73, .inr (.iinc 4 1), 76), (76, .inr (.goto 5), 79), (79, .inr (.iload 3), 80), (80, .inr .ireturn, 81)]
/-- MaskBenchModel.all(I)I -/
def c_251 : List (Nat × pm_I × Nat) := [(0, .inr (.aload 0), 1), (1, .inr (.aload 0), 2), (2, .inr (.iload 1), 3), (3, .inr (.invokevirtual 252), 6), (6, .inr (.invokevirtual 192), 9), (9, .inr (.ifCond .ne 14), 12), (12, .inl (.int (-1)), 13), (13, .inr .ireturn, 14), (14, .inr (.aload 0), 15), (15, .inr (.aload 0), 16), (16, .inr (.getfield 720), 19), (19, .inl (.int 4), 20), (20, .inr .iaload, 21), (21, .inr (.invokevirtual 236), 24), (24, .inr (.aload 0), 25), (25, .inr (.invokevirtual 237), 28), (28, .inr (.iload 1), 29), (29, .inr (.tableswitch 125 0 6 #[72, 82, 87, 103, 108, 113, 119]), 72), (72, .inr (.aload 0), 73), (73, .inr (.aload 0), 74), (74, .inr (.getfield 733), 77), (77, .inl (.int 0), 78), (78, .inr (.invokevirtual 253), 81), (81, .inr .ireturn, 82), (82, .inr (.aload 0), 83), (83, .inr (.invokevirtual 247), 86), (86, .inr .ireturn, 87), (87, .inr (.aload 0), 88), (88, .inr (.invokevirtual 247), 91), (91, .inr (.aload 0), 92), (92, .inr (.aload 0), 93), (93, .inr (.getfield 728), 96), (96, .inr (.invokevirtual 204), 99), (99, .inr (.invokestatic 249), 102), (102, .inr .ireturn, 103), (103, .inr (.aload 0), 104), (104, .inr (.invokevirtual 254), 107), (107, .inr .ireturn, 108), (108, .inr (.aload 0), 109), (109, .inr (.invokevirtual 248), 112), (112, .inr .ireturn, 113), (113, .inr (.aload 0), 114), (114, .inl (.int 0), 115), (115, .inr (.invokevirtual 256), 118), (118, .inr .ireturn, 119), (119, .inr (.aload 0), 120), (120, .inl (.int 1), 121), (121, .inr (.invokevirtual 256), 124), (124, .inr .ireturn, 125), (125, .inr (.aload 0), 126), (126, .inr (.aload 0), 127), (127, .inr (.getfield 732), 130), (130, .inl (.int 1), 131), (131, .inr (.invokevirtual 253), 134), (134, .inr .ireturn, 135)]
/-- MaskBenchModel.whyAll(I)I -/
def c_252 : List (Nat × pm_I × Nat) := [(0, .inr (.iload 1), 1), (1, .inr .i2l, 2), (2, .inl (.long 0), 3), (3, .inl (.long 7), 6), (6, .inr (.invokestatic 191), 9), (9, .inr (.ifCond .ne 14), 12), (12, .inl (.int 1), 13), (13, .inr .ireturn, 14), (14, .inr (.aload 0), 15), (15, .inr (.getfield 718), 18), (18, .inr (.ifCond .ne 23), 21), (21, .inl (.int 2), 22), (22, .inr .ireturn, 23), (23, .inr (.iload 1), 24), (24, .inl (.int 2), 25), (25, .inr (.if_icmp .ne 41), 28), (28, .inr (.aload 0), 29), (29, .inr (.aload 0), 30), (30, .inr (.getfield 720), 33), (33, .inl (.int 4), 34), (34, .inr .iaload, 35), (35, .inr (.invokevirtual 204), 38), (38, .inr (.ifCond .eq 59), 41), (41, .inr (.iload 1), 42), (42, .inl (.int 3), 43), (43, .inr (.if_icmp .ne 63), 46), (46, .inr (.aload 0), 47), (47, .inr (.aload 0), 48), (48, .inr (.getfield 720), 51), (51, .inl (.int 4), 52), (52, .inr .iaload, 53), (53, .inr (.invokevirtual 235), 56), (56, .inr (.ifCond .ne 63), 59), (59, .inl (.int 5), 60), (60, .inr (.goto 64), 63), (63, .inl (.int 0), 64), (64, .inr .ireturn, 65)]
/-- MaskBenchModel.sumOf([IZ)I -/
def c_253 : List (Nat × pm_I × Nat) := [(0, .inl (.int 0), 1), (1, .inr (.istore 3), 2), (2, .inl (.int 0), 3), (3, .inr (.istore 4), 5), (5, .inr (.iload 4), 7), (7, .inr (.aload 0), 8), (8, .inr (.invokevirtual 244), 11), (11, .inr (.if_icmp .ge 45), 14), (14, .inr (.iload 3), 15), (15, .inr (.iload 2), 16), (16, .inr (.ifCond .eq 29), 19), (19, .inr (.aload 0), 20), (20, .inr (.getfield 731), 23), (23, .inr (.iload 4), 25), (25, .inr .baload, 26), (26, .inr (.ifCond .eq 36), 29), (29, .inr (.aload 1), 30), (30, .inr (.iload 4), 32), (32, .inr .iaload, 33), (33, .inr (.goto 37), 36), (36, .inl (.int 0), 37), (37, .inr .iadd, 38), (38, .inr (.istore 3), 39), (39, .inr (.iinc 4 1), 42), (42, .inr (.goto 5), 45), (45, .inr (.iload 3), 46), (46, .inr .ireturn, 47)]
/-- MaskBenchModel.errorNow()I -/
def c_254 : List (Nat × pm_I × Nat) := [(0, .inr (.aload 0), 1), (1, .inr (.aload 0), 2), (2, .inr (.getfield 733), 5), (5, .inr (.invokevirtual 255), 8), (8, .inl (.int 0), 9), (9, .inr (.istore 1), 10), (10, .inr (.aload 0), 11), (11, .inr (.invokevirtual 247), 14), (14, .inr (.aload 0), 15), (15, .inr (.aload 0), 16), (16, .inr (.getfield 728), 19), (19, .inr (.invokevirtual 204), 22), (22, .inr (.invokestatic 249), 25), (25, .inr (.istore 2), 26), (26, .inr (.aload 0), 27), (27, .inr (.getfield 724), 30), (30, .inr (.aload 0), 31), (31, .inr (.getfield 728), 34), (34, .inr .iaload, 35), (35, .inr (.istore 3), 36), (36, .inr (.aload 0), 37), (37, .inr (.aload 0), 38), (38, .inr (.getfield 728), 41), (41, .inr (.invokevirtual 205), 44), (44, .inr (.istore 4), 46), (46, .inl (.int 0), 47), (47, .inr (.istore 5), 49), (49, .inr (.iload 5), 51), (51, .inr (.aload 0), 52), (52, .inr (.invokevirtual 240), 55), (55, .inr (.if_icmp .ge 150), 58), (58, .inl (.int 0), 59), (59, .inr (.istore 6), 61), (61, .inr (.iload 6), 63), (63, .inr (.aload 0), 64), (64, .inr (.invokevirtual 241), 67), (67, .inr (.if_icmp .ge 144), 70), (70, .inr (.aload 0), 71), (71, .inr (.getfield 734), 74), (74, .inr (.aload 0), 75), (75, .inr (.iload 6), 77), (77, .inr (.iload 5), 79), (79, .inr (.invokevirtual 239), 82), (82, .inr .iaload, 83), (83, .inr (.iload 3), 84), (84, .inr (.iload 2), 85), (85, .inr .imul, 86), (86, .inr .isub, 87), (87, .inr (.aload 0), 88), (88, .inr (.getfield 720), 91), (91, .inl (.int 3), 92), (92, .inr .iaload, 93), (93, .inr (.iload 4), 95), (95, .inr .imul, 96), (96, .inr .isub, 97), (97, .inr (.aload 0), 98), (98, .inr (.getfield 726), 101), (101, .inr (.aload 0), 102), (102, .inr (.getfield 728), 105), (105, .inr .iaload, 106), (106, .inr (.iload 3), 107), (107, .inr .isub, 108), (108, .inr (.invokestatic 249), 111), (111, .inr (.aload 0), 112), (112, .inr (.iload 6), 114), (114, .inr (.iload 5), 116), (116, .inr (.invokevirtual 250), 119), (119, .inr .isub, 120), (120, .inr (.istore 7), 122), (122, .inr (.iload 1), 123), (123, .inr (.iload 7), 125), (125, .inr (.ifCond .ge 134), 128), (128, .inr (.iload 7), 130), (130, .inr .ineg, 131), (131, .inr (.goto 136), 134), (134, .inr (.iload 7), 136), (136, .inr .iadd, 137), (137, .inr (.istore 1), 138), (138, .inr (.iinc 6 1), 141), (141, .inr (.goto 61), 144), (144, .inr (.iinc 5 1), 147), (147, .inr (.goto 49), 150), (150, .inr (.iload 1), 151), (151, .inr .ireturn, 152)]
/-- MaskBenchModel.decodes([I)V -/
def c_255 : List (Nat × pm_I × Nat) := [(0, .inl (.int 0), 1), (1, .inr (.istore 2), 2), (2, .inr (.iload 2), 3), (3, .inr (.aload 0), 4), (4, .inr (.invokevirtual 240), 7), (7, .inr (.if_icmp .ge 50), 10), (10, .inl (.int 0), 11), (11, .inr (.istore 3), 12), (12, .inr (.iload 3), 13), (13, .inr (.aload 0), 14), (14, .inr (.invokevirtual 241), 17), (17, .inr (.if_icmp .ge 44), 20), (20, .inr (.aload 0), 21), (21, .inr (.getfield 734), 24), (24, .inr (.aload 0), 25), (25, .inr (.iload 3), 26), (26, .inr (.iload 2), 27), (27, .inr (.invokevirtual 239), 30), (30, .inr (.aload 0), 31), (31, .inr (.aload 1), 32), (32, .inr (.iload 3), 33), (33, .inr (.iload 2), 34), (34, .inr (.invokevirtual 245), 37), (37, .inr .iastore, 38), (38, .inr (.iinc 3 1), 41), (41, .inr (.goto 12), 44), (44, .inr (.iinc 2 1), 47), (47, .inr (.goto 2), 50), (50, .inr .return_, 51)]
/-- MaskBenchModel.moved(Z)I -/
def c_256 : List (Nat × pm_I × Nat) := [(0, .inl (.int 0), 1), (1, .inr (.istore 2), 2), (2, .inl (.int 0), 3), (3, .inr (.istore 3), 4), (4, .inl (.int 0), 5), (5, .inr (.istore 4), 7), (7, .inr (.iload 4), 9), (9, .inr (.aload 0), 10), (10, .inr (.invokevirtual 244), 13), (13, .inr (.if_icmp .ge 108), 16), (16, .inr (.aload 0), 17), (17, .inr (.aload 0), 18), (18, .inr (.getfield 732), 21), (21, .inr (.iload 4), 23), (23, .inr (.aload 0), 24), (24, .inr (.invokevirtual 241), 27), (27, .inr .irem, 28), (28, .inr (.iload 4), 30), (30, .inr (.aload 0), 31), (31, .inr (.invokevirtual 241), 34), (34, .inr .idiv, 35), (35, .inr (.invokevirtual 245), 38), (38, .inr (.aload 0), 39), (39, .inr (.aload 0), 40), (40, .inr (.getfield 733), 43), (43, .inr (.iload 4), 45), (45, .inr (.aload 0), 46), (46, .inr (.invokevirtual 241), 49), (49, .inr .irem, 50), (50, .inr (.iload 4), 52), (52, .inr (.aload 0), 53), (53, .inr (.invokevirtual 241), 56), (56, .inr .idiv, 57), (57, .inr (.invokevirtual 245), 60), (60, .inr .isub, 61), (61, .inr (.istore 5), 63), (63, .inr (.iload 2), 64), (64, .inr (.iload 5), 66), (66, .inr (.ifCond .ne 73), 69), (69, .inl (.int 0), 70), (70, .inr (.goto 74), 73), (73, .inl (.int 1), 74), (74, .inr .iadd, 75), (75, .inr (.istore 2), 76), (76, .inr (.iload 5), 78), (78, .inr (.iload 3), 79), (79, .inr (.if_icmp .le 87), 82), (82, .inr (.iload 5), 84), (84, .inr (.goto 101), 87), (87, .inr (.iload 5), 89), (89, .inr .ineg, 90), (90, .inr (.iload 3), 91), (91, .inr (.if_icmp .le 100), 94), (94, .inr (.iload 5), 96), (96, .inr .ineg, 97), (97, .inr (.goto 101), 100), (100, .inr (.iload 3), 101), (101, .inr (.istore 3), 102), (102, .inr (.iinc 4 1), 105), (105, .inr (.goto 7), 108), (108, .inr (.iload 1), 109), (109, .inr (.ifCond .eq 116), 112), (112, .inr (.iload 3), 113), (113, .inr (.goto 117), 116), (116, .inr (.iload 2), 117), (117, .inr .ireturn, 118)]
/-- MaskBenchModel.peak(I)I -/
def c_257 : List (Nat × pm_I × Nat) := [(0, .inr (.aload 0), 1), (1, .inr (.iload 1), 2), (2, .inr .i2l, 3), (3, .inl (.long 0), 4), (4, .inl (.long 3), 7), (7, .inr (.invokestatic 191), 10), (10, .inr (.ifCond .ne 17), 13), (13, .inl (.int 1), 14), (14, .inr (.goto 29), 17), (17, .inr (.aload 0), 18), (18, .inr (.getfield 718), 21), (21, .inr (.ifCond .ne 28), 24), (24, .inl (.int 2), 25), (25, .inr (.goto 29), 28), (28, .inl (.int 0), 29), (29, .inr (.invokevirtual 192), 32), (32, .inr (.ifCond .ne 37), 35), (35, .inl (.int (-1)), 36), (36, .inr .ireturn, 37), (37, .inr (.aload 0), 38), (38, .inr (.aload 0), 39), (39, .inr (.getfield 720), 42), (42, .inl (.int 4), 43), (43, .inr .iaload, 44), (44, .inr (.invokevirtual 236), 47), (47, .inr (.aload 0), 48), (48, .inr (.invokevirtual 237), 51), (51, .inr (.aload 0), 52), (52, .inr (.aload 0), 53), (53, .inr (.getfield 733), 56), (56, .inr (.invokevirtual 255), 59), (59, .inr (.aload 0), 60), (60, .inr (.invokevirtual 258), 63), (63, .inr (.istore 2), 64), (64, .inr (.iload 1), 65), (65, .inr (.ifCond .ne 75), 68), (68, .inr (.aload 0), 69), (69, .inr (.getfield 736), 72), (72, .inr (.goto 100), 75), (75, .inr (.iload 1), 76), (76, .inl (.int 1), 77), (77, .inr (.if_icmp .ne 87), 80), (80, .inr (.aload 0), 81), (81, .inr (.getfield 737), 84), (84, .inr (.goto 100), 87), (87, .inr (.iload 1), 88), (88, .inl (.int 2), 89), (89, .inr (.if_icmp .ne 96), 92), (92, .inr (.iload 2), 93), (93, .inr (.goto 100), 96), (96, .inr (.aload 0), 97), (97, .inr (.getfield 738), 100), (100, .inr .ireturn, 101)]
/-- MaskBenchModel.laysMost()I -/
def c_258 : List (Nat × pm_I × Nat) := [(0, .inl (.int 0), 1), (1, .inr (.istore 1), 2), (2, .inr (.aload 0), 3), (3, .inl (.int 0), 4), (4, .inr (.putfield 738), 7), (7, .inl (.int 1), 8), (8, .inr (.istore 2), 9), (9, .inr (.iload 2), 10), (10, .inr (.aload 0), 11), (11, .inr (.invokevirtual 244), 14), (14, .inr (.if_icmp .ge 44), 17), (17, .inr (.aload 0), 18), (18, .inr (.getfield 734), 21), (21, .inr (.iload 2), 22), (22, .inr .iaload, 23), (23, .inr (.aload 0), 24), (24, .inr (.getfield 734), 27), (27, .inr (.iload 1), 28), (28, .inr .iaload, 29), (29, .inr (.if_icmp .le 36), 32), (32, .inr (.iload 2), 33), (33, .inr (.goto 37), 36), (36, .inr (.iload 1), 37), (37, .inr (.istore 1), 38), (38, .inr (.iinc 2 1), 41), (41, .inr (.goto 9), 44), (44, .inl (.int 0), 45), (45, .inr (.istore 2), 46), (46, .inr (.iload 2), 47), (47, .inr (.aload 0), 48), (48, .inr (.invokevirtual 244), 51), (51, .inr (.if_icmp .ge 89), 54), (54, .inr (.aload 0), 55), (55, .inr .dup, 56), (56, .inr (.getfield 738), 59), (59, .inr (.aload 0), 60), (60, .inr (.getfield 734), 63), (63, .inr (.iload 2), 64), (64, .inr .iaload, 65), (65, .inr (.aload 0), 66), (66, .inr (.getfield 734), 69), (69, .inr (.iload 1), 70), (70, .inr .iaload, 71), (71, .inr (.if_icmp .ne 78), 74), (74, .inl (.int 1), 75), (75, .inr (.goto 79), 78), (78, .inl (.int 0), 79), (79, .inr .iadd, 80), (80, .inr (.putfield 738), 83), (83, .inr (.iinc 2 1), 86), (86, .inr (.goto 46), 89), (89, .inr (.aload 0), 90), (90, .inr (.iload 1), 91), (91, .inr (.aload 0), 92), (92, .inr (.invokevirtual 241), 95), (95, .inr .irem, 96), (96, .inr (.putfield 736), 99), (99, .inr (.aload 0), 100), (100, .inr (.iload 1), 101), (101, .inr (.aload 0), 102), (102, .inr (.invokevirtual 241), 105), (105, .inr .idiv, 106), (106, .inr (.putfield 737), 109), (109, .inr (.aload 0), 110), (110, .inr (.getfield 734), 113), (113, .inr (.iload 1), 114), (114, .inr .iaload, 115), (115, .inr .ireturn, 116)]
/-- MaskBenchModel.found(II)I -/
def c_259 : List (Nat × pm_I × Nat) := [(0, .inr (.iload 1), 1), (1, .inl (.int (-1)), 2), (2, .inr (.if_icmp .lt 30), 5), (5, .inr (.iload 2), 6), (6, .inr .i2l, 7), (7, .inl (.long 0), 8), (8, .inr (.iload 1), 9), (9, .inl (.int (-1)), 10), (10, .inr (.if_icmp .ne 17), 13), (13, .inl (.long 0), 14), (14, .inr (.goto 20), 17), (17, .inl (.long 2), 20), (20, .inr (.invokestatic 191), 23), (23, .inr (.ifCond .eq 30), 26), (26, .inl (.int 1), 27), (27, .inr (.goto 31), 30), (30, .inl (.int 0), 31), (31, .inr (.istore 3), 32), (32, .inr (.aload 0), 33), (33, .inr (.iload 3), 34), (34, .inr (.ifCond .ne 41), 37), (37, .inl (.int 1), 38), (38, .inr (.goto 70), 41), (41, .inr (.aload 0), 42), (42, .inr (.getfield 718), 45), (45, .inr (.ifCond .ne 52), 48), (48, .inl (.int 2), 49), (49, .inr (.goto 70), 52), (52, .inr (.aload 0), 53), (53, .inr (.aload 0), 54), (54, .inr (.getfield 720), 57), (57, .inl (.int 4), 58), (58, .inr .iaload, 59), (59, .inr (.invokevirtual 235), 62), (62, .inr (.ifCond .eq 69), 65), (65, .inl (.int 0), 66), (66, .inr (.goto 70), 69), (69, .inl (.int 5), 70), (70, .inr (.invokevirtual 192), 73), (73, .inr (.ifCond .ne 78), 76), (76, .inl (.int (-1)), 77), (77, .inr .ireturn, 78), (78, .inr (.aload 0), 79), (79, .inr (.aload 0), 80), (80, .inr (.getfield 720), 83), (83, .inl (.int 4), 84), (84, .inr .iaload, 85), (85, .inr (.invokevirtual 236), 88), (88, .inr (.aload 0), 89), (89, .inr (.invokevirtual 237), 92), (92, .inr (.aload 0), 93), (93, .inr (.invokevirtual 260), 96), (96, .inr (.iload 1), 97), (97, .inl (.int (-1)), 98), (98, .inr (.if_icmp .ne 108), 101), (101, .inr (.aload 0), 102), (102, .inr (.getfield 740), 105), (105, .inr (.goto 134), 108), (108, .inr (.iload 1), 109), (109, .inr (.aload 0), 110), (110, .inr (.getfield 740), 113), (113, .inr (.if_icmp .ge 129), 116), (116, .inr (.aload 0), 117), (117, .inr (.getfield 739), 120), (120, .inl (.int 3), 121), (121, .inr (.iload 1), 122), (122, .inr .imul, 123), (123, .inr (.iload 2), 124), (124, .inr .iadd, 125), (125, .inr .iaload, 126), (126, .inr (.goto 134), 129), (129, .inr (.aload 0), 130), (130, .inl (.int 5), 131), (131, .inr (.invokevirtual 261), 134), (134, .inr .ireturn, 135)]
/-- MaskBenchModel.finds()V -/
def c_260 : List (Nat × pm_I × Nat) := [(0, .inr (.aload 0), 1), (1, .inl (.int 0), 2), (2, .inr (.putfield 740), 5), (5, .inr (.aload 0), 6), (6, .inr (.getfield 740), 9), (9, .inl (.int 8), 11), (11, .inr (.if_icmp .ge 159), 14), (14, .inr (.aload 0), 15), (15, .inr (.aload 0), 16), (16, .inr (.getfield 733), 19), (19, .inr (.invokevirtual 255), 22), (22, .inr (.aload 0), 23), (23, .inr (.aload 0), 24), (24, .inr (.invokevirtual 258), 27), (27, .inr (.invokevirtual 246), 30), (30, .inr (.istore 1), 31), (31, .inr (.iload 1), 32), (32, .inr (.ifCond .gt 36), 35), (35, .inr .return_, 36), (36, .inr (.aload 0), 37), (37, .inr (.getfield 739), 40), (40, .inl (.int 3), 41), (41, .inr (.aload 0), 42), (42, .inr (.getfield 740), 45), (45, .inr .imul, 46), (46, .inr (.aload 0), 47), (47, .inr (.getfield 736), 50), (50, .inr .iastore, 51), (51, .inr (.aload 0), 52), (52, .inr (.getfield 739), 55), (55, .inl (.int 3), 56), (56, .inr (.aload 0), 57), (57, .inr (.getfield 740), 60), (60, .inr .imul, 61), (61, .inl (.int 1), 62), (62, .inr .iadd, 63), (63, .inr (.aload 0), 64), (64, .inr (.getfield 737), 67), (67, .inr .iastore, 68), (68, .inr (.aload 0), 69), (69, .inr (.getfield 739), 72), (72, .inl (.int 3), 73), (73, .inr (.aload 0), 74), (74, .inr (.getfield 740), 77), (77, .inr .imul, 78), (78, .inl (.int 2), 79), (79, .inr .iadd, 80), (80, .inr (.iload 1), 81), (81, .inr .iastore, 82), (82, .inr (.aload 0), 83), (83, .inr .dup, 84), (84, .inr (.getfield 740), 87), (87, .inl (.int 1), 88), (88, .inr .iadd, 89), (89, .inr (.putfield 740), 92), (92, .inl (.int 0), 93), (93, .inr (.istore 2), 94), (94, .inr (.iload 2), 95), (95, .inr (.aload 0), 96), (96, .inr (.invokevirtual 244), 99), (99, .inr (.if_icmp .ge 156), 102), (102, .inr (.aload 0), 103), (103, .inr (.getfield 731), 106), (106, .inr (.iload 2), 107), (107, .inr .baload, 108), (108, .inr (.ifCond .ne 150), 111), (111, .inr (.aload 0), 112), (112, .inr (.iload 2), 113), (113, .inr (.aload 0), 114), (114, .inr (.invokevirtual 241), 117), (117, .inr .irem, 118), (118, .inr (.aload 0), 119), (119, .inr (.getfield 736), 122), (122, .inr .isub, 123), (123, .inr (.iload 2), 124), (124, .inr (.aload 0), 125), (125, .inr (.invokevirtual 241), 128), (128, .inr .idiv, 129), (129, .inr (.aload 0), 130), (130, .inr (.getfield 737), 133), (133, .inr .isub, 134), (134, .inr (.invokevirtual 243), 137), (137, .inr (.ifCond .eq 150), 140), (140, .inr (.aload 0), 141), (141, .inr (.getfield 733), 144), (144, .inr (.iload 2), 145), (145, .inr .dup2, 146), (146, .inr .iaload, 147), (147, .inr (.iload 1), 148), (148, .inr .isub, 149), (149, .inr .iastore, 150), (150, .inr (.iinc 2 1), 153), (153, .inr (.goto 94), 156), (156, .inr (.goto 5), 159), (159, .inr .return_, 160)]
/-- MaskBenchModel.refuse(I)I -/
def c_261 : List (Nat × pm_I × Nat) := [(0, .inr (.aload 0), 1), (1, .inr (.iload 1), 2), (2, .inr (.putfield 704), 5), (5, .inl (.int (-1)), 6), (6, .inr .ireturn, 7)]
/-- MaskBenchModel.filled(I)I -/
def c_262 : List (Nat × pm_I × Nat) := [(0, .inr (.aload 0), 1), (1, .inr (.iload 1), 2), (2, .inr .i2l, 3), (3, .inl (.long 0), 4), (4, .inl (.long 1), 5), (5, .inr (.invokestatic 191), 8), (8, .inr (.ifCond .ne 15), 11), (11, .inl (.int 1), 12), (12, .inr (.goto 44), 15), (15, .inr (.aload 0), 16), (16, .inr (.getfield 718), 19), (19, .inr (.ifCond .ne 26), 22), (22, .inl (.int 2), 23), (23, .inr (.goto 44), 26), (26, .inr (.aload 0), 27), (27, .inr (.aload 0), 28), (28, .inr (.getfield 720), 31), (31, .inl (.int 4), 32), (32, .inr .iaload, 33), (33, .inr (.invokevirtual 235), 36), (36, .inr (.ifCond .eq 43), 39), (39, .inl (.int 0), 40), (40, .inr (.goto 44), 43), (43, .inl (.int 5), 44), (44, .inr (.invokevirtual 192), 47), (47, .inr (.ifCond .ne 52), 50), (50, .inl (.int (-1)), 51), (51, .inr .ireturn, 52), (52, .inr (.aload 0), 53), (53, .inr (.aload 0), 54), (54, .inr (.getfield 720), 57), (57, .inl (.int 4), 58), (58, .inr .iaload, 59), (59, .inr (.invokevirtual 236), 62), (62, .inr (.aload 0), 63), (63, .inr (.invokevirtual 237), 66), (66, .inr (.aload 0), 67), (67, .inr (.invokevirtual 263), 70), (70, .inr (.istore 2), 71), (71, .inr (.iload 1), 72), (72, .inr (.ifCond .ne 82), 75), (75, .inr (.aload 0), 76), (76, .inr (.invokevirtual 254), 79), (79, .inr (.goto 83), 82), (82, .inr (.iload 2), 83), (83, .inr .ireturn, 84)]
/-- MaskBenchModel.fills()I -/
def c_263 : List (Nat × pm_I × Nat) := [(0, .inr (.aload 0), 1), (1, .inr (.invokevirtual 260), 4), (4, .inr (.aload 0), 5), (5, .inr (.invokevirtual 237), 8), (8, .inl (.int 0), 9), (9, .inr (.istore 1), 10), (10, .inl (.int 0), 11), (11, .inr (.istore 2), 12), (12, .inr (.iload 2), 13), (13, .inr (.aload 0), 14), (14, .inr (.invokevirtual 244), 17), (17, .inr (.if_icmp .ge 172), 20), (20, .inr (.aload 0), 21), (21, .inr (.getfield 731), 24), (24, .inr (.iload 2), 25), (25, .inr .baload, 26), (26, .inr (.ifCond .ne 32), 29), (29, .inr (.goto 166), 32), (32, .inr (.aload 0), 33), (33, .inr (.getfield 720), 36), (36, .inl (.int 3), 37), (37, .inr .iaload, 38), (38, .inr (.istore 3), 39), (39, .inl (.int 0), 40), (40, .inr (.istore 4), 42), (42, .inr (.iload 4), 44), (44, .inr (.aload 0), 45), (45, .inr (.getfield 740), 48), (48, .inr (.if_icmp .ge 116), 51), (51, .inr (.iload 3), 52), (52, .inr (.aload 0), 53), (53, .inr (.iload 2), 54), (54, .inr (.aload 0), 55), (55, .inr (.invokevirtual 241), 58), (58, .inr .irem, 59), (59, .inr (.aload 0), 60), (60, .inr (.getfield 739), 63), (63, .inl (.int 3), 64), (64, .inr (.iload 4), 66), (66, .inr .imul, 67), (67, .inr .iaload, 68), (68, .inr .isub, 69), (69, .inr (.iload 2), 70), (70, .inr (.aload 0), 71), (71, .inr (.invokevirtual 241), 74), (74, .inr .idiv, 75), (75, .inr (.aload 0), 76), (76, .inr (.getfield 739), 79), (79, .inl (.int 3), 80), (80, .inr (.iload 4), 82), (82, .inr .imul, 83), (83, .inl (.int 1), 84), (84, .inr .iadd, 85), (85, .inr .iaload, 86), (86, .inr .isub, 87), (87, .inr (.invokevirtual 243), 90), (90, .inr (.ifCond .eq 107), 93), (93, .inr (.aload 0), 94), (94, .inr (.getfield 739), 97), (97, .inl (.int 3), 98), (98, .inr (.iload 4), 100), (100, .inr .imul, 101), (101, .inl (.int 2), 102), (102, .inr .iadd, 103), (103, .inr .iaload, 104), (104, .inr (.goto 108), 107), (107, .inl (.int 0), 108), (108, .inr .iadd, 109), (109, .inr (.istore 3), 110), (110, .inr (.iinc 4 1), 113), (113, .inr (.goto 42), 116), (116, .inr (.aload 0), 117), (117, .inr (.getfield 733), 120), (120, .inr (.iload 2), 121), (121, .inr (.iload 3), 122), (122, .inr .iastore, 123), (123, .inr (.aload 0), 124), (124, .inr (.getfield 731), 127), (127, .inr (.iload 2), 128), (128, .inl (.int 0), 129), (129, .inr .bastore, 130), (130, .inr (.iload 3), 131), (131, .inr (.aload 0), 132), (132, .inr (.getfield 732), 135), (135, .inr (.iload 2), 136), (136, .inr .iaload, 137), (137, .inr .isub, 138), (138, .inr (.istore 4), 140), (140, .inr (.iload 4), 142), (142, .inr (.iload 1), 143), (143, .inr (.if_icmp .le 151), 146), (146, .inr (.iload 4), 148), (148, .inr (.goto 165), 151), (151, .inr (.iload 4), 153), (153, .inr .ineg, 154), (154, .inr (.iload 1), 155), (155, .inr (.if_icmp .le 164), 158), (158, .inr (.iload 4), 160), (160, .inr .ineg, 161), (161, .inr (.goto 165), 164), (164, .inr (.iload 1), 165), (165, .inr (.istore 1), 166), (166, .inr (.iinc 2 1), 169), (169, .inr (.goto 12), 172), (172, .inr (.iload 1), 173), (173, .inr .ireturn, 174)]
/-- MaskBenchModel.coarse(II)I -/
def c_264 : List (Nat × pm_I × Nat) := [(0, .inr (.aload 0), 1), (1, .inr (.iload 1), 2), (2, .inl (.int 2), 3), (3, .inr (.if_icmp .lt 10), 6), (6, .inr (.iload 2), 7), (7, .inr (.ifCond .ge 14), 10), (10, .inl (.int 1), 11), (11, .inr (.goto 26), 14), (14, .inr (.aload 0), 15), (15, .inr (.getfield 718), 18), (18, .inr (.ifCond .ne 25), 21), (21, .inl (.int 2), 22), (22, .inr (.goto 26), 25), (25, .inl (.int 0), 26), (26, .inr (.invokevirtual 192), 29), (29, .inr (.ifCond .ne 34), 32), (32, .inl (.int (-1)), 33), (33, .inr .ireturn, 34), (34, .inr (.aload 0), 35), (35, .inr (.aload 0), 36), (36, .inr (.getfield 720), 39), (39, .inl (.int 4), 40), (40, .inr .iaload, 41), (41, .inr (.invokevirtual 236), 44), (44, .inr (.aload 0), 45), (45, .inr (.invokevirtual 241), 48), (48, .inr (.iload 1), 49), (49, .inr .irem, 50), (50, .inr (.ifCond .ne 63), 53), (53, .inr (.iload 2), 54), (54, .inr (.aload 0), 55), (55, .inr (.invokevirtual 244), 58), (58, .inr (.iload 1), 59), (59, .inr .idiv, 60), (60, .inr (.if_icmp .lt 69), 63), (63, .inr (.aload 0), 64), (64, .inl (.int 5), 65), (65, .inr (.invokevirtual 261), 68), (68, .inr .ireturn, 69), (69, .inr (.aload 0), 70), (70, .inr (.invokevirtual 237), 73), (73, .inr (.aload 0), 74), (74, .inr (.invokevirtual 241), 77), (77, .inr (.iload 1), 78), (78, .inr .idiv, 79), (79, .inr (.istore 3), 80), (80, .inl (.int 0), 81), (81, .inr (.istore 4), 83), (83, .inl (.int 0), 84), (84, .inr (.istore 5), 86), (86, .inr (.iload 5), 88), (88, .inr (.iload 1), 89), (89, .inr (.if_icmp .ge 125), 92), (92, .inr (.iload 4), 94), (94, .inr (.aload 0), 95), (95, .inr (.getfield 733), 98), (98, .inr (.aload 0), 99), (99, .inr (.invokevirtual 241), 102), (102, .inr (.iload 2), 103), (103, .inr (.iload 3), 104), (104, .inr .idiv, 105), (105, .inr .imul, 106), (106, .inr (.iload 1), 107), (107, .inr (.iload 2), 108), (108, .inr (.iload 3), 109), (109, .inr .irem, 110), (110, .inr .imul, 111), (111, .inr .iadd, 112), (112, .inr (.iload 5), 114), (114, .inr .iadd, 115), (115, .inr .iaload, 116), (116, .inr .iadd, 117), (117, .inr (.istore 4), 119), (119, .inr (.iinc 5 1), 122), (122, .inr (.goto 86), 125), (125, .inr (.iload 4), 127), (127, .inr .ireturn, 128)]
/-- MaskBenchModel.frames(IIII)I -/
def c_265 : List (Nat × pm_I × Nat) := [(0, .inr (.aload 0), 1), (1, .inr (.aload 0), 2), (2, .inr (.iload 1), 3), (3, .inr .i2l, 4), (4, .inl (.long 1), 5), (5, .inl (.long 20), 8), (8, .inr (.invokestatic 191), 11), (11, .inr (.ifCond .eq 30), 14), (14, .inr (.iload 2), 15), (15, .inr .i2l, 16), (16, .inl (.long 1), 17), (17, .inl (.long 99), 20), (20, .inr (.invokestatic 191), 23), (23, .inr (.ifCond .eq 30), 26), (26, .inl (.int 1), 27), (27, .inr (.goto 31), 30), (30, .inl (.int 0), 31), (31, .inr (.iload 3), 32), (32, .inr (.iload 4), 34), (34, .inr (.invokevirtual 234), 37), (37, .inr (.invokevirtual 192), 40), (40, .inr (.ifCond .ne 45), 43), (43, .inl (.int (-1)), 44), (44, .inr .ireturn, 45), (45, .inr (.aload 0), 46), (46, .inr (.aload 0), 47), (47, .inr (.getfield 720), 50), (50, .inl (.int 4), 51), (51, .inr .iaload, 52), (52, .inr (.invokevirtual 236), 55), (55, .inl (.int 0), 56), (56, .inr (.istore 5), 58), (58, .inl (.int 0), 59), (59, .inr (.istore 6), 61), (61, .inr (.iload 6), 63), (63, .inr (.iload 1), 64), (64, .inr (.if_icmp .ge 101), 67), (67, .inr (.aload 0), 68), (68, .inr (.iload 6), 70), (70, .inr (.iload 2), 71), (71, .inr .imul, 72), (72, .inr (.putfield 729), 75), (75, .inr (.aload 0), 76), (76, .inr (.invokevirtual 237), 79), (79, .inr (.iload 5), 81), (81, .inr (.aload 0), 82), (82, .inr (.aload 0), 83), (83, .inr (.getfield 733), 86), (86, .inr (.iload 3), 87), (87, .inr (.iload 4), 89), (89, .inr (.invokevirtual 245), 92), (92, .inr .iadd, 93), (93, .inr (.istore 5), 95), (95, .inr (.iinc 6 1), 98), (98, .inr (.goto 61), 101), (101, .inr (.aload 0), 102), (102, .inl (.int 0), 103), (103, .inr (.putfield 729), 106), (106, .inr (.iload 5), 108), (108, .inr .ireturn, 109)]
/-- MaskBenchModel.anti(II)I -/
def c_266 : List (Nat × pm_I × Nat) := [(0, .inr (.aload 0), 1), (1, .inr (.aload 0), 2), (2, .inl (.int 1), 3), (3, .inr (.iload 1), 4), (4, .inr (.iload 2), 5), (5, .inr (.invokevirtual 234), 8), (8, .inr (.invokevirtual 192), 11), (11, .inr (.ifCond .ne 16), 14), (14, .inl (.int (-1)), 15), (15, .inr .ireturn, 16), (16, .inr (.aload 0), 17), (17, .inr (.aload 0), 18), (18, .inr (.getfield 720), 21), (21, .inl (.int 4), 22), (22, .inr .iaload, 23), (23, .inr (.invokevirtual 236), 26), (26, .inr (.aload 0), 27), (27, .inl (.int 1), 28), (28, .inr (.putfield 730), 31), (31, .inr (.aload 0), 32), (32, .inr (.invokevirtual 237), 35), (35, .inl (.int 0), 36), (36, .inr (.istore 3), 37), (37, .inr (.iload 3), 38), (38, .inr (.aload 0), 39), (39, .inr (.invokevirtual 244), 42), (42, .inr (.if_icmp .ge 63), 45), (45, .inr (.aload 0), 46), (46, .inr (.getfield 741), 49), (49, .inr (.iload 3), 50), (50, .inr (.aload 0), 51), (51, .inr (.getfield 733), 54), (54, .inr (.iload 3), 55), (55, .inr .iaload, 56), (56, .inr .iastore, 57), (57, .inr (.iinc 3 1), 60), (60, .inr (.goto 37), 63), (63, .inr (.aload 0), 64), (64, .inl (.int 0), 65), (65, .inr (.putfield 730), 68), (68, .inr (.aload 0), 69), (69, .inr (.invokevirtual 237), 72), (72, .inl (.int 0), 73), (73, .inr (.istore 3), 74), (74, .inr (.iload 3), 75), (75, .inr (.aload 0), 76), (76, .inr (.invokevirtual 244), 79), (79, .inr (.if_icmp .ge 120), 82), (82, .inr (.aload 0), 83), (83, .inr (.getfield 741), 86), (86, .inr (.iload 3), 87), (87, .inr (.aload 0), 88), (88, .inr (.getfield 731), 91), (91, .inr (.iload 3), 92), (92, .inr .baload, 93), (93, .inr (.ifCond .eq 100), 96), (96, .inl (.int 0), 97), (97, .inr (.goto 113), 100), (100, .inr (.aload 0), 101), (101, .inr (.getfield 733), 104), (104, .inr (.iload 3), 105), (105, .inr .iaload, 106), (106, .inr (.aload 0), 107), (107, .inr (.getfield 741), 110), (110, .inr (.iload 3), 111), (111, .inr .iaload, 112), (112, .inr .isub, 113), (113, .inr .iastore, 114), (114, .inr (.iinc 3 1), 117), (117, .inr (.goto 74), 120), (120, .inr (.aload 0), 121), (121, .inr (.aload 0), 122), (122, .inr (.getfield 741), 125), (125, .inr (.iload 1), 126), (126, .inr (.iload 2), 127), (127, .inr (.invokevirtual 245), 130), (130, .inr .ireturn, 131)]
/-- MaskBenchModel.keep()I -/
def c_267 : List (Nat × pm_I × Nat) := [(0, .inr (.aload 0), 1), (1, .inr (.aload 0), 2), (2, .inr (.getfield 718), 5), (5, .inr (.ifCond .ne 12), 8), (8, .inl (.int 2), 9), (9, .inr (.goto 13), 12), (12, .inl (.int 0), 13), (13, .inr (.invokevirtual 192), 16), (16, .inr (.ifCond .ne 21), 19), (19, .inl (.int (-1)), 20), (20, .inr .ireturn, 21), (21, .inr (.aload 0), 22), (22, .inr (.aload 0), 23), (23, .inr (.getfield 720), 26), (26, .inl (.int 4), 27), (27, .inr .iaload, 28), (28, .inr (.invokevirtual 236), 31), (31, .inr (.aload 0), 32), (32, .inr (.invokevirtual 237), 35), (35, .inl (.int 0), 36), (36, .inr (.istore 1), 37), (37, .inr (.iload 1), 38), (38, .inr (.aload 0), 39), (39, .inr (.invokevirtual 244), 42), (42, .inr (.if_icmp .ge 63), 45), (45, .inr (.aload 0), 46), (46, .inr (.getfield 742), 49), (49, .inr (.iload 1), 50), (50, .inr (.aload 0), 51), (51, .inr (.getfield 733), 54), (54, .inr (.iload 1), 55), (55, .inr .iaload, 56), (56, .inr .iastore, 57), (57, .inr (.iinc 1 1), 60), (60, .inr (.goto 37), 63), (63, .inr (.aload 0), 64), (64, .inr (.aload 0), 65), (65, .inr (.invokevirtual 241), 68), (68, .inr (.putfield 743), 71), (71, .inr (.aload 0), 72), (72, .inr (.aload 0), 73), (73, .inr (.invokevirtual 240), 76), (76, .inr (.putfield 744), 79), (79, .inr (.aload 0), 80), (80, .inl (.int 1), 81), (81, .inr (.putfield 745), 84), (84, .inr (.aload 0), 85), (85, .inr (.invokevirtual 244), 88), (88, .inr .ireturn, 89)]
/-- MaskBenchModel.match(I)J -/
def c_268 : List (Nat × pm_I × Nat) := [(0, .inr (.aload 0), 1), (1, .inr (.iload 1), 2), (2, .inr .i2l, 3), (3, .inl (.long 0), 4), (4, .inl (.long 2), 7), (7, .inr (.invokestatic 191), 10), (10, .inr (.ifCond .ne 17), 13), (13, .inl (.int 1), 14), (14, .inr (.goto 40), 17), (17, .inr (.aload 0), 18), (18, .inr (.getfield 718), 21), (21, .inr (.ifCond .ne 28), 24), (24, .inl (.int 2), 25), (25, .inr (.goto 40), 28), (28, .inr (.aload 0), 29), (29, .inr (.invokevirtual 269), 32), (32, .inr (.ifCond .eq 39), 35), (35, .inl (.int 0), 36), (36, .inr (.goto 40), 39), (39, .inl (.int 5), 40), (40, .inr (.invokevirtual 192), 43), (43, .inr (.ifCond .ne 50), 46), (46, .inl (.long (-1)), 49), (49, .inr .lreturn, 50), (50, .inr (.aload 0), 51), (51, .inr (.aload 0), 52), (52, .inr (.getfield 720), 55), (55, .inl (.int 4), 56), (56, .inr .iaload, 57), (57, .inr (.invokevirtual 236), 60), (60, .inr (.aload 0), 61), (61, .inr (.invokevirtual 237), 64), (64, .inl (.int 0), 65), (65, .inr (.istore 2), 66), (66, .inl (.int 0), 67), (67, .inr (.istore 3), 68), (68, .inr (.aload 0), 69), (69, .inl (.int 0), 70), (70, .inl (.int 0), 71), (71, .inr (.invokevirtual 270), 74), (74, .inr (.lstore 4), 76), (76, .inl (.int 0), 77), (77, .inr (.istore 6), 79), (79, .inr (.iload 6), 81), (81, .inr (.aload 0), 82), (82, .inr (.invokevirtual 240), 85), (85, .inr (.if_icmp .ge 143), 88), (88, .inl (.int 0), 89), (89, .inr (.istore 7), 91), (91, .inr (.iload 7), 93), (93, .inr (.aload 0), 94), (94, .inr (.invokevirtual 241), 97), (97, .inr (.if_icmp .ge 137), 100), (100, .inr (.aload 0), 101), (101, .inr (.iload 7), 103), (103, .inr (.iload 6), 105), (105, .inr (.invokevirtual 270), 108), (108, .inr (.lstore 8), 110), (110, .inr (.lload 8), 112), (112, .inr (.lload 4), 114), (114, .inr .lcmp, 115), (115, .inr (.ifCond .gt 121), 118), (118, .inr (.goto 131), 121), (121, .inr (.lload 8), 123), (123, .inr (.lstore 4), 125), (125, .inr (.iload 7), 127), (127, .inr (.istore 2), 128), (128, .inr (.iload 6), 130), (130, .inr (.istore 3), 131), (131, .inr (.iinc 7 1), 134), (134, .inr (.goto 91), 137), (137, .inr (.iinc 6 1), 140), (140, .inr (.goto 79), 143), (143, .inr (.iload 1), 144), (144, .inr (.ifCond .ne 152), 147), (147, .inr (.iload 2), 148), (148, .inr .i2l, 149), (149, .inr (.goto 164), 152), (152, .inr (.iload 1), 153), (153, .inl (.int 1), 154), (154, .inr (.if_icmp .ne 162), 157), (157, .inr (.iload 3), 158), (158, .inr .i2l, 159), (159, .inr (.goto 164), 162), (162, .inr (.lload 4), 164), (164, .inr .lreturn, 165)]
/-- MaskBenchModel.fitsPicture()Z -/
def c_269 : List (Nat × pm_I × Nat) := [(0, .inr (.aload 0), 1), (1, .inr (.getfield 745), 4), (4, .inr (.ifCond .eq 45), 7), (7, .inr (.aload 0), 8), (8, .inr (.aload 0), 9), (9, .inr (.getfield 720), 12), (12, .inl (.int 4), 13), (13, .inr .iaload, 14), (14, .inr (.invokevirtual 196), 17), (17, .inr (.aload 0), 18), (18, .inr (.getfield 743), 21), (21, .inr (.if_icmp .ne 45), 24), (24, .inr (.aload 0), 25), (25, .inr (.aload 0), 26), (26, .inr (.getfield 720), 29), (29, .inl (.int 4), 30), (30, .inr .iaload, 31), (31, .inr (.invokevirtual 197), 34), (34, .inr (.aload 0), 35), (35, .inr (.getfield 744), 38), (38, .inr (.if_icmp .ne 45), 41), (41, .inl (.int 1), 42), (42, .inr (.goto 46), 45), (45, .inl (.int 0), 46), (46, .inr .ireturn, 47)]
/-- MaskBenchModel.matchAt(II)J -/
def c_270 : List (Nat × pm_I × Nat) := [(0, .inl (.long 0), 1), (1, .inr (.lstore 3), 2), (2, .inl (.int 0), 3), (3, .inr (.istore 5), 5), (5, .inr (.iload 5), 7), (7, .inr (.aload 0), 8), (8, .inr (.invokevirtual 240), 11), (11, .inr (.if_icmp .ge 74), 14), (14, .inl (.int 0), 15), (15, .inr (.istore 6), 17), (17, .inr (.iload 6), 19), (19, .inr (.aload 0), 20), (20, .inr (.invokevirtual 241), 23), (23, .inr (.if_icmp .ge 68), 26), (26, .inr (.lload 3), 27), (27, .inr (.aload 0), 28), (28, .inr (.getfield 742), 31), (31, .inr (.aload 0), 32), (32, .inr (.iload 6), 34), (34, .inr (.iload 5), 36), (36, .inr (.invokevirtual 239), 39), (39, .inr .iaload, 40), (40, .inr .i2l, 41), (41, .inr (.aload 0), 42), (42, .inr (.getfield 733), 45), (45, .inr (.aload 0), 46), (46, .inr (.iload 6), 48), (48, .inr (.iload 1), 49), (49, .inr .iadd, 50), (50, .inr (.iload 5), 52), (52, .inr (.iload 2), 53), (53, .inr .iadd, 54), (54, .inr (.invokevirtual 239), 57), (57, .inr .iaload, 58), (58, .inr .i2l, 59), (59, .inr .lmul, 60), (60, .inr .ladd, 61), (61, .inr (.lstore 3), 62), (62, .inr (.iinc 6 1), 65), (65, .inr (.goto 17), 68), (68, .inr (.iinc 5 1), 71), (71, .inr (.goto 5), 74), (74, .inr (.lload 3), 75), (75, .inr .lreturn, 76)]
/-- MaskBenchModel.minus(II)I -/
def c_271 : List (Nat × pm_I × Nat) := [(0, .inr (.aload 0), 1), (1, .inl (.int 1), 2), (2, .inr (.iload 1), 3), (3, .inr (.iload 2), 4), (4, .inr (.invokevirtual 234), 7), (7, .inr (.istore 3), 8), (8, .inr (.aload 0), 9), (9, .inr (.iload 3), 10), (10, .inr (.ifCond .ne 24), 13), (13, .inr (.aload 0), 14), (14, .inr (.invokevirtual 269), 17), (17, .inr (.ifCond .ne 24), 20), (20, .inl (.int 5), 21), (21, .inr (.goto 25), 24), (24, .inr (.iload 3), 25), (25, .inr (.invokevirtual 192), 28), (28, .inr (.ifCond .ne 33), 31), (31, .inl (.int (-1)), 32), (32, .inr .ireturn, 33), (33, .inr (.aload 0), 34), (34, .inr (.aload 0), 35), (35, .inr (.getfield 720), 38), (38, .inl (.int 4), 39), (39, .inr .iaload, 40), (40, .inr (.invokevirtual 236), 43), (43, .inr (.aload 0), 44), (44, .inr (.invokevirtual 237), 47), (47, .inl (.int 0), 48), (48, .inr (.istore 4), 50), (50, .inr (.iload 4), 52), (52, .inr (.aload 0), 53), (53, .inr (.invokevirtual 244), 56), (56, .inr (.if_icmp .ge 87), 59), (59, .inr (.aload 0), 60), (60, .inr (.getfield 741), 63), (63, .inr (.iload 4), 65), (65, .inr (.aload 0), 66), (66, .inr (.getfield 733), 69), (69, .inr (.iload 4), 71), (71, .inr .iaload, 72), (72, .inr (.aload 0), 73), (73, .inr (.getfield 742), 76), (76, .inr (.iload 4), 78), (78, .inr .iaload, 79), (79, .inr .isub, 80), (80, .inr .iastore, 81), (81, .inr (.iinc 4 1), 84), (84, .inr (.goto 50), 87), (87, .inr (.aload 0), 88), (88, .inr (.aload 0), 89), (89, .inr (.getfield 741), 92), (92, .inr (.iload 1), 93), (93, .inr (.iload 2), 94), (94, .inr (.invokevirtual 245), 97), (97, .inr .ireturn, 98)]
/-- MaskBenchModel.shots(III)I -/
def c_272 : List (Nat × pm_I × Nat) := [(0, .inr (.aload 0), 1), (1, .inr (.iload 1), 2), (2, .inr .i2l, 3), (3, .inl (.long 1), 4), (4, .inl (.long 500), 7), (7, .inr (.invokestatic 191), 10), (10, .inr (.ifCond .eq 37), 13), (13, .inr (.iload 2), 14), (14, .inr .i2l, 15), (15, .inl (.long 1), 16), (16, .inl (.long 65536), 19), (19, .inr (.invokestatic 191), 22), (22, .inr (.ifCond .eq 37), 25), (25, .inr (.iload 3), 26), (26, .inr .i2l, 27), (27, .inl (.long 0), 28), (28, .inl (.long 3), 31), (31, .inr (.invokestatic 191), 34), (34, .inr (.ifCond .ne 41), 37), (37, .inl (.int 1), 38), (38, .inr (.goto 53), 41), (41, .inr (.aload 0), 42), (42, .inr (.getfield 718), 45), (45, .inr (.ifCond .ne 52), 48), (48, .inl (.int 2), 49), (49, .inr (.goto 53), 52), (52, .inl (.int 0), 53), (53, .inr (.invokevirtual 192), 56), (56, .inr (.ifCond .ne 61), 59), (59, .inl (.int (-1)), 60), (60, .inr .ireturn, 61), (61, .inr (.aload 0), 62), (62, .inr (.aload 0), 63), (63, .inr (.getfield 720), 66), (66, .inl (.int 4), 67), (67, .inr .iaload, 68), (68, .inr (.invokevirtual 236), 71), (71, .inr (.aload 0), 72), (72, .inr (.invokevirtual 237), 75), (75, .inr (.aload 0), 76), (76, .inr (.aload 0), 77), (77, .inr (.getfield 732), 80), (80, .inl (.int 0), 81), (81, .inr (.invokevirtual 253), 84), (84, .inr (.istore 4), 86), (86, .inr (.iload 4), 88), (88, .inr (.ifCond .ne 97), 91), (91, .inr (.aload 0), 92), (92, .inl (.int 5), 93), (93, .inr (.invokevirtual 261), 96), (96, .inr .ireturn, 97), (97, .inl (.int 0), 98), (98, .inr (.istore 5), 100), (100, .inr (.iload 5), 102), (102, .inl (.int 289), 105), (105, .inr (.if_icmp .ge 122), 108), (108, .inr (.aload 0), 109), (109, .inr (.getfield 741), 112), (112, .inr (.iload 5), 114), (114, .inl (.int 0), 115), (115, .inr .iastore, 116), (116, .inr (.iinc 5 1), 119), (119, .inr (.goto 100), 122), (122, .inr (.iload 2), 123), (123, .inr .i2l, 124), (124, .inr (.lstore 5), 126), (126, .inl (.int 0), 127), (127, .inr (.istore 7), 129), (129, .inl (.int 0), 130), (130, .inr (.istore 8), 132), (132, .inr (.iload 8), 134), (134, .inr (.iload 1), 135), (135, .inr (.if_icmp .ge 213), 138), (138, .inl (.long 48271), 141), (141, .inr (.lload 5), 143), (143, .inr .lmul, 144), (144, .inl (.long 2147483647), 147), (147, .inr .lrem, 148), (148, .inr (.lstore 5), 150), (150, .inr (.aload 0), 151), (151, .inr (.lload 5), 153), (153, .inr (.iload 4), 155), (155, .inr .i2l, 156), (156, .inr .lrem, 157), (157, .inr (.invokevirtual 273), 160), (160, .inr (.istore 9), 162), (162, .inr (.aload 0), 163), (163, .inr (.getfield 741), 166), (166, .inr (.iload 9), 168), (168, .inr .dup2, 169), (169, .inr .iaload, 170), (170, .inr (.aload 0), 171), (171, .inr (.getfield 731), 174), (174, .inr (.iload 9), 176), (176, .inr .baload, 177), (177, .inr (.ifCond .eq 184), 180), (180, .inl (.int 0), 181), (181, .inr (.goto 185), 184), (184, .inl (.int 1), 185), (185, .inr .iadd, 186), (186, .inr .iastore, 187), (187, .inr (.iload 7), 189), (189, .inr (.aload 0), 190), (190, .inr (.getfield 731), 193), (193, .inr (.iload 9), 195), (195, .inr .baload, 196), (196, .inr (.ifCond .eq 203), 199), (199, .inl (.int 0), 200), (200, .inr (.goto 204), 203), (203, .inl (.int 1), 204), (204, .inr .iadd, 205), (205, .inr (.istore 7), 207), (207, .inr (.iinc 8 1), 210), (210, .inr (.goto 132), 213), (213, .inr (.aload 0), 214), (214, .inr (.aload 0), 215), (215, .inr (.getfield 741), 218), (218, .inr (.invokevirtual 255), 221), (221, .inr (.aload 0), 222), (222, .inr (.invokevirtual 258), 225), (225, .inr (.istore 8), 227), (227, .inr (.iload 3), 228), (228, .inr (.ifCond .ne 236), 231), (231, .inr (.iload 7), 233), (233, .inr (.goto 262), 236), (236, .inr (.iload 3), 237), (237, .inl (.int 1), 238), (238, .inr (.if_icmp .ne 248), 241), (241, .inr (.aload 0), 242), (242, .inr (.getfield 736), 245), (245, .inr (.goto 262), 248), (248, .inr (.iload 3), 249), (249, .inl (.int 2), 250), (250, .inr (.if_icmp .ne 260), 253), (253, .inr (.aload 0), 254), (254, .inr (.getfield 737), 257), (257, .inr (.goto 262), 260), (260, .inr (.iload 8), 262), (262, .inr .ireturn, 263)]
/-- MaskBenchModel.cellOf(J)I -/
def c_273 : List (Nat × pm_I × Nat) := [(0, .inr (.lload 1), 1), (1, .inr (.lstore 3), 2), (2, .inl (.int 0), 3), (3, .inr (.istore 5), 5), (5, .inr (.lload 3), 6), (6, .inr (.aload 0), 7), (7, .inr (.getfield 732), 10), (10, .inr (.iload 5), 12), (12, .inr .iaload, 13), (13, .inr .i2l, 14), (14, .inr .lcmp, 15), (15, .inr (.ifCond .lt 35), 18), (18, .inr (.lload 3), 19), (19, .inr (.aload 0), 20), (20, .inr (.getfield 732), 23), (23, .inr (.iload 5), 25), (25, .inr .iaload, 26), (26, .inr .i2l, 27), (27, .inr .lsub, 28), (28, .inr (.lstore 3), 29), (29, .inr (.iinc 5 1), 32), (32, .inr (.goto 5), 35), (35, .inr (.iload 5), 37), (37, .inr .ireturn, 38)]
/-- MaskBenchModel.best(I)I -/
def c_274 : List (Nat × pm_I × Nat) := [(0, .inr (.aload 0), 1), (1, .inr (.iload 1), 2), (2, .inr .i2l, 3), (3, .inl (.long 0), 4), (4, .inl (.long 1), 5), (5, .inr (.invokestatic 191), 8), (8, .inr (.ifCond .eq 15), 11), (11, .inl (.int 0), 12), (12, .inr (.goto 16), 15), (15, .inl (.int 1), 16), (16, .inr (.invokevirtual 192), 19), (19, .inr (.ifCond .ne 24), 22), (22, .inl (.int (-1)), 23), (23, .inr .ireturn, 24), (24, .inl (.int (-1)), 25), (25, .inr (.istore 2), 26), (26, .inl (.int 0), 27), (27, .inr (.istore 3), 28), (28, .inl (.int 0), 29), (29, .inr (.istore 4), 31), (31, .inr (.iload 4), 33), (33, .inr (.aload 0), 34), (34, .inr (.getfield 718), 37), (37, .inr (.if_icmp .ge 93), 40), (40, .inr (.aload 0), 41), (41, .inr (.iload 4), 43), (43, .inr (.invokevirtual 235), 46), (46, .inr (.ifCond .ne 52), 49), (49, .inr (.goto 87), 52), (52, .inr (.aload 0), 53), (53, .inr (.iload 4), 55), (55, .inr (.invokevirtual 236), 58), (58, .inr (.aload 0), 59), (59, .inr (.invokevirtual 237), 62), (62, .inr (.aload 0), 63), (63, .inr (.invokevirtual 254), 66), (66, .inr (.istore 5), 68), (68, .inr (.iload 2), 69), (69, .inr (.ifCond .lt 81), 72), (72, .inr (.iload 5), 74), (74, .inr (.iload 3), 75), (75, .inr (.if_icmp .lt 81), 78), (78, .inr (.goto 87), 81), (81, .inr (.iload 4), 83), (83, .inr (.istore 2), 84), (84, .inr (.iload 5), 86), (86, .inr (.istore 3), 87), (87, .inr (.iinc 4 1), 90), (90, .inr (.goto 31), 93), (93, .inr (.iload 2), 94), (94, .inr (.ifCond .ge 105), 97), (97, .inr (.aload 0), 98), (98, .inl (.int 5), 99), (99, .inr (.invokevirtual 261), 102), (102, .inr (.goto 114), 105), (105, .inr (.iload 1), 106), (106, .inr (.ifCond .ne 113), 109), (109, .inr (.iload 2), 110), (110, .inr (.goto 114), 113), (113, .inr (.iload 3), 114), (114, .inr .ireturn, 115)]
/-- MaskBenchModel.worst(I)I -/
def c_275 : List (Nat × pm_I × Nat) := [(0, .inr (.aload 0), 1), (1, .inr (.iload 1), 2), (2, .inr .i2l, 3), (3, .inl (.long 0), 4), (4, .inl (.long 2), 7), (7, .inr (.invokestatic 191), 10), (10, .inr (.ifCond .ne 17), 13), (13, .inl (.int 1), 14), (14, .inr (.goto 46), 17), (17, .inr (.aload 0), 18), (18, .inr (.getfield 718), 21), (21, .inr (.ifCond .ne 28), 24), (24, .inl (.int 2), 25), (25, .inr (.goto 46), 28), (28, .inr (.aload 0), 29), (29, .inr (.aload 0), 30), (30, .inr (.getfield 720), 33), (33, .inl (.int 4), 34), (34, .inr .iaload, 35), (35, .inr (.invokevirtual 235), 38), (38, .inr (.ifCond .eq 45), 41), (41, .inl (.int 0), 42), (42, .inr (.goto 46), 45), (45, .inl (.int 5), 46), (46, .inr (.invokevirtual 192), 49), (49, .inr (.ifCond .ne 54), 52), (52, .inl (.int (-1)), 53), (53, .inr .ireturn, 54), (54, .inr (.aload 0), 55), (55, .inr (.aload 0), 56), (56, .inr (.getfield 720), 59), (59, .inl (.int 4), 60), (60, .inr .iaload, 61), (61, .inr (.invokevirtual 236), 64), (64, .inr (.aload 0), 65), (65, .inr (.invokevirtual 237), 68), (68, .inl (.int (-1)), 69), (69, .inr (.istore 2), 70), (70, .inl (.int 0), 71), (71, .inr (.istore 3), 72), (72, .inl (.int 0), 73), (73, .inr (.istore 4), 75), (75, .inr (.iload 4), 77), (77, .inr (.aload 0), 78), (78, .inr (.invokevirtual 244), 81), (81, .inr (.if_icmp .ge 170), 84), (84, .inr (.aload 0), 85), (85, .inr (.getfield 731), 88), (88, .inr (.iload 4), 90), (90, .inr .baload, 91), (91, .inr (.ifCond .eq 97), 94), (94, .inr (.goto 164), 97), (97, .inr (.aload 0), 98), (98, .inr (.getfield 733), 101), (101, .inr (.iload 4), 103), (103, .inr .iaload, 104), (104, .inr (.istore 5), 106), (106, .inr (.aload 0), 107), (107, .inr (.getfield 733), 110), (110, .inr (.iload 4), 112), (112, .inl (.int 0), 113), (113, .inr .iastore, 114), (114, .inr (.aload 0), 115), (115, .inr (.getfield 731), 118), (118, .inr (.iload 4), 120), (120, .inl (.int 1), 121), (121, .inr .bastore, 122), (122, .inr (.aload 0), 123), (123, .inr (.invokevirtual 254), 126), (126, .inr (.istore 6), 128), (128, .inr (.aload 0), 129), (129, .inr (.getfield 733), 132), (132, .inr (.iload 4), 134), (134, .inr (.iload 5), 136), (136, .inr .iastore, 137), (137, .inr (.aload 0), 138), (138, .inr (.getfield 731), 141), (141, .inr (.iload 4), 143), (143, .inl (.int 0), 144), (144, .inr .bastore, 145), (145, .inr (.iload 2), 146), (146, .inr (.ifCond .lt 158), 149), (149, .inr (.iload 6), 151), (151, .inr (.iload 3), 152), (152, .inr (.if_icmp .gt 158), 155), (155, .inr (.goto 164), 158), (158, .inr (.iload 4), 160), (160, .inr (.istore 2), 161), (161, .inr (.iload 6), 163), (163, .inr (.istore 3), 164), (164, .inr (.iinc 4 1), 167), (167, .inr (.goto 75), 170), (170, .inr (.iload 2), 171), (171, .inr (.ifCond .ge 182), 174), (174, .inr (.aload 0), 175), (175, .inl (.int 5), 176), (176, .inr (.invokevirtual 261), 179), (179, .inr (.goto 210), 182), (182, .inr (.iload 1), 183), (183, .inr (.ifCond .ne 195), 186), (186, .inr (.iload 2), 187), (187, .inr (.aload 0), 188), (188, .inr (.invokevirtual 241), 191), (191, .inr .irem, 192), (192, .inr (.goto 210), 195), (195, .inr (.iload 1), 196), (196, .inl (.int 1), 197), (197, .inr (.if_icmp .ne 209), 200), (200, .inr (.iload 2), 201), (201, .inr (.aload 0), 202), (202, .inr (.invokevirtual 241), 205), (205, .inr .idiv, 206), (206, .inr (.goto 210), 209), (209, .inr (.iload 3), 210), (210, .inr .ireturn, 211)]
/-- MaskBenchModel.feed(IIIII)I -/
def c_276 : List (Nat × pm_I × Nat) := [(0, .inr (.aload 0), 1), (1, .inl (.int 0), 2), (2, .inr (.putfield 705), 5), (5, .inr (.aload 0), 6), (6, .inr (.getfield 747), 9), (9, .inl (.int 20), 11), (11, .inr .iadd, 12), (12, .inl (.int 800), 15), (15, .inr (.if_icmp .le 20), 18), (18, .inl (.int (-1)), 19), (19, .inr .ireturn, 20), (20, .inr (.aload 0), 21), (21, .inr (.iload 1), 22), (22, .inr (.invokevirtual 277), 25), (25, .inr (.aload 0), 26), (26, .inr (.iload 2), 27), (27, .inr (.invokevirtual 277), 30), (30, .inr (.aload 0), 31), (31, .inr (.iload 3), 32), (32, .inr (.invokevirtual 277), 35), (35, .inr (.aload 0), 36), (36, .inr (.iload 4), 38), (38, .inr (.invokevirtual 277), 41), (41, .inr (.aload 0), 42), (42, .inr (.iload 5), 44), (44, .inr (.invokevirtual 277), 47), (47, .inr (.aload 0), 48), (48, .inr (.getfield 747), 51), (51, .inr .ireturn, 52)]
/-- MaskBenchModel.feeds(I)V -/
def c_277 : List (Nat × pm_I × Nat) := [(0, .inl (.int 24), 2), (2, .inr (.istore 2), 3), (3, .inr (.iload 2), 4), (4, .inr (.ifCond .lt 36), 7), (7, .inr (.aload 0), 8), (8, .inr (.getfield 746), 11), (11, .inr (.aload 0), 12), (12, .inr (.getfield 747), 15), (15, .inr (.iload 1), 16), (16, .inr (.iload 2), 17), (17, .inr .ishr, 18), (18, .inr .i2b, 19), (19, .inr .bastore, 20), (20, .inr (.aload 0), 21), (21, .inr .dup, 22), (22, .inr (.getfield 747), 25), (25, .inl (.int 1), 26), (26, .inr .iadd, 27), (27, .inr (.putfield 747), 30), (30, .inr (.iinc 2 (-8)), 33), (33, .inr (.goto 3), 36), (36, .inr .return_, 37)]
/-- MaskBenchModel.load(I)I -/
def c_278 : List (Nat × pm_I × Nat) := [(0, .inr (.aload 0), 1), (1, .inr (.iload 1), 2), (2, .inr .i2l, 3), (3, .inl (.long 0), 4), (4, .inr (.aload 0), 5), (5, .inr (.getfield 747), 8), (8, .inr .i2l, 9), (9, .inr (.invokestatic 191), 12), (12, .inr (.ifCond .eq 19), 15), (15, .inl (.int 0), 16), (16, .inr (.goto 20), 19), (19, .inl (.int 1), 20), (20, .inr (.invokevirtual 192), 23), (23, .inr (.ifCond .ne 28), 26), (26, .inl (.int (-1)), 27), (27, .inr .ireturn, 28), (28, .inr (.aload 0), 29), (29, .inr (.iload 1), 30), (30, .inr (.putfield 756), 33), (33, .inr (.aload 0), 34), (34, .inl (.int 0), 35), (35, .inr (.putfield 753), 38), (38, .inr (.aload 0), 39), (39, .inl (.int 0), 40), (40, .inr (.putfield 750), 43), (43, .inr (.aload 0), 44), (44, .inl (.int 0), 45), (45, .inr (.putfield 719), 48), (48, .inl (.int 0), 49), (49, .inr (.istore 2), 50), (50, .inr (.iload 2), 51), (51, .inl (.int 89), 53), (53, .inr (.if_icmp .ge 69), 56), (56, .inr (.aload 0), 57), (57, .inr (.getfield 721), 60), (60, .inr (.iload 2), 61), (61, .inl (.int 0), 62), (62, .inr .iastore, 63), (63, .inr (.iinc 2 1), 66), (66, .inr (.goto 50), 69), (69, .inr (.aload 0), 70), (70, .inr (.invokevirtual 279), 73), (73, .inr (.aload 0), 74), (74, .inr (.invokevirtual 281), 77), (77, .inr (.ifCond .eq 94), 80), (80, .inr (.aload 0), 81), (81, .inr (.getfield 754), 84), (84, .inr (.ifCond .eq 94), 87), (87, .inr (.aload 0), 88), (88, .inr (.invokevirtual 282), 91), (91, .inr (.goto 73), 94), (94, .inr (.aload 0), 95), (95, .inl (.int 0), 96), (96, .inr (.putfield 747), 99), (99, .inr (.aload 0), 100), (100, .inr (.aload 0), 101), (101, .inr (.getfield 750), 104), (104, .inr (.putfield 748), 107), (107, .inr (.aload 0), 108), (108, .inr (.aload 0), 109), (109, .inr (.getfield 750), 112), (112, .inr (.ifCond .le 122), 115), (115, .inr (.aload 0), 116), (116, .inr (.getfield 751), 119), (119, .inr (.goto 123), 122), (122, .inl (.int (-1)), 123), (123, .inr (.putfield 749), 126), (126, .inr (.aload 0), 127), (127, .inr (.getfield 750), 130), (130, .inr (.ifCond .le 140), 133), (133, .inr (.aload 0), 134), (134, .inl (.int 9), 136), (136, .inr (.invokevirtual 261), 139), (139, .inr .ireturn, 140), (140, .inr (.aload 0), 141), (141, .inr (.aload 0), 142), (142, .inr (.getfield 719), 145), (145, .inr (.putfield 718), 148), (148, .inl (.int 0), 149), (149, .inr (.istore 2), 150), (150, .inr (.iload 2), 151), (151, .inl (.int 42), 153), (153, .inr (.if_icmp .ge 174), 156), (156, .inr (.aload 0), 157), (157, .inr (.getfield 708), 160), (160, .inr (.iload 2), 161), (161, .inr (.aload 0), 162), (162, .inr (.getfield 709), 165), (165, .inr (.iload 2), 166), (166, .inr .iaload, 167), (167, .inr .iastore, 168), (168, .inr (.iinc 2 1), 171), (171, .inr (.goto 150), 174), (174, .inl (.int 0), 175), (175, .inr (.istore 2), 176), (176, .inr (.iload 2), 177), (177, .inl (.int 1734), 180), (180, .inr (.if_icmp .ge 213), 183), (183, .inr (.aload 0), 184), (184, .inr (.getfield 710), 187), (187, .inr (.iload 2), 188), (188, .inr (.aload 0), 189), (189, .inr (.getfield 711), 192), (192, .inr (.iload 2), 193), (193, .inr .iaload, 194), (194, .inr .iastore, 195), (195, .inr (.aload 0), 196), (196, .inr (.getfield 712), 199), (199, .inr (.iload 2), 200), (200, .inr (.aload 0), 201), (201, .inr (.getfield 713), 204), (204, .inr (.iload 2), 205), (205, .inr .iaload, 206), (206, .inr .iastore, 207), (207, .inr (.iinc 2 1), 210), (210, .inr (.goto 176), 213), (213, .inl (.int 0), 214), (214, .inr (.istore 2), 215), (215, .inr (.iload 2), 216), (216, .inl (.int 282), 219), (219, .inr (.if_icmp .ge 240), 222), (222, .inr (.aload 0), 223), (223, .inr (.getfield 706), 226), (226, .inr (.iload 2), 227), (227, .inr (.aload 0), 228), (228, .inr (.getfield 707), 231), (231, .inr (.iload 2), 232), (232, .inr .iaload, 233), (233, .inr .iastore, 234), (234, .inr (.iinc 2 1), 237), (237, .inr (.goto 215), 240), (240, .inl (.int 0), 241), (241, .inr (.istore 2), 242), (242, .inr (.iload 2), 243), (243, .inl (.int 6), 245), (245, .inr (.if_icmp .ge 285), 248), (248, .inr (.aload 0), 249), (249, .inr (.getfield 714), 252), (252, .inr (.iload 2), 253), (253, .inr (.aload 0), 254), (254, .inr (.getfield 715), 257), (257, .inr (.iload 2), 258), (258, .inr .laload, 259), (259, .inr .lastore, 260), (260, .inr (.aload 0), 261), (261, .inr (.getfield 716), 264), (264, .inr (.iload 2), 265), (265, .inr (.aload 0), 266), (266, .inr (.getfield 717), 269), (269, .inr (.iload 2), 270), (270, .inr .laload, 271), (271, .inr .lastore, 272), (272, .inr (.aload 0), 273), (273, .inr (.getfield 727), 276), (276, .inr (.iload 2), 277), (277, .inl (.int 0), 278), (278, .inr .bastore, 279), (279, .inr (.iinc 2 1), 282), (282, .inr (.goto 242), 285), (285, .inl (.int 0), 286), (286, .inr (.istore 2), 287), (287, .inr (.iload 2), 288), (288, .inl (.int 89), 290), (290, .inr (.if_icmp .ge 311), 293), (293, .inr (.aload 0), 294), (294, .inr (.getfield 720), 297), (297, .inr (.iload 2), 298), (298, .inr (.aload 0), 299), (299, .inr (.getfield 721), 302), (302, .inr (.iload 2), 303), (303, .inr .iaload, 304), (304, .inr .iastore, 305), (305, .inr (.iinc 2 1), 308), (308, .inr (.goto 287), 311), (311, .inr (.aload 0), 312), (312, .inl (.int 0), 313), (313, .inr (.putfield 723), 316), (316, .inr (.aload 0), 317), (317, .inl (.int 0), 318), (318, .inr (.putfield 745), 321), (321, .inr (.aload 0), 322), (322, .inr (.getfield 718), 325), (325, .inr .ireturn, 326)]
/-- MaskBenchModel.reads()V -/
def c_279 : List (Nat × pm_I × Nat) := [(0, .inr (.aload 0), 1), (1, .inr (.aload 0), 2), (2, .inr (.getfield 753), 5), (5, .inr (.putfield 752), 8), (8, .inr (.aload 0), 9), (9, .inr (.aload 0), 10), (10, .inr (.getfield 752), 13), (13, .inl (.int 32), 15), (15, .inl (.int 32), 17), (17, .inr (.invokevirtual 280), 20), (20, .inr (.ifCond .ne 38), 23), (23, .inr (.aload 0), 24), (24, .inr (.aload 0), 25), (25, .inr (.getfield 752), 28), (28, .inl (.int 10), 30), (30, .inl (.int 10), 32), (32, .inr (.invokevirtual 280), 35), (35, .inr (.ifCond .eq 51), 38), (38, .inr (.aload 0), 39), (39, .inr .dup, 40), (40, .inr (.getfield 752), 43), (43, .inl (.int 1), 44), (44, .inr .iadd, 45), (45, .inr (.putfield 752), 48), (48, .inr (.goto 8), 51), (51, .inr (.aload 0), 52), (52, .inr (.aload 0), 53), (53, .inr (.getfield 752), 56), (56, .inl (.int 1), 57), (57, .inr .iadd, 58), (58, .inr (.putfield 753), 61), (61, .inr (.aload 0), 62), (62, .inr (.aload 0), 63), (63, .inr (.getfield 752), 66), (66, .inr (.aload 0), 67), (67, .inr (.getfield 756), 70), (70, .inr (.if_icmp .lt 77), 73), (73, .inl (.int 0), 74), (74, .inr (.goto 96), 77), (77, .inr (.aload 0), 78), (78, .inr (.getfield 746), 81), (81, .inr (.aload 0), 82), (82, .inr (.getfield 752), 85), (85, .inr .baload, 86), (86, .inl (.int 59), 88), (88, .inr (.if_icmp .ne 95), 91), (91, .inl (.int 3), 92), (92, .inr (.goto 96), 95), (95, .inl (.int 5), 96), (96, .inr (.putfield 754), 99), (99, .inr (.aload 0), 100), (100, .inr (.aload 0), 101), (101, .inr (.getfield 752), 104), (104, .inl (.int 97), 106), (106, .inl (.int 122), 108), (108, .inr (.invokevirtual 280), 111), (111, .inr (.ifCond .eq 226), 114), (114, .inr (.aload 0), 115), (115, .inl (.long 0), 116), (116, .inr (.putfield 758), 119), (119, .inr (.aload 0), 120), (120, .inr (.aload 0), 121), (121, .inr (.getfield 752), 124), (124, .inr (.putfield 753), 127), (127, .inr (.aload 0), 128), (128, .inr (.aload 0), 129), (129, .inr (.getfield 753), 132), (132, .inl (.int 97), 134), (134, .inl (.int 122), 136), (136, .inr (.invokevirtual 280), 139), (139, .inr (.ifCond .eq 200), 142), (142, .inr (.aload 0), 143), (143, .inr (.aload 0), 144), (144, .inr (.getfield 753), 147), (147, .inr (.aload 0), 148), (148, .inr (.getfield 752), 151), (151, .inr .isub, 152), (152, .inl (.int 6), 154), (154, .inr (.if_icmp .ge 183), 157), (157, .inl (.long 27), 160), (160, .inr (.aload 0), 161), (161, .inr (.getfield 758), 164), (164, .inr .lmul, 165), (165, .inr (.aload 0), 166), (166, .inr (.getfield 746), 169), (169, .inr (.aload 0), 170), (170, .inr (.getfield 753), 173), (173, .inr .baload, 174), (174, .inr .i2l, 175), (175, .inr .ladd, 176), (176, .inl (.long 96), 179), (179, .inr .lsub, 180), (180, .inr (.goto 184), 183), (183, .inl (.long 0), 184), (184, .inr (.putfield 758), 187), (187, .inr (.aload 0), 188), (188, .inr .dup, 189), (189, .inr (.getfield 753), 192), (192, .inl (.int 1), 193), (193, .inr .iadd, 194), (194, .inr (.putfield 753), 197), (197, .inr (.goto 127), 200), (200, .inr (.aload 0), 201), (201, .inr (.aload 0), 202), (202, .inr (.getfield 753), 205), (205, .inr (.aload 0), 206), (206, .inr (.getfield 752), 209), (209, .inr .isub, 210), (210, .inl (.int 6), 212), (212, .inr (.if_icmp .le 219), 215), (215, .inl (.int 5), 216), (216, .inr (.goto 220), 219), (219, .inl (.int 1), 220), (220, .inr (.putfield 754), 223), (223, .inr (.goto 493), 226), (226, .inr (.aload 0), 227), (227, .inr (.aload 0), 228), (228, .inr (.getfield 752), 231), (231, .inl (.int 48), 233), (233, .inl (.int 57), 235), (235, .inr (.invokevirtual 280), 238), (238, .inr (.ifCond .eq 351), 241), (241, .inr (.aload 0), 242), (242, .inl (.int 0), 243), (243, .inr (.putfield 755), 246), (246, .inr (.aload 0), 247), (247, .inr (.aload 0), 248), (248, .inr (.getfield 752), 251), (251, .inr (.putfield 753), 254), (254, .inr (.aload 0), 255), (255, .inr (.aload 0), 256), (256, .inr (.getfield 753), 259), (259, .inl (.int 48), 261), (261, .inl (.int 57), 263), (263, .inr (.invokevirtual 280), 266), (266, .inr (.ifCond .eq 326), 269), (269, .inr (.aload 0), 270), (270, .inr (.aload 0), 271), (271, .inr (.getfield 753), 274), (274, .inr (.aload 0), 275), (275, .inr (.getfield 752), 278), (278, .inr .isub, 279), (279, .inl (.int 4), 280), (280, .inr (.if_icmp .ge 306), 283), (283, .inl (.int 10), 285), (285, .inr (.aload 0), 286), (286, .inr (.getfield 755), 289), (289, .inr .imul, 290), (290, .inr (.aload 0), 291), (291, .inr (.getfield 746), 294), (294, .inr (.aload 0), 295), (295, .inr (.getfield 753), 298), (298, .inr .baload, 299), (299, .inr .iadd, 300), (300, .inl (.int 48), 302), (302, .inr .isub, 303), (303, .inr (.goto 310), 306), (306, .inr (.aload 0), 307), (307, .inr (.getfield 755), 310), (310, .inr (.putfield 755), 313), (313, .inr (.aload 0), 314), (314, .inr .dup, 315), (315, .inr (.getfield 753), 318), (318, .inl (.int 1), 319), (319, .inr .iadd, 320), (320, .inr (.putfield 753), 323), (323, .inr (.goto 254), 326), (326, .inr (.aload 0), 327), (327, .inr (.aload 0), 328), (328, .inr (.getfield 753), 331), (331, .inr (.aload 0), 332), (332, .inr (.getfield 752), 335), (335, .inr .isub, 336), (336, .inl (.int 4), 337), (337, .inr (.if_icmp .le 344), 340), (340, .inl (.int 5), 341), (341, .inr (.goto 345), 344), (344, .inl (.int 2), 345), (345, .inr (.putfield 754), 348), (348, .inr (.goto 493), 351), (351, .inr (.aload 0), 352), (352, .inr (.aload 0), 353), (353, .inr (.getfield 752), 356), (356, .inl (.int 35), 358), (358, .inl (.int 35), 360), (360, .inr (.invokevirtual 280), 363), (363, .inr (.ifCond .eq 493), 366), (366, .inr (.aload 0), 367), (367, .inl (.long 0), 368), (368, .inr (.putfield 758), 371), (371, .inr (.aload 0), 372), (372, .inr (.aload 0), 373), (373, .inr (.getfield 752), 376), (376, .inl (.int 1), 377), (377, .inr .iadd, 378), (378, .inr (.putfield 753), 381), (381, .inr (.aload 0), 382), (382, .inr (.aload 0), 383), (383, .inr (.getfield 753), 386), (386, .inl (.int 48), 388), (388, .inl (.int 49), 390), (390, .inr (.invokevirtual 280), 393), (393, .inr (.ifCond .eq 454), 396), (396, .inr (.aload 0), 397), (397, .inr (.aload 0), 398), (398, .inr (.getfield 753), 401), (401, .inr (.aload 0), 402), (402, .inr (.getfield 752), 405), (405, .inr .isub, 406), (406, .inl (.int 40), 408), (408, .inr (.if_icmp .gt 437), 411), (411, .inl (.long 2), 414), (414, .inr (.aload 0), 415), (415, .inr (.getfield 758), 418), (418, .inr .lmul, 419), (419, .inr (.aload 0), 420), (420, .inr (.getfield 746), 423), (423, .inr (.aload 0), 424), (424, .inr (.getfield 753), 427), (427, .inr .baload, 428), (428, .inr .i2l, 429), (429, .inr .ladd, 430), (430, .inl (.long 48), 433), (433, .inr .lsub, 434), (434, .inr (.goto 438), 437), (437, .inl (.long 0), 438), (438, .inr (.putfield 758), 441), (441, .inr (.aload 0), 442), (442, .inr .dup, 443), (443, .inr (.getfield 753), 446), (446, .inl (.int 1), 447), (447, .inr .iadd, 448), (448, .inr (.putfield 753), 451), (451, .inr (.goto 381), 454), (454, .inr (.aload 0), 455), (455, .inr (.aload 0), 456), (456, .inr (.getfield 753), 459), (459, .inr (.aload 0), 460), (460, .inr (.getfield 752), 463), (463, .inr .isub, 464), (464, .inl (.int 1), 465), (465, .inr .isub, 466), (466, .inr (.putfield 757), 469), (469, .inr (.aload 0), 470), (470, .inr (.aload 0), 471), (471, .inr (.getfield 757), 474), (474, .inr .i2l, 475), (475, .inl (.long 1), 476), (476, .inl (.long 40), 479), (479, .inr (.invokestatic 191), 482), (482, .inr (.ifCond .eq 489), 485), (485, .inl (.int 4), 486), (486, .inr (.goto 490), 489), (489, .inl (.int 5), 490), (490, .inr (.putfield 754), 493), (493, .inr .return_, 494)]
/-- MaskBenchModel.isOf(III)Z -/
def c_280 : List (Nat × pm_I × Nat) := [(0, .inr (.iload 1), 1), (1, .inr (.aload 0), 2), (2, .inr (.getfield 756), 5), (5, .inr (.if_icmp .ge 29), 8), (8, .inr (.aload 0), 9), (9, .inr (.getfield 746), 12), (12, .inr (.iload 1), 13), (13, .inr .baload, 14), (14, .inr .i2l, 15), (15, .inr (.iload 2), 16), (16, .inr .i2l, 17), (17, .inr (.iload 3), 18), (18, .inr .i2l, 19), (19, .inr (.invokestatic 191), 22), (22, .inr (.ifCond .eq 29), 25), (25, .inl (.int 1), 26), (26, .inr (.goto 30), 29), (29, .inl (.int 0), 30), (30, .inr .ireturn, 31)]
/-- MaskBenchModel.good()Z -/
def c_281 : List (Nat × pm_I × Nat) := [(0, .inr (.aload 0), 1), (1, .inr (.getfield 750), 4), (4, .inr (.ifCond .ne 11), 7), (7, .inl (.int 1), 8), (8, .inr (.goto 12), 11), (11, .inl (.int 0), 12), (12, .inr .ireturn, 13)]
/-- MaskBenchModel.line()V -/
def c_282 : List (Nat × pm_I × Nat) := [(0, .inr (.aload 0), 1), (1, .inl (.int 0), 2), (2, .inr (.invokevirtual 283), 5), (5, .inr (.ifCond .eq 15), 8), (8, .inr (.aload 0), 9), (9, .inr (.invokevirtual 284), 12), (12, .inr (.goto 128), 15), (15, .inr (.aload 0), 16), (16, .inl (.int 7), 18), (18, .inr (.invokevirtual 283), 21), (21, .inr (.ifCond .eq 34), 24), (24, .inr (.aload 0), 25), (25, .inl (.int 0), 26), (26, .inl (.int 8), 28), (28, .inr (.invokevirtual 305), 31), (31, .inr (.goto 128), 34), (34, .inr (.aload 0), 35), (35, .inl (.int 8), 37), (37, .inr (.invokevirtual 283), 40), (40, .inr (.ifCond .eq 53), 43), (43, .inr (.aload 0), 44), (44, .inl (.int 1), 45), (45, .inl (.int 12), 47), (47, .inr (.invokevirtual 305), 50), (50, .inr (.goto 128), 53), (53, .inr (.aload 0), 54), (54, .inl (.int 9), 56), (56, .inr (.invokevirtual 283), 59), (59, .inr (.ifCond .eq 72), 62), (62, .inr (.aload 0), 63), (63, .inl (.int 2), 64), (64, .inl (.int 8), 66), (66, .inr (.invokevirtual 305), 69), (69, .inr (.goto 128), 72), (72, .inr (.aload 0), 73), (73, .inl (.int 10), 75), (75, .inr (.invokevirtual 283), 78), (78, .inr (.ifCond .eq 101), 81), (81, .inr (.aload 0), 82), (82, .inr (.invokevirtual 287), 85), (85, .inr (.aload 0), 86), (86, .inr (.getfield 721), 89), (89, .inl (.int 3), 90), (90, .inr (.aload 0), 91), (91, .inl (.int 0), 92), (92, .inl (.int 99), 94), (94, .inr (.invokevirtual 300), 97), (97, .inr .iastore, 98), (98, .inr (.goto 128), 101), (101, .inr (.aload 0), 102), (102, .inr (.aload 0), 103), (103, .inl (.int 11), 105), (105, .inr (.invokevirtual 283), 108), (108, .inl (.int 2), 109), (109, .inr (.invokevirtual 286), 112), (112, .inr (.aload 0), 113), (113, .inr (.invokevirtual 287), 116), (116, .inr (.aload 0), 117), (117, .inr (.getfield 721), 120), (120, .inl (.int 4), 121), (121, .inr (.aload 0), 122), (122, .inl (.int 0), 123), (123, .inl (.int 1), 124), (124, .inr (.invokevirtual 301), 127), (127, .inr .iastore, 128), (128, .inr (.aload 0), 129), (129, .inr (.aload 0), 130), (130, .inr (.getfield 754), 133), (133, .inl (.int 3), 134), (134, .inr (.if_icmp .ne 141), 137), (137, .inl (.int 1), 138), (138, .inr (.goto 142), 141), (141, .inl (.int 0), 142), (142, .inl (.int 2), 143), (143, .inr (.invokevirtual 286), 146), (146, .inr (.aload 0), 147), (147, .inr (.invokevirtual 287), 150), (150, .inr .return_, 151)]
/-- MaskBenchModel.isWord(I)Z -/
def c_283 : List (Nat × pm_I × Nat) := [(0, .inr (.aload 0), 1), (1, .inr (.invokevirtual 281), 4), (4, .inr (.ifCond .eq 33), 7), (7, .inr (.aload 0), 8), (8, .inr (.getfield 754), 11), (11, .inl (.int 1), 12), (12, .inr (.if_icmp .ne 33), 15), (15, .inr (.aload 0), 16), (16, .inr (.getfield 758), 19), (19, .inr (.aload 0), 20), (20, .inr (.getfield 759), 23), (23, .inr (.iload 1), 24), (24, .inr .laload, 25), (25, .inr .lcmp, 26), (26, .inr (.ifCond .ne 33), 29), (29, .inl (.int 1), 30), (30, .inr (.goto 34), 33), (33, .inl (.int 0), 34), (34, .inr .ireturn, 35)]
/-- MaskBenchModel.readsPlate()V -/
def c_284 : List (Nat × pm_I × Nat) := [(0, .inr (.aload 0), 1), (1, .inr (.aload 0), 2), (2, .inr (.getfield 719), 5), (5, .inl (.int 6), 7), (7, .inr (.invokevirtual 285), 10), (10, .inr (.ifCond .ne 14), 13), (13, .inr .return_, 14), (14, .inr (.aload 0), 15), (15, .inr (.aload 0), 16), (16, .inr (.invokevirtual 288), 19), (19, .inl (.int 2), 20), (20, .inr (.invokevirtual 286), 23), (23, .inr (.aload 0), 24), (24, .inr (.aload 0), 25), (25, .inr (.invokevirtual 281), 28), (28, .inr (.ifCond .eq 38), 31), (31, .inr (.aload 0), 32), (32, .inr (.invokevirtual 289), 35), (35, .inr (.ifCond .ge 42), 38), (38, .inl (.int 1), 39), (39, .inr (.goto 43), 42), (42, .inl (.int 0), 43), (43, .inl (.int 4), 44), (44, .inr (.invokevirtual 286), 47), (47, .inr (.aload 0), 48), (48, .inr (.invokevirtual 281), 51), (51, .inr (.ifCond .eq 67), 54), (54, .inr (.aload 0), 55), (55, .inr (.getfield 717), 58), (58, .inr (.aload 0), 59), (59, .inr (.getfield 719), 62), (62, .inr (.aload 0), 63), (63, .inr (.getfield 758), 66), (66, .inr .lastore, 67), (67, .inr (.aload 0), 68), (68, .inr (.invokevirtual 287), 71), (71, .inr (.aload 0), 72), (72, .inr (.invokevirtual 281), 75), (75, .inr (.ifCond .eq 82), 78), (78, .inr (.aload 0), 79), (79, .inr (.invokevirtual 290), 82), (82, .inr (.aload 0), 83), (83, .inr .dup, 84), (84, .inr (.getfield 719), 87), (87, .inl (.int 1), 88), (88, .inr .iadd, 89), (89, .inr (.putfield 719), 92), (92, .inr .return_, 93)]
/-- MaskBenchModel.begins(II)Z -/
def c_285 : List (Nat × pm_I × Nat) := [(0, .inr (.aload 0), 1), (1, .inr (.iload 1), 2), (2, .inr (.iload 2), 3), (3, .inr (.if_icmp .ge 10), 6), (6, .inl (.int 1), 7), (7, .inr (.goto 11), 10), (10, .inl (.int 0), 11), (11, .inl (.int 6), 13), (13, .inr (.invokevirtual 286), 16), (16, .inr (.aload 0), 17), (17, .inr (.invokevirtual 287), 20), (20, .inr (.aload 0), 21), (21, .inr (.invokevirtual 281), 24), (24, .inr .ireturn, 25)]
/-- MaskBenchModel.must(ZI)V -/
def c_286 : List (Nat × pm_I × Nat) := [(0, .inr (.iload 1), 1), (1, .inr (.ifCond .ne 11), 4), (4, .inr (.aload 0), 5), (5, .inr (.getfield 750), 8), (8, .inr (.ifCond .le 12), 11), (11, .inr .return_, 12), (12, .inr (.aload 0), 13), (13, .inr (.iload 2), 14), (14, .inl (.int 2), 15), (15, .inr (.if_icmp .ne 30), 18), (18, .inr (.aload 0), 19), (19, .inr (.getfield 754), 22), (22, .inl (.int 5), 23), (23, .inr (.if_icmp .ne 30), 26), (26, .inl (.int 1), 27), (27, .inr (.goto 31), 30), (30, .inr (.iload 2), 31), (31, .inr (.putfield 750), 34), (34, .inr (.aload 0), 35), (35, .inr (.aload 0), 36), (36, .inr (.getfield 752), 39), (39, .inr (.putfield 751), 42), (42, .inr .return_, 43)]
/-- MaskBenchModel.goesOn()V -/
def c_287 : List (Nat × pm_I × Nat) := [(0, .inr (.aload 0), 1), (1, .inr (.invokevirtual 281), 4), (4, .inr (.ifCond .eq 11), 7), (7, .inr (.aload 0), 8), (8, .inr (.invokevirtual 279), 11), (11, .inr .return_, 12)]
/-- MaskBenchModel.isName()Z -/
def c_288 : List (Nat × pm_I × Nat) := [(0, .inr (.aload 0), 1), (1, .inr (.invokevirtual 281), 4), (4, .inr (.ifCond .eq 15), 7), (7, .inr (.aload 0), 8), (8, .inr (.getfield 754), 11), (11, .inl (.int 1), 12), (12, .inr (.if_icmp .eq 17), 15), (15, .inl (.int 0), 16), (16, .inr .ireturn, 17), (17, .inl (.int 0), 18), (18, .inr (.istore 1), 19), (19, .inr (.iload 1), 20), (20, .inr (.aload 0), 21), (21, .inr (.getfield 759), 24), (24, .inr .arraylength, 25), (25, .inr (.if_icmp .ge 50), 28), (28, .inr (.aload 0), 29), (29, .inr (.getfield 758), 32), (32, .inr (.aload 0), 33), (33, .inr (.getfield 759), 36), (36, .inr (.iload 1), 37), (37, .inr .laload, 38), (38, .inr .lcmp, 39), (39, .inr (.ifCond .ne 44), 42), (42, .inl (.int 0), 43), (43, .inr .ireturn, 44), (44, .inr (.iinc 1 1), 47), (47, .inr (.goto 19), 50), (50, .inl (.int 1), 51), (51, .inr .ireturn, 52)]
/-- MaskBenchModel.plateNamed()I -/
def c_289 : List (Nat × pm_I × Nat) := [(0, .inl (.int 0), 1), (1, .inr (.istore 1), 2), (2, .inr (.iload 1), 3), (3, .inr (.aload 0), 4), (4, .inr (.getfield 719), 7), (7, .inr (.if_icmp .ge 32), 10), (10, .inr (.aload 0), 11), (11, .inr (.getfield 717), 14), (14, .inr (.iload 1), 15), (15, .inr .laload, 16), (16, .inr (.aload 0), 17), (17, .inr (.getfield 758), 20), (20, .inr .lcmp, 21), (21, .inr (.ifCond .ne 26), 24), (24, .inr (.iload 1), 25), (25, .inr .ireturn, 26), (26, .inr (.iinc 1 1), 29), (29, .inr (.goto 2), 32), (32, .inl (.int (-1)), 33), (33, .inr .ireturn, 34)]
/-- MaskBenchModel.readsForm()V -/
def c_290 : List (Nat × pm_I × Nat) := [(0, .inr (.aload 0), 1), (1, .inl (.int 1), 2), (2, .inr (.invokevirtual 283), 5), (5, .inr (.ifCond .eq 34), 8), (8, .inr (.aload 0), 9), (9, .inr (.invokevirtual 287), 12), (12, .inr (.aload 0), 13), (13, .inl (.int 47), 15), (15, .inr (.invokevirtual 291), 18), (18, .inr (.istore 1), 19), (19, .inr (.aload 0), 20), (20, .inr (.invokevirtual 281), 23), (23, .inr (.ifCond .eq 31), 26), (26, .inr (.aload 0), 27), (27, .inr (.iload 1), 28), (28, .inr (.invokevirtual 292), 31), (31, .inr (.goto 282), 34), (34, .inr (.aload 0), 35), (35, .inl (.int 6), 37), (37, .inr (.invokevirtual 283), 40), (40, .inr (.ifCond .eq 69), 43), (43, .inr (.aload 0), 44), (44, .inr (.invokevirtual 287), 47), (47, .inr (.aload 0), 48), (48, .inl (.int 17), 50), (50, .inr (.invokevirtual 291), 53), (53, .inr (.istore 1), 54), (54, .inr (.aload 0), 55), (55, .inr (.invokevirtual 281), 58), (58, .inr (.ifCond .eq 66), 61), (61, .inr (.aload 0), 62), (62, .inr (.iload 1), 63), (63, .inr (.invokevirtual 297), 66), (66, .inr (.goto 282), 69), (69, .inr (.aload 0), 70), (70, .inl (.int 2), 71), (71, .inr (.invokevirtual 283), 74), (74, .inr (.ifCond .eq 125), 77), (77, .inr (.aload 0), 78), (78, .inr (.invokevirtual 287), 81), (81, .inr (.aload 0), 82), (82, .inr (.aload 0), 83), (83, .inr (.getfield 754), 86), (86, .inl (.int 4), 87), (87, .inr (.if_icmp .ne 94), 90), (90, .inl (.int 1), 91), (91, .inr (.goto 95), 94), (94, .inl (.int 0), 95), (95, .inl (.int 2), 96), (96, .inr (.invokevirtual 286), 99), (99, .inr (.aload 0), 100), (100, .inr (.invokevirtual 281), 103), (103, .inr (.ifCond .eq 118), 106), (106, .inr (.aload 0), 107), (107, .inr (.aload 0), 108), (108, .inr (.getfield 758), 111), (111, .inr (.aload 0), 112), (112, .inr (.getfield 757), 115), (115, .inr (.invokevirtual 298), 118), (118, .inr (.aload 0), 119), (119, .inr (.invokevirtual 287), 122), (122, .inr (.goto 282), 125), (125, .inr (.aload 0), 126), (126, .inl (.int 12), 128), (128, .inr (.invokevirtual 283), 131), (131, .inr (.ifCond .eq 145), 134), (134, .inr (.aload 0), 135), (135, .inr (.invokevirtual 287), 138), (138, .inr (.aload 0), 139), (139, .inr (.invokevirtual 299), 142), (142, .inr (.goto 282), 145), (145, .inr (.aload 0), 146), (146, .inl (.int 3), 147), (147, .inr (.invokevirtual 283), 150), (150, .inr (.ifCond .eq 197), 153), (153, .inr (.aload 0), 154), (154, .inr (.invokevirtual 287), 157), (157, .inr (.aload 0), 158), (158, .inl (.int 0), 159), (159, .inl (.int 1), 160), (160, .inr (.invokevirtual 301), 163), (163, .inr (.istore 1), 164), (164, .inr (.aload 0), 165), (165, .inl (.int 0), 166), (166, .inl (.int 99), 168), (168, .inr (.invokevirtual 300), 171), (171, .inr (.istore 2), 172), (172, .inr (.aload 0), 173), (173, .inl (.int 0), 174), (174, .inl (.int 99), 176), (176, .inr (.invokevirtual 300), 179), (179, .inr (.istore 3), 180), (180, .inr (.aload 0), 181), (181, .inr (.invokevirtual 281), 184), (184, .inr (.ifCond .eq 194), 187), (187, .inr (.aload 0), 188), (188, .inr (.iload 1), 189), (189, .inr (.iload 2), 190), (190, .inr (.iload 3), 191), (191, .inr (.invokevirtual 302), 194), (194, .inr (.goto 282), 197), (197, .inr (.aload 0), 198), (198, .inl (.int 4), 199), (199, .inr (.invokevirtual 283), 202), (202, .inr (.ifCond .eq 231), 205), (205, .inr (.aload 0), 206), (206, .inr (.invokevirtual 287), 209), (209, .inr (.aload 0), 210), (210, .inl (.int 0), 211), (211, .inl (.int 1), 212), (212, .inr (.invokevirtual 301), 215), (215, .inr (.istore 1), 216), (216, .inr (.aload 0), 217), (217, .inr (.invokevirtual 281), 220), (220, .inr (.ifCond .eq 228), 223), (223, .inr (.aload 0), 224), (224, .inr (.iload 1), 225), (225, .inr (.invokevirtual 303), 228), (228, .inr (.goto 282), 231), (231, .inr (.aload 0), 232), (232, .inr (.aload 0), 233), (233, .inl (.int 5), 234), (234, .inr (.invokevirtual 283), 237), (237, .inl (.int 2), 238), (238, .inr (.invokevirtual 286), 241), (241, .inr (.aload 0), 242), (242, .inr (.invokevirtual 287), 245), (245, .inr (.aload 0), 246), (246, .inl (.int 1), 247), (247, .inl (.int 1), 248), (248, .inr (.invokevirtual 301), 251), (251, .inr (.istore 1), 252), (252, .inr (.aload 0), 253), (253, .inl (.int 1), 254), (254, .inr (.aload 0), 255), (255, .inr (.getfield 709), 258), (258, .inl (.int 7), 260), (260, .inr (.iload 1), 261), (261, .inr .imul, 262), (262, .inl (.int 0), 263), (263, .inr .iadd, 264), (264, .inr .iaload, 265), (265, .inr (.invokevirtual 301), 268), (268, .inr (.istore 2), 269), (269, .inr (.aload 0), 270), (270, .inr (.invokevirtual 281), 273), (273, .inr (.ifCond .eq 282), 276), (276, .inr (.aload 0), 277), (277, .inr (.iload 1), 278), (278, .inr (.iload 2), 279), (279, .inr (.invokevirtual 304), 282), (282, .inr .return_, 283)]
/-- MaskBenchModel.takesPrime(I)I -/
def c_291 : List (Nat × pm_I × Nat) := [(0, .inr (.aload 0), 1), (1, .inr (.aload 0), 2), (2, .inr (.getfield 754), 5), (5, .inl (.int 2), 6), (6, .inr (.if_icmp .ne 13), 9), (9, .inl (.int 1), 10), (10, .inr (.goto 14), 13), (13, .inl (.int 0), 14), (14, .inl (.int 2), 15), (15, .inr (.invokevirtual 286), 18), (18, .inr (.aload 0), 19), (19, .inr (.aload 0), 20), (20, .inr (.getfield 755), 23), (23, .inr (.iload 1), 24), (24, .inr (.if_icmp .gt 41), 27), (27, .inr (.aload 0), 28), (28, .inr (.getfield 755), 31), (31, .inr (.invokestatic 212), 34), (34, .inr (.ifCond .eq 41), 37), (37, .inl (.int 1), 38), (38, .inr (.goto 42), 41), (41, .inl (.int 0), 42), (42, .inl (.int 3), 43), (43, .inr (.invokevirtual 286), 46), (46, .inr (.aload 0), 47), (47, .inr (.getfield 755), 50), (50, .inr (.istore 2), 51), (51, .inr (.aload 0), 52), (52, .inr (.invokevirtual 287), 55), (55, .inr (.aload 0), 56), (56, .inr (.invokevirtual 281), 59), (59, .inr (.ifCond .eq 66), 62), (62, .inr (.iload 2), 63), (63, .inr (.goto 67), 66), (66, .inl (.int 3), 67), (67, .inr .ireturn, 68)]
/-- MaskBenchModel.makesRow(I)V -/
def c_292 : List (Nat × pm_I × Nat) := [(0, .inr (.aload 0), 1), (1, .inl (.int 0), 2), (2, .inr (.iload 1), 3), (3, .inl (.int 0), 4), (4, .inl (.int 0), 5), (5, .inr (.invokevirtual 293), 8), (8, .inr (.aload 0), 9), (9, .inr (.iload 1), 10), (10, .inl (.int 1), 11), (11, .inr (.invokevirtual 294), 14), (14, .inl (.int 0), 15), (15, .inr (.istore 2), 16), (16, .inr (.iload 2), 17), (17, .inr (.iload 1), 18), (18, .inr (.if_icmp .ge 71), 21), (21, .inr (.iload 2), 22), (22, .inr (.ifCond .le 37), 25), (25, .inr (.iload 1), 26), (26, .inr (.iload 2), 27), (27, .inr (.invokestatic 295), 30), (30, .inr (.ifCond .eq 37), 33), (33, .inl (.int 1), 34), (34, .inr (.goto 38), 37), (37, .inl (.int 0), 38), (38, .inr (.istore 3), 39), (39, .inr (.aload 0), 40), (40, .inr (.iload 2), 41), (41, .inr (.iload 3), 42), (42, .inr (.iload 3), 43), (43, .inr (.ifCond .ne 57), 46), (46, .inr (.iload 2), 47), (47, .inr (.ifCond .ne 61), 50), (50, .inr (.iload 1), 51), (51, .inl (.int 4), 52), (52, .inr .irem, 53), (53, .inl (.int 1), 54), (54, .inr (.if_icmp .ne 61), 57), (57, .inl (.int 1), 58), (58, .inr (.goto 62), 61), (61, .inl (.int (-1)), 62), (62, .inr (.invokevirtual 296), 65), (65, .inr (.iinc 2 1), 68), (68, .inr (.goto 16), 71), (71, .inr .return_, 72)]
/-- MaskBenchModel.tells(IIII)V -/
def c_293 : List (Nat × pm_I × Nat) := [(0, .inl (.int 7), 2), (2, .inr (.aload 0), 3), (3, .inr (.getfield 719), 6), (6, .inr .imul, 7), (7, .inr (.istore 5), 9), (9, .inr (.aload 0), 10), (10, .inr (.getfield 709), 13), (13, .inr (.iload 5), 15), (15, .inl (.int 2), 16), (16, .inr .iadd, 17), (17, .inr (.iload 1), 18), (18, .inr .iastore, 19), (19, .inr (.aload 0), 20), (20, .inr (.getfield 709), 23), (23, .inr (.iload 5), 25), (25, .inl (.int 3), 26), (26, .inr .iadd, 27), (27, .inr (.iload 2), 28), (28, .inr .iastore, 29), (29, .inr (.aload 0), 30), (30, .inr (.getfield 709), 33), (33, .inr (.iload 5), 35), (35, .inl (.int 4), 36), (36, .inr .iadd, 37), (37, .inr (.iload 3), 38), (38, .inr .iastore, 39), (39, .inr (.aload 0), 40), (40, .inr (.getfield 709), 43), (43, .inr (.iload 5), 45), (45, .inl (.int 5), 46), (46, .inr .iadd, 47), (47, .inr (.iload 4), 49), (49, .inr .iastore, 50), (50, .inr .return_, 51)]
/-- MaskBenchModel.sizes(II)V -/
def c_294 : List (Nat × pm_I × Nat) := [(0, .inr (.aload 0), 1), (1, .inr (.getfield 709), 4), (4, .inl (.int 7), 6), (6, .inr (.aload 0), 7), (7, .inr (.getfield 719), 10), (10, .inr .imul, 11), (11, .inl (.int 0), 12), (12, .inr .iadd, 13), (13, .inr (.iload 1), 14), (14, .inr .iastore, 15), (15, .inr (.aload 0), 16), (16, .inr (.getfield 709), 19), (19, .inl (.int 7), 21), (21, .inr (.aload 0), 22), (22, .inr (.getfield 719), 25), (25, .inr .imul, 26), (26, .inl (.int 1), 27), (27, .inr .iadd, 28), (28, .inr (.iload 2), 29), (29, .inr .iastore, 30), (30, .inr .return_, 31)]
/-- MaskBenchModel.isResidue(II)Z -/
def c_295 : List (Nat × pm_I × Nat) := [(0, .inr (.iload 0), 1), (1, .inr (.iload 1), 2), (2, .inr (.invokestatic 213), 5), (5, .inr (.ifCond .le 12), 8), (8, .inl (.int 1), 9), (9, .inr (.goto 13), 12), (12, .inl (.int 0), 13), (13, .inr .ireturn, 14)]
/-- MaskBenchModel.puts(IZI)V -/
def c_296 : List (Nat × pm_I × Nat) := [(0, .inr (.aload 0), 1), (1, .inr (.getfield 711), 4), (4, .inl (.int 289), 7), (7, .inr (.aload 0), 8), (8, .inr (.getfield 719), 11), (11, .inr .imul, 12), (12, .inr (.iload 1), 13), (13, .inr .iadd, 14), (14, .inr (.iload 2), 15), (15, .inr (.ifCond .eq 22), 18), (18, .inl (.int 1), 19), (19, .inr (.goto 23), 22), (22, .inl (.int 0), 23), (23, .inr .iastore, 24), (24, .inr (.aload 0), 25), (25, .inr (.getfield 713), 28), (28, .inl (.int 289), 31), (31, .inr (.aload 0), 32), (32, .inr (.getfield 719), 35), (35, .inr .imul, 36), (36, .inr (.iload 1), 37), (37, .inr .iadd, 38), (38, .inr (.iload 3), 39), (39, .inr .iastore, 40), (40, .inr .return_, 41)]
/-- MaskBenchModel.makesSquare(I)V -/
def c_297 : List (Nat × pm_I × Nat) := [(0, .inr (.aload 0), 1), (1, .inl (.int 5), 2), (2, .inr (.iload 1), 3), (3, .inl (.int 0), 4), (4, .inl (.int 0), 5), (5, .inr (.invokevirtual 293), 8), (8, .inr (.aload 0), 9), (9, .inr (.iload 1), 10), (10, .inr (.iload 1), 11), (11, .inr (.invokevirtual 294), 14), (14, .inl (.int 0), 15), (15, .inr (.istore 2), 16), (16, .inr (.iload 2), 17), (17, .inr (.iload 1), 18), (18, .inr (.if_icmp .ge 95), 21), (21, .inl (.int 0), 22), (22, .inr (.istore 3), 23), (23, .inr (.iload 3), 24), (24, .inr (.iload 1), 25), (25, .inr (.if_icmp .ge 89), 28), (28, .inr (.iload 3), 29), (29, .inr (.ifCond .le 53), 32), (32, .inr (.iload 2), 33), (33, .inr (.ifCond .eq 49), 36), (36, .inr (.iload 1), 37), (37, .inr (.iload 3), 38), (38, .inr (.invokestatic 295), 41), (41, .inr (.iload 1), 42), (42, .inr (.iload 2), 43), (43, .inr (.invokestatic 295), 46), (46, .inr (.if_icmp .ne 53), 49), (49, .inl (.int 1), 50), (50, .inr (.goto 54), 53), (53, .inl (.int 0), 54), (54, .inr (.istore 4), 56), (56, .inr (.aload 0), 57), (57, .inr (.iload 1), 58), (58, .inr (.iload 2), 59), (59, .inr .imul, 60), (60, .inr (.iload 3), 61), (61, .inr .iadd, 62), (62, .inr (.iload 4), 64), (64, .inr (.iload 4), 66), (66, .inr (.ifCond .ne 75), 69), (69, .inr (.iload 3), 70), (70, .inr (.iload 2), 71), (71, .inr .iadd, 72), (72, .inr (.ifCond .ne 79), 75), (75, .inl (.int 1), 76), (76, .inr (.goto 80), 79), (79, .inl (.int (-1)), 80), (80, .inr (.invokevirtual 296), 83), (83, .inr (.iinc 3 1), 86), (86, .inr (.goto 23), 89), (89, .inr (.iinc 2 1), 92), (92, .inr (.goto 16), 95), (95, .inr .return_, 96)]
/-- MaskBenchModel.makesBits(JI)V -/
def c_298 : List (Nat × pm_I × Nat) := [(0, .inr (.aload 0), 1), (1, .inl (.int 1), 2), (2, .inr (.iload 3), 3), (3, .inl (.int 0), 4), (4, .inl (.int 0), 5), (5, .inr (.invokevirtual 293), 8), (8, .inr (.aload 0), 9), (9, .inr (.getfield 715), 12), (12, .inr (.aload 0), 13), (13, .inr (.getfield 719), 16), (16, .inr (.lload 1), 17), (17, .inr .lastore, 18), (18, .inr (.aload 0), 19), (19, .inr (.iload 3), 20), (20, .inl (.int 1), 21), (21, .inr (.invokevirtual 294), 24), (24, .inl (.int 0), 25), (25, .inr (.istore 4), 27), (27, .inr (.iload 4), 29), (29, .inr (.iload 3), 30), (30, .inr (.if_icmp .ge 79), 33), (33, .inr (.lload 1), 34), (34, .inr (.iload 3), 35), (35, .inl (.int 1), 36), (36, .inr .isub, 37), (37, .inr (.iload 4), 39), (39, .inr .isub, 40), (40, .inr .lshr, 41), (41, .inl (.long 1), 42), (42, .inr .land, 43), (43, .inl (.long 1), 44), (44, .inr .lcmp, 45), (45, .inr (.ifCond .ne 52), 48), (48, .inl (.int 1), 49), (49, .inr (.goto 53), 52), (52, .inl (.int 0), 53), (53, .inr (.istore 5), 55), (55, .inr (.aload 0), 56), (56, .inr (.iload 4), 58), (58, .inr (.iload 5), 60), (60, .inr (.iload 5), 62), (62, .inr (.ifCond .eq 69), 65), (65, .inl (.int 1), 66), (66, .inr (.goto 70), 69), (69, .inl (.int (-1)), 70), (70, .inr (.invokevirtual 296), 73), (73, .inr (.iinc 4 1), 76), (76, .inr (.goto 27), 79), (79, .inr .return_, 80)]
/-- MaskBenchModel.makesSet()V -/
def c_299 : List (Nat × pm_I × Nat) := [(0, .inr (.aload 0), 1), (1, .inl (.int 1), 2), (2, .inl (.int 47), 4), (4, .inr (.invokevirtual 300), 7), (7, .inr (.istore 1), 8), (8, .inr (.aload 0), 9), (9, .inl (.int 6), 11), (11, .inr (.iload 1), 12), (12, .inl (.int 0), 13), (13, .inl (.int 0), 14), (14, .inr (.invokevirtual 293), 17), (17, .inr (.aload 0), 18), (18, .inr (.iload 1), 19), (19, .inl (.int 1), 20), (20, .inr (.invokevirtual 294), 23), (23, .inl (.int 0), 24), (24, .inr (.istore 2), 25), (25, .inr (.iload 2), 26), (26, .inr (.iload 1), 27), (27, .inr (.if_icmp .ge 43), 30), (30, .inr (.aload 0), 31), (31, .inr (.iload 2), 32), (32, .inl (.int 0), 33), (33, .inl (.int (-1)), 34), (34, .inr (.invokevirtual 296), 37), (37, .inr (.iinc 2 1), 40), (40, .inr (.goto 25), 43), (43, .inr (.aload 0), 44), (44, .inr (.invokevirtual 281), 47), (47, .inr (.ifCond .eq 171), 50), (50, .inr (.aload 0), 51), (51, .inr (.getfield 754), 54), (54, .inl (.int 2), 55), (55, .inr (.if_icmp .ne 171), 58), (58, .inr (.aload 0), 59), (59, .inr (.aload 0), 60), (60, .inr (.getfield 755), 63), (63, .inr (.iload 1), 64), (64, .inr (.if_icmp .ge 92), 67), (67, .inr (.aload 0), 68), (68, .inr (.getfield 711), 71), (71, .inl (.int 289), 74), (74, .inr (.aload 0), 75), (75, .inr (.getfield 719), 78), (78, .inr .imul, 79), (79, .inr (.aload 0), 80), (80, .inr (.getfield 755), 83), (83, .inr .iadd, 84), (84, .inr .iaload, 85), (85, .inr (.ifCond .ne 92), 88), (88, .inl (.int 1), 89), (89, .inr (.goto 93), 92), (92, .inl (.int 0), 93), (93, .inl (.int 3), 94), (94, .inr (.invokevirtual 286), 97), (97, .inr (.aload 0), 98), (98, .inr (.invokevirtual 281), 101), (101, .inr (.ifCond .ne 105), 104), (104, .inr .return_, 105), (105, .inr (.aload 0), 106), (106, .inr (.aload 0), 107), (107, .inr (.getfield 755), 110), (110, .inl (.int 1), 111), (111, .inl (.int 1), 112), (112, .inr (.invokevirtual 296), 115), (115, .inr (.aload 0), 116), (116, .inr (.getfield 707), 119), (119, .inl (.int 47), 121), (121, .inr (.aload 0), 122), (122, .inr (.getfield 719), 125), (125, .inr .imul, 126), (126, .inr (.aload 0), 127), (127, .inr (.getfield 709), 130), (130, .inl (.int 7), 132), (132, .inr (.aload 0), 133), (133, .inr (.getfield 719), 136), (136, .inr .imul, 137), (137, .inl (.int 4), 138), (138, .inr .iadd, 139), (139, .inr .iaload, 140), (140, .inr .iadd, 141), (141, .inr (.aload 0), 142), (142, .inr (.getfield 755), 145), (145, .inr .iastore, 146), (146, .inr (.aload 0), 147), (147, .inr (.getfield 709), 150), (150, .inl (.int 7), 152), (152, .inr (.aload 0), 153), (153, .inr (.getfield 719), 156), (156, .inr .imul, 157), (157, .inl (.int 4), 158), (158, .inr .iadd, 159), (159, .inr .dup2, 160), (160, .inr .iaload, 161), (161, .inl (.int 1), 162), (162, .inr .iadd, 163), (163, .inr .iastore, 164), (164, .inr (.aload 0), 165), (165, .inr (.invokevirtual 287), 168), (168, .inr (.goto 43), 171), (171, .inr .return_, 172)]
/-- MaskBenchModel.takesNumber(II)I -/
def c_300 : List (Nat × pm_I × Nat) := [(0, .inr (.aload 0), 1), (1, .inr (.aload 0), 2), (2, .inr (.getfield 754), 5), (5, .inl (.int 2), 6), (6, .inr (.if_icmp .ne 13), 9), (9, .inl (.int 1), 10), (10, .inr (.goto 14), 13), (13, .inl (.int 0), 14), (14, .inl (.int 2), 15), (15, .inr (.invokevirtual 286), 18), (18, .inr (.aload 0), 19), (19, .inr (.aload 0), 20), (20, .inr (.getfield 755), 23), (23, .inr .i2l, 24), (24, .inr (.iload 1), 25), (25, .inr .i2l, 26), (26, .inr (.iload 2), 27), (27, .inr .i2l, 28), (28, .inr (.invokestatic 191), 31), (31, .inl (.int 3), 32), (32, .inr (.invokevirtual 286), 35), (35, .inr (.aload 0), 36), (36, .inr (.getfield 755), 39), (39, .inr (.istore 3), 40), (40, .inr (.aload 0), 41), (41, .inr (.invokevirtual 287), 44), (44, .inr (.aload 0), 45), (45, .inr (.invokevirtual 281), 48), (48, .inr (.ifCond .eq 55), 51), (51, .inr (.iload 3), 52), (52, .inr (.goto 56), 55), (55, .inr (.iload 1), 56), (56, .inr .ireturn, 57)]
/-- MaskBenchModel.takesPlate(ZI)I -/
def c_301 : List (Nat × pm_I × Nat) := [(0, .inr (.aload 0), 1), (1, .inr (.aload 0), 2), (2, .inr (.invokevirtual 288), 5), (5, .inl (.int 2), 6), (6, .inr (.invokevirtual 286), 9), (9, .inr (.aload 0), 10), (10, .inr (.invokevirtual 281), 13), (13, .inr (.ifCond .eq 23), 16), (16, .inr (.aload 0), 17), (17, .inr (.invokevirtual 289), 20), (20, .inr (.goto 24), 23), (23, .inl (.int 0), 24), (24, .inr (.istore 3), 25), (25, .inr (.aload 0), 26), (26, .inr (.iload 3), 27), (27, .inr (.ifCond .lt 34), 30), (30, .inl (.int 1), 31), (31, .inr (.goto 35), 34), (34, .inl (.int 0), 35), (35, .inl (.int 4), 36), (36, .inr (.invokevirtual 286), 39), (39, .inr (.aload 0), 40), (40, .inr (.aload 0), 41), (41, .inr (.invokevirtual 281), 44), (44, .inr (.ifCond .eq 85), 47), (47, .inr (.iload 1), 48), (48, .inr (.ifCond .eq 85), 51), (51, .inr (.aload 0), 52), (52, .inr (.getfield 709), 55), (55, .inl (.int 7), 57), (57, .inr (.iload 3), 58), (58, .inr .imul, 59), (59, .inl (.int 1), 60), (60, .inr .iadd, 61), (61, .inr .iaload, 62), (62, .inl (.int 1), 63), (63, .inr (.if_icmp .ne 89), 66), (66, .inr (.aload 0), 67), (67, .inr (.getfield 709), 70), (70, .inl (.int 7), 72), (72, .inr (.iload 3), 73), (73, .inr .imul, 74), (74, .inl (.int 0), 75), (75, .inr .iadd, 76), (76, .inr .iaload, 77), (77, .inr (.iload 2), 78), (78, .inr .imul, 79), (79, .inl (.int 289), 82), (82, .inr (.if_icmp .gt 89), 85), (85, .inl (.int 1), 86), (86, .inr (.goto 90), 89), (89, .inl (.int 0), 90), (90, .inl (.int 5), 91), (91, .inr (.invokevirtual 286), 94), (94, .inr (.aload 0), 95), (95, .inr (.invokevirtual 287), 98), (98, .inr (.aload 0), 99), (99, .inr (.invokevirtual 281), 102), (102, .inr (.ifCond .eq 109), 105), (105, .inr (.iload 3), 106), (106, .inr (.goto 110), 109), (109, .inl (.int 0), 110), (110, .inr .ireturn, 111)]
/-- MaskBenchModel.makesTurn(III)V -/
def c_302 : List (Nat × pm_I × Nat) := [(0, .inr (.aload 0), 1), (1, .inl (.int 2), 2), (2, .inr (.iload 1), 3), (3, .inr (.iload 2), 4), (4, .inr (.iload 3), 5), (5, .inr (.invokevirtual 293), 8), (8, .inr (.aload 0), 9), (9, .inr (.getfield 709), 12), (12, .inl (.int 7), 14), (14, .inr (.iload 1), 15), (15, .inr .imul, 16), (16, .inl (.int 0), 17), (17, .inr .iadd, 18), (18, .inr .iaload, 19), (19, .inr (.istore 4), 21), (21, .inr (.aload 0), 22), (22, .inr (.getfield 709), 25), (25, .inl (.int 7), 27), (27, .inr (.iload 1), 28), (28, .inr .imul, 29), (29, .inl (.int 1), 30), (30, .inr .iadd, 31), (31, .inr .iaload, 32), (32, .inr (.istore 5), 34), (34, .inr (.aload 0), 35), (35, .inr (.iload 4), 37), (37, .inr (.iload 5), 39), (39, .inr (.invokevirtual 294), 42), (42, .inl (.int 0), 43), (43, .inr (.istore 6), 45), (45, .inr (.iload 6), 47), (47, .inr (.iload 5), 49), (49, .inr (.if_icmp .ge 139), 52), (52, .inl (.int 0), 53), (53, .inr (.istore 7), 55), (55, .inr (.iload 7), 57), (57, .inr (.iload 4), 59), (59, .inr (.if_icmp .ge 133), 62), (62, .inl (.int 289), 65), (65, .inr (.iload 1), 66), (66, .inr .imul, 67), (67, .inr (.iload 6), 69), (69, .inr (.iload 3), 70), (70, .inr .isub, 71), (71, .inr (.iload 5), 73), (73, .inr (.invokestatic 202), 76), (76, .inr (.iload 4), 78), (78, .inr .imul, 79), (79, .inr .iadd, 80), (80, .inr (.iload 7), 82), (82, .inr (.iload 2), 83), (83, .inr .isub, 84), (84, .inr (.iload 4), 86), (86, .inr (.invokestatic 202), 89), (89, .inr .iadd, 90), (90, .inr (.istore 8), 92), (92, .inr (.aload 0), 93), (93, .inr (.iload 4), 95), (95, .inr (.iload 6), 97), (97, .inr .imul, 98), (98, .inr (.iload 7), 100), (100, .inr .iadd, 101), (101, .inr (.aload 0), 102), (102, .inr (.getfield 711), 105), (105, .inr (.iload 8), 107), (107, .inr .iaload, 108), (108, .inl (.int 1), 109), (109, .inr (.if_icmp .ne 116), 112), (112, .inl (.int 1), 113), (113, .inr (.goto 117), 116), (116, .inl (.int 0), 117), (117, .inr (.aload 0), 118), (118, .inr (.getfield 713), 121), (121, .inr (.iload 8), 123), (123, .inr .iaload, 124), (124, .inr (.invokevirtual 296), 127), (127, .inr (.iinc 7 1), 130), (130, .inr (.goto 55), 133), (133, .inr (.iinc 6 1), 136), (136, .inr (.goto 45), 139), (139, .inr .return_, 140)]
/-- MaskBenchModel.makesNegative(I)V -/
def c_303 : List (Nat × pm_I × Nat) := [(0, .inr (.aload 0), 1), (1, .inl (.int 3), 2), (2, .inr (.iload 1), 3), (3, .inl (.int 0), 4), (4, .inl (.int 0), 5), (5, .inr (.invokevirtual 293), 8), (8, .inr (.aload 0), 9), (9, .inr (.aload 0), 10), (10, .inr (.getfield 709), 13), (13, .inl (.int 7), 15), (15, .inr (.iload 1), 16), (16, .inr .imul, 17), (17, .inl (.int 0), 18), (18, .inr .iadd, 19), (19, .inr .iaload, 20), (20, .inr (.aload 0), 21), (21, .inr (.getfield 709), 24), (24, .inl (.int 7), 26), (26, .inr (.iload 1), 27), (27, .inr .imul, 28), (28, .inl (.int 1), 29), (29, .inr .iadd, 30), (30, .inr .iaload, 31), (31, .inr (.invokevirtual 294), 34), (34, .inl (.int 0), 35), (35, .inr (.istore 2), 36), (36, .inr (.iload 2), 37), (37, .inr (.aload 0), 38), (38, .inr (.getfield 709), 41), (41, .inl (.int 7), 43), (43, .inr (.iload 1), 44), (44, .inr .imul, 45), (45, .inl (.int 0), 46), (46, .inr .iadd, 47), (47, .inr .iaload, 48), (48, .inr (.aload 0), 49), (49, .inr (.getfield 709), 52), (52, .inl (.int 7), 54), (54, .inr (.iload 1), 55), (55, .inr .imul, 56), (56, .inl (.int 1), 57), (57, .inr .iadd, 58), (58, .inr .iaload, 59), (59, .inr .imul, 60), (60, .inr (.if_icmp .ge 107), 63), (63, .inr (.aload 0), 64), (64, .inr (.iload 2), 65), (65, .inr (.aload 0), 66), (66, .inr (.getfield 711), 69), (69, .inl (.int 289), 72), (72, .inr (.iload 1), 73), (73, .inr .imul, 74), (74, .inr (.iload 2), 75), (75, .inr .iadd, 76), (76, .inr .iaload, 77), (77, .inr (.ifCond .ne 84), 80), (80, .inl (.int 1), 81), (81, .inr (.goto 85), 84), (84, .inl (.int 0), 85), (85, .inr (.aload 0), 86), (86, .inr (.getfield 713), 89), (89, .inl (.int 289), 92), (92, .inr (.iload 1), 93), (93, .inr .imul, 94), (94, .inr (.iload 2), 95), (95, .inr .iadd, 96), (96, .inr .iaload, 97), (97, .inr .ineg, 98), (98, .inr (.invokevirtual 296), 101), (101, .inr (.iinc 2 1), 104), (104, .inr (.goto 36), 107), (107, .inr .return_, 108)]
/-- MaskBenchModel.makesBoth(II)V -/
def c_304 : List (Nat × pm_I × Nat) := [(0, .inr (.aload 0), 1), (1, .inl (.int 4), 2), (2, .inr (.iload 1), 3), (3, .inr (.iload 2), 4), (4, .inl (.int 0), 5), (5, .inr (.invokevirtual 293), 8), (8, .inr (.aload 0), 9), (9, .inr (.getfield 709), 12), (12, .inl (.int 7), 14), (14, .inr (.iload 1), 15), (15, .inr .imul, 16), (16, .inl (.int 0), 17), (17, .inr .iadd, 18), (18, .inr .iaload, 19), (19, .inr (.istore 3), 20), (20, .inr (.aload 0), 21), (21, .inr (.getfield 709), 24), (24, .inl (.int 7), 26), (26, .inr (.iload 2), 27), (27, .inr .imul, 28), (28, .inl (.int 0), 29), (29, .inr .iadd, 30), (30, .inr .iaload, 31), (31, .inr (.istore 4), 33), (33, .inr (.aload 0), 34), (34, .inr (.iload 3), 35), (35, .inr (.iload 4), 37), (37, .inr (.invokevirtual 294), 40), (40, .inl (.int 0), 41), (41, .inr (.istore 5), 43), (43, .inr (.iload 5), 45), (45, .inr (.iload 4), 47), (47, .inr (.if_icmp .ge 143), 50), (50, .inl (.int 0), 51), (51, .inr (.istore 6), 53), (53, .inr (.iload 6), 55), (55, .inr (.iload 3), 56), (56, .inr (.if_icmp .ge 137), 59), (59, .inr (.aload 0), 60), (60, .inr (.iload 3), 61), (61, .inr (.iload 5), 63), (63, .inr .imul, 64), (64, .inr (.iload 6), 66), (66, .inr .iadd, 67), (67, .inr (.aload 0), 68), (68, .inr (.getfield 711), 71), (71, .inl (.int 289), 74), (74, .inr (.iload 1), 75), (75, .inr .imul, 76), (76, .inr (.iload 6), 78), (78, .inr .iadd, 79), (79, .inr .iaload, 80), (80, .inr (.aload 0), 81), (81, .inr (.getfield 711), 84), (84, .inl (.int 289), 87), (87, .inr (.iload 2), 88), (88, .inr .imul, 89), (89, .inr (.iload 5), 91), (91, .inr .iadd, 92), (92, .inr .iaload, 93), (93, .inr (.if_icmp .ne 100), 96), (96, .inl (.int 1), 97), (97, .inr (.goto 101), 100), (100, .inl (.int 0), 101), (101, .inr (.aload 0), 102), (102, .inr (.getfield 713), 105), (105, .inl (.int 289), 108), (108, .inr (.iload 1), 109), (109, .inr .imul, 110), (110, .inr (.iload 6), 112), (112, .inr .iadd, 113), (113, .inr .iaload, 114), (114, .inr (.aload 0), 115), (115, .inr (.getfield 713), 118), (118, .inl (.int 289), 121), (121, .inr (.iload 2), 122), (122, .inr .imul, 123), (123, .inr (.iload 5), 125), (125, .inr .iadd, 126), (126, .inr .iaload, 127), (127, .inr .imul, 128), (128, .inr (.invokevirtual 296), 131), (131, .inr (.iinc 6 1), 134), (134, .inr (.goto 53), 137), (137, .inr (.iinc 5 1), 140), (140, .inr (.goto 43), 143), (143, .inr .return_, 144)]
/-- MaskBenchModel.readsThing(II)V -/
def c_305 : List (Nat × pm_I × Nat) := [(0, .inr (.aload 0), 1), (1, .inr (.getfield 721), 4), (4, .inr (.iload 1), 5), (5, .inr (.invokestatic 219), 8), (8, .inr .iaload, 9), (9, .inr (.istore 3), 10), (10, .inr (.aload 0), 11), (11, .inr (.iload 3), 12), (12, .inr (.iload 2), 13), (13, .inr (.invokevirtual 285), 16), (16, .inr (.ifCond .ne 20), 19), (19, .inr .return_, 20), (20, .inr (.iload 1), 21), (21, .inr (.invokestatic 220), 24), (24, .inl (.int 3), 25), (25, .inr (.iload 3), 26), (26, .inr .imul, 27), (27, .inr .iadd, 28), (28, .inr (.istore 4), 30), (30, .inr (.aload 0), 31), (31, .inr (.getfield 721), 34), (34, .inr (.iload 4), 36), (36, .inr (.aload 0), 37), (37, .inl (.int 0), 38), (38, .inl (.int 99), 40), (40, .inr (.invokevirtual 300), 43), (43, .inr .iastore, 44), (44, .inr (.aload 0), 45), (45, .inr (.getfield 721), 48), (48, .inr (.iload 4), 50), (50, .inl (.int 1), 51), (51, .inr .iadd, 52), (52, .inr (.aload 0), 53), (53, .inl (.int 0), 54), (54, .inl (.int 99), 56), (56, .inr (.invokevirtual 300), 59), (59, .inr .iastore, 60), (60, .inr (.aload 0), 61), (61, .inr (.getfield 721), 64), (64, .inr (.iload 4), 66), (66, .inl (.int 2), 67), (67, .inr .iadd, 68), (68, .inr (.iload 1), 69), (69, .inl (.int 1), 70), (70, .inr (.if_icmp .ne 77), 73), (73, .inl (.int 0), 74), (74, .inr (.goto 85), 77), (77, .inr (.aload 0), 78), (78, .inl (.int 1), 79), (79, .inl (.int 999), 82), (82, .inr (.invokevirtual 300), 85), (85, .inr .iastore, 86), (86, .inr (.aload 0), 87), (87, .inr (.getfield 721), 90), (90, .inr (.iload 1), 91), (91, .inr (.invokestatic 219), 94), (94, .inr .dup2, 95), (95, .inr .iaload, 96), (96, .inl (.int 1), 97), (97, .inr .iadd, 98), (98, .inr .iastore, 99), (99, .inr .return_, 100)]
/-- MaskBenchModel.fault(I)I -/
def c_306 : List (Nat × pm_I × Nat) := [(0, .inr (.aload 0), 1), (1, .inl (.int 0), 2), (2, .inr (.putfield 705), 5), (5, .inr (.iload 1), 6), (6, .inr (.ifCond .ne 16), 9), (9, .inr (.aload 0), 10), (10, .inr (.getfield 748), 13), (13, .inr (.goto 29), 16), (16, .inr (.iload 1), 17), (17, .inl (.int 1), 18), (18, .inr (.if_icmp .ne 28), 21), (21, .inr (.aload 0), 22), (22, .inr (.getfield 749), 25), (25, .inr (.goto 29), 28), (28, .inl (.int (-1)), 29), (29, .inr .ireturn, 30)]
/-- MaskBenchModel.print()I -/
def c_307 : List (Nat × pm_I × Nat) := [(0, .inr (.aload 0), 1), (1, .inl (.int 0), 2), (2, .inr (.invokevirtual 192), 5), (5, .inr (.ifCond .ne 10), 8), (8, .inl (.int (-1)), 9), (9, .inr .ireturn, 10), (10, .inr (.aload 0), 11), (11, .inl (.int 0), 12), (12, .inr (.putfield 761), 15), (15, .inl (.int 0), 16), (16, .inr (.istore 1), 17), (17, .inr (.iload 1), 18), (18, .inr (.aload 0), 19), (19, .inr (.getfield 718), 22), (22, .inr (.if_icmp .ge 36), 25), (25, .inr (.aload 0), 26), (26, .inr (.iload 1), 27), (27, .inr (.invokevirtual 308), 30), (30, .inr (.iinc 1 1), 33), (33, .inr (.goto 17), 36), (36, .inl (.int 0), 37), (37, .inr (.istore 1), 38), (38, .inr (.iload 1), 39), (39, .inl (.int 3), 40), (40, .inr (.if_icmp .ge 54), 43), (43, .inr (.aload 0), 44), (44, .inr (.iload 1), 45), (45, .inr (.invokevirtual 313), 48), (48, .inr (.iinc 1 1), 51), (51, .inr (.goto 38), 54), (54, .inr (.aload 0), 55), (55, .inr (.aload 0), 56), (56, .inr (.getfield 759), 59), (59, .inl (.int 10), 61), (61, .inr .laload, 62), (62, .inl (.int 0), 63), (63, .inr (.invokevirtual 309), 66), (66, .inr (.aload 0), 67), (67, .inr (.aload 0), 68), (68, .inr (.getfield 720), 71), (71, .inl (.int 3), 72), (72, .inr .iaload, 73), (73, .inr (.invokevirtual 311), 76), (76, .inr (.aload 0), 77), (77, .inl (.int 59), 79), (79, .inr (.invokevirtual 310), 82), (82, .inr (.aload 0), 83), (83, .inr (.getfield 718), 86), (86, .inr (.ifCond .le 123), 89), (89, .inr (.aload 0), 90), (90, .inr (.aload 0), 91), (91, .inr (.getfield 759), 94), (94, .inl (.int 11), 96), (96, .inr .laload, 97), (97, .inl (.int 0), 98), (98, .inr (.invokevirtual 309), 101), (101, .inr (.aload 0), 102), (102, .inr (.aload 0), 103), (103, .inr (.getfield 716), 106), (106, .inr (.aload 0), 107), (107, .inr (.getfield 720), 110), (110, .inl (.int 4), 111), (111, .inr .iaload, 112), (112, .inr .laload, 113), (113, .inl (.int 1), 114), (114, .inr (.invokevirtual 309), 117), (117, .inr (.aload 0), 118), (118, .inl (.int 59), 120), (120, .inr (.invokevirtual 310), 123), (123, .inr (.aload 0), 124), (124, .inr (.getfield 761), 127), (127, .inr .ireturn, 128)]
/-- MaskBenchModel.saysPlate(I)V -/
def c_308 : List (Nat × pm_I × Nat) := [(0, .inr (.aload 0), 1), (1, .inr (.getfield 708), 4), (4, .inl (.int 7), 6), (6, .inr (.iload 1), 7), (7, .inr .imul, 8), (8, .inl (.int 2), 9), (9, .inr .iadd, 10), (10, .inr .iaload, 11), (11, .inr (.istore 2), 12), (12, .inr (.aload 0), 13), (13, .inr (.getfield 708), 16), (16, .inl (.int 7), 18), (18, .inr (.iload 1), 19), (19, .inr .imul, 20), (20, .inl (.int 3), 21), (21, .inr .iadd, 22), (22, .inr .iaload, 23), (23, .inr (.istore 3), 24), (24, .inr (.aload 0), 25), (25, .inr (.aload 0), 26), (26, .inr (.getfield 759), 29), (29, .inl (.int 0), 30), (30, .inr .laload, 31), (31, .inl (.int 0), 32), (32, .inr (.invokevirtual 309), 35), (35, .inr (.aload 0), 36), (36, .inr (.aload 0), 37), (37, .inr (.getfield 716), 40), (40, .inr (.iload 1), 41), (41, .inr .laload, 42), (42, .inl (.int 1), 43), (43, .inr (.invokevirtual 309), 46), (46, .inr (.aload 0), 47), (47, .inr (.aload 0), 48), (48, .inr (.getfield 759), 51), (51, .inr (.iload 2), 52), (52, .inr (.ifCond .ne 59), 55), (55, .inl (.int 1), 56), (56, .inr (.goto 108), 59), (59, .inr (.iload 2), 60), (60, .inl (.int 1), 61), (61, .inr (.if_icmp .ne 68), 64), (64, .inl (.int 2), 65), (65, .inr (.goto 108), 68), (68, .inr (.iload 2), 69), (69, .inl (.int 2), 70), (70, .inr (.if_icmp .ne 77), 73), (73, .inl (.int 3), 74), (74, .inr (.goto 108), 77), (77, .inr (.iload 2), 78), (78, .inl (.int 3), 79), (79, .inr (.if_icmp .ne 86), 82), (82, .inl (.int 4), 83), (83, .inr (.goto 108), 86), (86, .inr (.iload 2), 87), (87, .inl (.int 4), 88), (88, .inr (.if_icmp .ne 95), 91), (91, .inl (.int 5), 92), (92, .inr (.goto 108), 95), (95, .inr (.iload 2), 96), (96, .inl (.int 6), 98), (98, .inr (.if_icmp .ne 106), 101), (101, .inl (.int 12), 103), (103, .inr (.goto 108), 106), (106, .inl (.int 6), 108), (108, .inr .laload, 109), (109, .inl (.int 1), 110), (110, .inr (.invokevirtual 309), 113), (113, .inr (.iload 2), 114), (114, .inr (.ifCond .eq 128), 117), (117, .inr (.iload 2), 118), (118, .inl (.int 5), 119), (119, .inr (.if_icmp .eq 128), 122), (122, .inr (.iload 2), 123), (123, .inl (.int 6), 125), (125, .inr (.if_icmp .ne 136), 128), (128, .inr (.aload 0), 129), (129, .inr (.iload 3), 130), (130, .inr (.invokevirtual 311), 133), (133, .inr (.goto 160), 136), (136, .inr (.iload 2), 137), (137, .inl (.int 1), 138), (138, .inr (.if_icmp .ne 149), 141), (141, .inr (.aload 0), 142), (142, .inr (.iload 1), 143), (143, .inr (.invokevirtual 312), 146), (146, .inr (.goto 160), 149), (149, .inr (.aload 0), 150), (150, .inr (.aload 0), 151), (151, .inr (.getfield 716), 154), (154, .inr (.iload 3), 155), (155, .inr .laload, 156), (156, .inl (.int 1), 157), (157, .inr (.invokevirtual 309), 160), (160, .inl (.int 0), 161), (161, .inr (.istore 4), 163), (163, .inr (.iload 2), 164), (164, .inl (.int 6), 166), (166, .inr (.if_icmp .ne 207), 169), (169, .inr (.iload 4), 171), (171, .inr (.aload 0), 172), (172, .inr (.getfield 708), 175), (175, .inl (.int 7), 177), (177, .inr (.iload 1), 178), (178, .inr .imul, 179), (179, .inl (.int 4), 180), (180, .inr .iadd, 181), (181, .inr .iaload, 182), (182, .inr (.if_icmp .ge 207), 185), (185, .inr (.aload 0), 186), (186, .inr (.aload 0), 187), (187, .inr (.getfield 706), 190), (190, .inl (.int 47), 192), (192, .inr (.iload 1), 193), (193, .inr .imul, 194), (194, .inr (.iload 4), 196), (196, .inr .iadd, 197), (197, .inr .iaload, 198), (198, .inr (.invokevirtual 311), 201), (201, .inr (.iinc 4 1), 204), (204, .inr (.goto 163), 207), (207, .inr (.iload 2), 208), (208, .inl (.int 4), 209), (209, .inr (.if_icmp .ne 233), 212), (212, .inr (.aload 0), 213), (213, .inr (.aload 0), 214), (214, .inr (.getfield 716), 217), (217, .inr (.aload 0), 218), (218, .inr (.getfield 708), 221), (221, .inl (.int 7), 223), (223, .inr (.iload 1), 224), (224, .inr .imul, 225), (225, .inl (.int 4), 226), (226, .inr .iadd, 227), (227, .inr .iaload, 228), (228, .inr .laload, 229), (229, .inl (.int 1), 230), (230, .inr (.invokevirtual 309), 233), (233, .inr (.iload 2), 234), (234, .inl (.int 2), 235), (235, .inr (.if_icmp .ne 268), 238), (238, .inr (.aload 0), 239), (239, .inr (.aload 0), 240), (240, .inr (.getfield 708), 243), (243, .inl (.int 7), 245), (245, .inr (.iload 1), 246), (246, .inr .imul, 247), (247, .inl (.int 4), 248), (248, .inr .iadd, 249), (249, .inr .iaload, 250), (250, .inr (.invokevirtual 311), 253), (253, .inr (.aload 0), 254), (254, .inr (.aload 0), 255), (255, .inr (.getfield 708), 258), (258, .inl (.int 7), 260), (260, .inr (.iload 1), 261), (261, .inr .imul, 262), (262, .inl (.int 5), 263), (263, .inr .iadd, 264), (264, .inr .iaload, 265), (265, .inr (.invokevirtual 311), 268), (268, .inr (.aload 0), 269), (269, .inl (.int 59), 271), (271, .inr (.invokevirtual 310), 274), (274, .inr .return_, 275)]
/-- MaskBenchModel.saysWord(JZ)V -/
def c_309 : List (Nat × pm_I × Nat) := [(0, .inr (.iload 3), 1), (1, .inr (.ifCond .eq 10), 4), (4, .inr (.aload 0), 5), (5, .inl (.int 32), 7), (7, .inr (.invokevirtual 310), 10), (10, .inl (.long 1), 11), (11, .inr (.lstore 4), 13), (13, .inr (.lload 1), 14), (14, .inr (.lload 4), 16), (16, .inr .ldiv, 17), (17, .inl (.long 27), 20), (20, .inr .lcmp, 21), (21, .inr (.ifCond .lt 35), 24), (24, .inr (.lload 4), 26), (26, .inl (.long 27), 29), (29, .inr .lmul, 30), (30, .inr (.lstore 4), 32), (32, .inr (.goto 13), 35), (35, .inr (.lload 4), 37), (37, .inl (.long 0), 38), (38, .inr .lcmp, 39), (39, .inr (.ifCond .le 69), 42), (42, .inr (.aload 0), 43), (43, .inr (.lload 1), 44), (44, .inr (.lload 4), 46), (46, .inr .ldiv, 47), (47, .inl (.long 27), 50), (50, .inr .lrem, 51), (51, .inr .l2i, 52), (52, .inl (.int 96), 54), (54, .inr .iadd, 55), (55, .inr (.invokevirtual 310), 58), (58, .inr (.lload 4), 60), (60, .inl (.long 27), 63), (63, .inr .ldiv, 64), (64, .inr (.lstore 4), 66), (66, .inr (.goto 35), 69), (69, .inr .return_, 70)]
/-- MaskBenchModel.says(I)V -/
def c_310 : List (Nat × pm_I × Nat) := [(0, .inr (.aload 0), 1), (1, .inr (.getfield 760), 4), (4, .inr (.aload 0), 5), (5, .inr (.getfield 761), 8), (8, .inr (.iload 1), 9), (9, .inr .iastore, 10), (10, .inr (.aload 0), 11), (11, .inr .dup, 12), (12, .inr (.getfield 761), 15), (15, .inl (.int 1), 16), (16, .inr .iadd, 17), (17, .inr (.putfield 761), 20), (20, .inr .return_, 21)]
/-- MaskBenchModel.saysNumber(I)V -/
def c_311 : List (Nat × pm_I × Nat) := [(0, .inr (.aload 0), 1), (1, .inl (.int 32), 3), (3, .inr (.invokevirtual 310), 6), (6, .inl (.int 1), 7), (7, .inr (.istore 2), 8), (8, .inr (.iload 1), 9), (9, .inr (.iload 2), 10), (10, .inr .idiv, 11), (11, .inl (.int 10), 13), (13, .inr (.if_icmp .lt 24), 16), (16, .inr (.iload 2), 17), (17, .inl (.int 10), 19), (19, .inr .imul, 20), (20, .inr (.istore 2), 21), (21, .inr (.goto 8), 24), (24, .inr (.iload 2), 25), (25, .inr (.ifCond .le 49), 28), (28, .inr (.aload 0), 29), (29, .inl (.int 48), 31), (31, .inr (.iload 1), 32), (32, .inr (.iload 2), 33), (33, .inr .idiv, 34), (34, .inl (.int 10), 36), (36, .inr .irem, 37), (37, .inr .iadd, 38), (38, .inr (.invokevirtual 310), 41), (41, .inr (.iload 2), 42), (42, .inl (.int 10), 44), (44, .inr .idiv, 45), (45, .inr (.istore 2), 46), (46, .inr (.goto 24), 49), (49, .inr .return_, 50)]
/-- MaskBenchModel.saysBits(I)V -/
def c_312 : List (Nat × pm_I × Nat) := [(0, .inr (.aload 0), 1), (1, .inl (.int 32), 3), (3, .inr (.invokevirtual 310), 6), (6, .inr (.aload 0), 7), (7, .inl (.int 35), 9), (9, .inr (.invokevirtual 310), 12), (12, .inr (.aload 0), 13), (13, .inr (.getfield 708), 16), (16, .inl (.int 7), 18), (18, .inr (.iload 1), 19), (19, .inr .imul, 20), (20, .inl (.int 3), 21), (21, .inr .iadd, 22), (22, .inr .iaload, 23), (23, .inl (.int 1), 24), (24, .inr .isub, 25), (25, .inr (.istore 2), 26), (26, .inr (.iload 2), 27), (27, .inr (.ifCond .lt 54), 30), (30, .inr (.aload 0), 31), (31, .inr (.aload 0), 32), (32, .inr (.getfield 714), 35), (35, .inr (.iload 1), 36), (36, .inr .laload, 37), (37, .inr (.iload 2), 38), (38, .inr .lshr, 39), (39, .inl (.long 1), 40), (40, .inr .land, 41), (41, .inr .l2i, 42), (42, .inl (.int 48), 44), (44, .inr .iadd, 45), (45, .inr (.invokevirtual 310), 48), (48, .inr (.iinc 2 (-1)), 51), (51, .inr (.goto 26), 54), (54, .inr .return_, 55)]
/-- MaskBenchModel.saysThings(I)V -/
def c_313 : List (Nat × pm_I × Nat) := [(0, .inl (.int 0), 1), (1, .inr (.istore 2), 2), (2, .inr (.iload 2), 3), (3, .inr (.aload 0), 4), (4, .inr (.getfield 720), 7), (7, .inr (.iload 1), 8), (8, .inr (.invokestatic 219), 11), (11, .inr .iaload, 12), (12, .inr (.if_icmp .ge 99), 15), (15, .inr (.aload 0), 16), (16, .inr (.aload 0), 17), (17, .inr (.getfield 759), 20), (20, .inr (.iload 1), 21), (21, .inr (.ifCond .ne 29), 24), (24, .inl (.int 7), 26), (26, .inr (.goto 41), 29), (29, .inr (.iload 1), 30), (30, .inl (.int 1), 31), (31, .inr (.if_icmp .ne 39), 34), (34, .inl (.int 8), 36), (36, .inr (.goto 41), 39), (39, .inl (.int 9), 41), (41, .inr .laload, 42), (42, .inl (.int 0), 43), (43, .inr (.invokevirtual 309), 46), (46, .inl (.int 0), 47), (47, .inr (.istore 3), 48), (48, .inr (.iload 3), 49), (49, .inr (.iload 1), 50), (50, .inl (.int 1), 51), (51, .inr (.if_icmp .ne 58), 54), (54, .inl (.int 2), 55), (55, .inr (.goto 59), 58), (58, .inl (.int 3), 59), (59, .inr (.if_icmp .ge 87), 62), (62, .inr (.aload 0), 63), (63, .inr (.aload 0), 64), (64, .inr (.getfield 720), 67), (67, .inr (.iload 1), 68), (68, .inr (.invokestatic 220), 71), (71, .inl (.int 3), 72), (72, .inr (.iload 2), 73), (73, .inr .imul, 74), (74, .inr .iadd, 75), (75, .inr (.iload 3), 76), (76, .inr .iadd, 77), (77, .inr .iaload, 78), (78, .inr (.invokevirtual 311), 81), (81, .inr (.iinc 3 1), 84), (84, .inr (.goto 48), 87), (87, .inr (.aload 0), 88), (88, .inl (.int 59), 90), (90, .inr (.invokevirtual 310), 93), (93, .inr (.iinc 2 1), 96), (96, .inr (.goto 2), 99), (99, .inr .return_, 100)]
/-- MaskBenchModel.out(I)I -/
def c_314 : List (Nat × pm_I × Nat) := [(0, .inr (.aload 0), 1), (1, .inr (.iload 1), 2), (2, .inr (.ifCond .ge 9), 5), (5, .inl (.int 1), 6), (6, .inr (.goto 22), 9), (9, .inr (.iload 1), 10), (10, .inr (.aload 0), 11), (11, .inr (.getfield 761), 14), (14, .inr (.if_icmp .lt 21), 17), (17, .inl (.int 5), 18), (18, .inr (.goto 22), 21), (21, .inl (.int 0), 22), (22, .inr (.invokevirtual 192), 25), (25, .inr (.ifCond .eq 37), 28), (28, .inr (.aload 0), 29), (29, .inr (.getfield 760), 32), (32, .inr (.iload 1), 33), (33, .inr .iaload, 34), (34, .inr (.goto 38), 37), (37, .inl (.int (-1)), 38), (38, .inr .ireturn, 39)]
def gC_0 : List (List (Nat × pm_I × Nat)) := [c_0, c_1, c_2, c_3, c_4, c_5, c_6, c_7, c_8, c_9, c_10, c_11, c_12, c_13, c_14, c_15, c_16, c_17, c_18, c_19, c_20, c_21, c_22, c_23, c_24, c_25, c_26, c_27, c_28, c_29, c_30, c_31, c_32, c_33, c_34, c_35, c_36, c_37, c_38, c_39, c_40, c_41, c_42, c_43, c_44, c_45, c_46, c_47, c_48, c_49, c_50, c_51, c_52, c_53, c_54, c_55, c_56, c_57, c_58, c_59, c_60, c_61, c_62, c_63]
def gC_1 : List (List (Nat × pm_I × Nat)) := [c_64, c_65, c_66, c_67, c_68, c_69, c_70, c_71, c_72, c_73, c_74, c_75, c_76, c_77, c_78, c_79, c_80, c_81, c_82, c_83, c_84, c_85, c_86, c_87, c_88, c_89, c_90, c_91, c_92, c_93, c_94, c_95, c_96, c_97, c_98, c_99, c_100, c_101, c_102, c_103, c_104, c_105, c_106, c_107, c_108, c_109, c_110, c_111, c_112, c_113, c_114, c_115, c_116, c_117, c_118, c_119, c_120, c_121, c_122, c_123, c_124, c_125, c_126, c_127]
def gC_2 : List (List (Nat × pm_I × Nat)) := [c_128, c_129, c_130, c_131, c_132, c_133, c_134, c_135, c_136, c_137, c_138, c_139, c_140, c_141, c_142, c_143, c_144, c_145, c_146, c_147, c_148, c_149, c_150, c_151, c_152, c_153, c_154, c_155, c_156, c_157, c_158, c_159, c_160, c_161, c_162, c_163, c_164, c_165, c_166, c_167, c_168, c_169, c_170, c_171, c_172, c_173, c_174, c_175, c_176, c_177, c_178, c_179, c_180, c_181, c_182, c_183, c_184, c_185, c_186, c_187, c_188, c_189, c_190, c_191]
def gC_3 : List (List (Nat × pm_I × Nat)) := [c_192, c_193, c_194, c_195, c_196, c_197, c_198, c_199, c_200, c_201, c_202, c_203, c_204, c_205, c_206, c_207, c_208, c_209, c_210, c_211, c_212, c_213, c_214, c_215, c_216, c_217, c_218, c_219, c_220, c_221, c_222, c_223, c_224, c_225, c_226, c_227, c_228, c_229, c_230, c_231, c_232, c_233, c_234, c_235, c_236, c_237, c_238, c_239, c_240, c_241, c_242, c_243, c_244, c_245, c_246, c_247, c_248, c_249, c_250, c_251, c_252, c_253, c_254, c_255]
def gC_4 : List (List (Nat × pm_I × Nat)) := [c_256, c_257, c_258, c_259, c_260, c_261, c_262, c_263, c_264, c_265, c_266, c_267, c_268, c_269, c_270, c_271, c_272, c_273, c_274, c_275, c_276, c_277, c_278, c_279, c_280, c_281, c_282, c_283, c_284, c_285, c_286, c_287, c_288, c_289, c_290, c_291, c_292, c_293, c_294, c_295, c_296, c_297, c_298, c_299, c_300, c_301, c_302, c_303, c_304, c_305, c_306, c_307, c_308, c_309, c_310, c_311, c_312, c_313, c_314]
def gC : List (List (Nat × pm_I × Nat)) := gC_0 ++ (gC_1 ++ (gC_2 ++ (gC_3 ++ (gC_4))))
def g_c (m pc : Nat) : Option (pm_I × Nat) := (gC.getD m []).lookup pc
def g_P (xs : List Int32) : pm_P := (g_c, g_m, g_k, fun a => gS[a]?, fun c k => (gF.getD c []).getD k 0, fun c => (gF.getD c []).length, fun t => gT.getD t [], xs)
end
section
/-! PRINTED: links, and every method's code checked -/
def gFL_1 : List (Nat × Nat) := [(49, 6), (58, 512), (62, 513), (76, 10), (14, 0), (86, 65), (24, 2), (53, 7), (103, 132), (106, 133), (31, 3), (38, 4), (69, 8), (114, 515), (80, 11), (83, 12), (120, 320), (126, 387), (131, 321), (134, 322), (137, 323), (140, 324), (143, 258), (148, 582), (160, 580), (163, 576), (166, 577), (172, 578), (42, 5), (211, 384), (214, 385), (217, 386), (259, 653), (269, 583), (276, 644), (288, 649), (291, 648), (294, 647), (313, 642), (333, 452), (337, 451), (343, 448), (346, 641), (73, 9), (364, 650), (367, 651), (18, 1), (370, 514), (403, 579), (409, 64)]
def gFL_2 : List (Nat × Nat) := [(7, 65), (19, 64)]
def gFL_4 : List (Nat × Nat) := [(12, 128), (44, 196), (47, 192), (26, 131), (58, 195), (94, 514), (102, 513), (197, 193), (18, 129), (158, 580), (22, 130), (200, 576), (203, 64), (184, 581), (235, 515), (265, 194), (238, 320), (250, 321), (253, 322)]
def gFL_5 : List (Nat × Nat) := [(28, 65), (39, 64), (24, 196), (9, 192), (15, 193), (18, 194), (21, 195)]
def gFL_6 : List (Nat × Nat) := [(11, 256), (21, 258), (17, 257)]
def gFL_7 : List (Nat × Nat) := [(14, 320), (20, 321), (23, 322), (26, 323), (30, 324)]
def gFL_8 : List (Nat × Nat) := [(9, 387), (21, 384), (25, 385), (28, 386)]
def gFL_9 : List (Nat × Nat) := [(33, 653), (29, 580), (32, 581), (39, 642), (9, 448), (42, 582), (15, 449), (19, 450), (25, 452)]
def gFL_10 : List (Nat × Nat) := [(11, 512), (20, 513), (29, 514), (33, 515), (55, 320), (65, 321), (68, 322), (71, 579), (42, 324)]
def gFL_11 : List (Nat × Nat) := [(9, 576), (31, 582), (25, 580), (28, 581), (15, 577), (34, 583), (37, 584), (18, 578), (44, 586), (47, 587), (40, 585)]
def gFL_12 : List (Nat × Nat) := [(52, 655), (21, 643), (65, 653), (76, 582), (69, 654), (87, 320), (15, 641), (18, 642), (9, 640), (101, 321), (103, 387), (108, 384), (111, 385), (122, 386), (125, 323), (128, 576), (135, 322), (24, 644), (27, 645), (56, 656), (30, 646), (49, 652), (180, 586), (183, 584), (172, 583), (186, 578), (59, 657), (33, 647), (36, 648), (218, 577), (39, 649), (62, 658), (43, 650), (46, 651)]
def gFL_14 : List (Nat × Nat) := [(139, 704), (142, 718), (47, 720), (258, 723), (62, 726), (56, 724), (59, 725), (16, 708), (65, 727), (22, 710), (28, 712), (53, 722), (75, 733), (72, 732), (69, 731), (188, 728), (191, 729), (194, 730), (78, 734), (247, 736), (250, 737), (244, 738), (349, 740), (84, 739), (87, 741), (90, 742), (369, 745), (363, 743), (366, 744), (394, 747), (93, 746), (50, 721), (412, 754), (433, 750), (436, 751), (452, 719), (19, 709), (25, 711), (31, 713), (7, 706), (13, 707), (34, 714), (38, 715), (41, 716), (44, 717), (403, 753), (406, 752), (400, 756), (415, 758), (423, 755), (428, 757), (130, 759), (97, 748), (101, 749), (527, 761), (133, 760)]
def gFLL : List (List (Nat × Nat)) := [[], gFL_1, gFL_2, [], gFL_4, gFL_5, gFL_6, gFL_7, gFL_8, gFL_9, gFL_10, gFL_11, gFL_12, [], gFL_14]
def gFL (c j : Nat) : Option Nat := (gFLL.getD c []).lookup j
def gFP_1 : List (Nat × Nat) := [(14, 0), (18, 1), (24, 2), (31, 3), (38, 4), (42, 5), (49, 6), (53, 7), (69, 8), (73, 9), (76, 10), (80, 11), (83, 12), (137, 323), (140, 324)]
def gFP_2 : List (Nat × Nat) := [(7, 65), (19, 64)]
def gFP_4 : List (Nat × Nat) := [(12, 128), (18, 129), (22, 130), (26, 131), (29, 132), (32, 133), (178, 579), (235, 515), (256, 323), (259, 324)]
def gFP_5 : List (Nat × Nat) := [(9, 192), (15, 193), (18, 194), (21, 195), (24, 196)]
def gFP_6 : List (Nat × Nat) := [(11, 256), (17, 257), (21, 258)]
def gFP_7 : List (Nat × Nat) := [(14, 320), (20, 321), (23, 322), (26, 323), (30, 324), (33, 387)]
def gFP_8 : List (Nat × Nat) := [(9, 387), (21, 384), (25, 385), (28, 386)]
def gFP_9 : List (Nat × Nat) := [(9, 448), (15, 449), (19, 450), (22, 451), (25, 452)]
def gFP_10 : List (Nat × Nat) := [(11, 512), (20, 513), (29, 514), (33, 515)]
def gFP_11 : List (Nat × Nat) := [(9, 576), (15, 577), (18, 578), (21, 579), (25, 580), (28, 581), (31, 582), (34, 583), (37, 584), (40, 585), (44, 586), (47, 587)]
def gFP_12 : List (Nat × Nat) := [(9, 640), (15, 641), (18, 642), (21, 643), (24, 644), (27, 645), (30, 646), (33, 647), (36, 648), (39, 649), (43, 650), (46, 651), (49, 652), (52, 655), (56, 656), (59, 657), (62, 658), (65, 653), (69, 654)]
def gFP_14 : List (Nat × Nat) := [(7, 706), (13, 707), (16, 708), (19, 709), (22, 710), (25, 711), (28, 712), (31, 713), (34, 714), (38, 715), (41, 716), (44, 717), (47, 720), (50, 721), (53, 722), (56, 724), (59, 725), (62, 726), (65, 727), (69, 731), (72, 732), (75, 733), (78, 734), (81, 735), (84, 739), (87, 741), (90, 742), (93, 746), (97, 748), (101, 749), (130, 759), (133, 760), (136, 705), (139, 704), (258, 723), (188, 728), (191, 729), (194, 730), (244, 738), (247, 736), (250, 737), (349, 740), (363, 743), (366, 744), (369, 745), (394, 747), (400, 756), (403, 753), (433, 750), (452, 719), (142, 718), (406, 752), (412, 754), (415, 758), (423, 755), (428, 757), (436, 751), (527, 761)]
def gFPL : List (List (Nat × Nat)) := [[], gFP_1, gFP_2, [], gFP_4, gFP_5, gFP_6, gFP_7, gFP_8, gFP_9, gFP_10, gFP_11, gFP_12, [], gFP_14]
def gFP (c j : Nat) : Option Nat := (gFPL.getD c []).lookup j
def gML_0 : List (Nat × Nat) := [(9, 1), (12, 188), (13, 13), (17, 189), (18, 14), (22, 276), (23, 17), (27, 278), (28, 81), (31, 306), (32, 82), (35, 190), (36, 83), (40, 193), (41, 89), (45, 207), (46, 90), (49, 214), (50, 92), (53, 216), (54, 94), (57, 209), (58, 97), (61, 211), (62, 98), (66, 217), (67, 101), (70, 221), (71, 108), (74, 224), (75, 111), (78, 226), (79, 113), (82, 227), (83, 114), (86, 228), (87, 115), (90, 230), (91, 116), (94, 231), (95, 118), (98, 232), (99, 120), (102, 233), (103, 140), (106, 251), (107, 146), (110, 257), (111, 151), (114, 259), (115, 155), (118, 265), (119, 159), (122, 262), (123, 164), (126, 264), (127, 165), (130, 266), (131, 167), (134, 267), (135, 169), (139, 268), (140, 173), (143, 271), (144, 174), (147, 272), (148, 178), (151, 274), (152, 179), (155, 275), (156, 181), (159, 307), (160, 187), (163, 314)]
def gML_1 : List (Nat × Nat) := [(11, 2), (23, 4), (30, 6), (37, 9), (48, 10), (66, 12), (89, 15), (92, 18), (96, 19), (100, 22), (109, 77), (110, 78), (111, 79), (117, 80), (419, 9001), (423, 9002), (427, 28), (144, 56), (153, 84), (156, 54), (169, 85), (175, 86), (179, 87), (183, 88), (186, 91), (190, 93), (194, 95), (198, 45), (202, 61), (205, 99), (209, 100), (220, 102), (223, 103), (226, 37), (230, 104), (233, 76), (412, 105), (237, 109), (415, 110), (241, 112), (244, 117), (248, 119), (252, 121), (255, 128), (263, 130), (266, 122), (397, 123), (358, 124), (355, 129), (272, 141), (273, 131), (279, 147), (282, 149), (285, 152), (297, 150), (300, 156), (304, 160), (307, 162), (310, 163), (316, 72), (320, 166), (323, 168), (327, 170), (330, 171), (340, 158), (349, 175), (352, 177), (361, 180), (373, 182), (379, 183), (387, 184), (391, 185), (394, 16), (406, 186)]
def gML_2 : List (Nat × Nat) := [(13, 3), (23, 16), (27, 74), (30, 9001), (35, 9002)]
def gML_4 : List (Nat × Nat) := [(11, 5), (35, 20), (40, 23), (50, 31), (54, 32), (61, 35), (65, 38), (68, 41), (72, 42), (76, 9001), (82, 9002), (86, 43), (90, 59), (98, 73), (106, 75), (166, 33), (169, 34), (172, 36), (175, 39), (134, 40), (130, 44), (138, 47), (142, 52), (146, 53), (150, 55), (154, 57), (163, 58), (190, 45), (187, 46), (193, 48), (208, 54), (181, 56), (211, 60), (214, 63), (217, 64), (221, 67), (225, 68), (229, 62), (232, 71), (262, 74), (268, 16), (244, 76)]
def gML_5 : List (Nat × Nat) := [(33, 24), (42, 25), (46, 29), (50, 26), (54, 27), (57, 30), (60, 28)]
def gML_6 : List (Nat × Nat) := [(24, 7), (25, 106)]
def gML_7 : List (Nat × Nat) := [(11, 8), (36, 107)]
def gML_8 : List (Nat × Nat) := [(15, 3), (31, 37), (39, 24), (35, 100)]
def gML_9 : List (Nat × Nat) := [(51, 172), (55, 69), (59, 70)]
def gML_10 : List (Nat × Nat) := [(19, 7), (26, 2), (37, 11), (38, 21), (41, 22), (59, 37), (49, 24), (45, 56)]
def gML_11 : List (Nat × Nat) := [(63, 49), (67, 50), (73, 48), (77, 61), (80, 62), (83, 65), (50, 66), (56, 69), (60, 70), (87, 72), (115, 85), (104, 86), (108, 87), (112, 88), (98, 24), (101, 3), (118, 96), (95, 93), (91, 133)]
def gML_12 : List (Nat × Nat) := [(73, 125), (81, 50), (93, 126), (97, 127), (114, 93), (118, 72), (131, 65), (142, 131), (145, 134), (148, 135), (152, 136), (156, 139), (138, 132), (159, 137), (175, 138), (162, 142), (166, 144), (169, 145), (189, 143), (192, 3), (195, 148), (199, 150), (208, 153), (211, 133), (215, 154), (221, 69), (224, 70), (227, 157), (231, 158), (234, 152), (237, 161), (244, 176), (247, 149)]
def gML_13 : List (Nat × Nat) := [(13, 51)]
def gML_14 : List (Nat × Nat) := [(145, 191), (255, 192), (263, 194), (164, 195), (177, 198), (149, 196), (153, 197), (185, 204), (234, 205), (181, 206), (174, 199), (167, 200), (171, 203), (160, 201), (156, 202), (268, 208), (271, 210), (279, 212), (282, 213), (285, 215), (293, 218), (296, 220), (290, 219), (304, 222), (299, 223), (308, 225), (311, 229), (316, 234), (320, 235), (323, 236), (326, 237), (205, 239), (221, 245), (329, 246), (241, 250), (212, 238), (198, 240), (202, 241), (215, 242), (218, 244), (208, 243), (228, 247), (231, 249), (225, 248), (332, 252), (335, 253), (339, 254), (342, 256), (237, 255), (346, 258), (352, 260), (355, 261), (358, 263), (372, 269), (378, 270), (390, 273), (397, 277), (442, 279), (439, 281), (524, 282), (409, 280), (479, 283), (518, 284), (521, 305), (449, 287), (476, 300), (445, 286), (498, 301), (512, 285), (455, 288), (458, 289), (515, 290), (482, 291), (485, 292), (488, 297), (491, 298), (495, 299), (502, 302), (506, 303), (509, 304), (461, 293), (465, 294), (469, 295), (472, 296), (543, 308), (546, 313), (533, 309), (537, 311), (530, 310), (540, 312)]
def gMLL : List (List (Nat × Nat)) := [gML_0, gML_1, gML_2, [], gML_4, gML_5, gML_6, gML_7, gML_8, gML_9, gML_10, gML_11, gML_12, gML_13, gML_14]
def gML (c j : Nat) : Option Nat := (gMLL.getD c []).lookup j
def gNW_0 : List (Nat × Nat) := [(7, 0), (10, 11)]
def gNW_1 : List (Nat × Nat) := [(9, 1), (21, 2), (28, 4), (35, 7), (46, 8), (56, 10)]
def gNW_4 : List (Nat × Nat) := [(9, 3)]
def gNW_6 : List (Nat × Nat) := [(9, 5)]
def gNW_7 : List (Nat × Nat) := [(9, 6)]
def gNW_10 : List (Nat × Nat) := [(17, 5), (24, 1), (9, 9)]
def gNWL : List (List (Nat × Nat)) := [gNW_0, gNW_1, [], [], gNW_4, [], gNW_6, gNW_7, [], [], gNW_10, [], [], [], []]
def gNW (c j : Nat) : Option Nat := (gNWL.getD c []).lookup j
def gAW_6 : List (Nat × Nat) := [(9, 5)]
def gAW_10 : List (Nat × Nat) := [(9, 9)]
def gAWL : List (List (Nat × Nat)) := [[], [], [], [], [], [], gAW_6, [], [], [], gAW_10, [], [], [], []]
def gAW (c j : Nat) : Option Nat := (gAWL.getD c []).lookup j
def gCI_1 : List (Nat × Int32) := [(345, 65536)]
def gCIL : List (List (Nat × Int32)) := [[], gCI_1, [], [], [], [], [], [], [], [], [], [], [], [], []]
def gCI (c j : Nat) : Option Int32 := (gCIL.getD c []).lookup j
def gCJ_12 : List (Nat × Int64) := [(240, 48271), (242, 2147483647)]
def gCJ_14 : List (Nat × Int64) := [(104, 8740526), (106, 13550), (108, 46486), (110, 409469), (112, 10348), (114, 50849), (116, 282078293), (118, 281027399), (120, 247664), (122, 10504213), (124, 40187), (126, 15827), (128, 14006), (253, 6), (261, 7), (266, 2), (275, 3), (277, 47), (288, 99), (302, 999), (314, 5), (361, 20), (376, (-1)), (382, 500), (384, 65536), (386, 48271), (388, 2147483647), (419, 27), (421, 96), (426, 48), (431, 40)]
def gCJL : List (List (Nat × Int64)) := [[], [], [], [], [], [], [], [], [], [], [], [], gCJ_12, [], gCJ_14]
def gCJ (c j : Nat) : Option Int64 := (gCJL.getD c []).lookup j
def gCS_1 : List (Nat × Nat) := [(417, 0), (377, 11), (383, 12), (384, 13), (386, 14), (401, 15)]
def gCS_4 : List (Nat × Nat) := [(110, 1), (112, 2), (114, 3), (116, 4), (118, 5), (120, 6), (122, 7), (124, 8), (126, 9), (128, 10)]
def gCSL : List (List (Nat × Nat)) := [[], gCS_1, [], [], gCS_4, [], [], [], [], [], [], [], [], [], []]
def gCS (c j : Nat) : Option Nat := (gCSL.getD c []).lookup j
def gOIo_1 : List (Nat × Bool) := [(3, true)]
def gOIo_2 : List (Nat × Bool) := [(1, true)]
def gOIo_4 : List (Nat × Bool) := [(3, true)]
def gOIo_5 : List (Nat × Bool) := [(3, true)]
def gOIo_6 : List (Nat × Bool) := [(3, true)]
def gOIo_7 : List (Nat × Bool) := [(3, true)]
def gOIo_8 : List (Nat × Bool) := [(3, true)]
def gOIo_9 : List (Nat × Bool) := [(3, true)]
def gOIo_10 : List (Nat × Bool) := [(3, true)]
def gOIo_11 : List (Nat × Bool) := [(3, true)]
def gOIo_12 : List (Nat × Bool) := [(3, true)]
def gOIo_14 : List (Nat × Bool) := [(1, true)]
def gOIoL : List (List (Nat × Bool)) := [[], gOIo_1, gOIo_2, [], gOIo_4, gOIo_5, gOIo_6, gOIo_7, gOIo_8, gOIo_9, gOIo_10, gOIo_11, gOIo_12, [], gOIo_14]
def gOIo (c j : Nat) : Option Bool := (gOIoL.getD c []).lookup j
def gACo_9 : List (Nat × Bool) := [(45, true)]
def gACo_12 : List (Nat × Bool) := [(202, true)]
def gACoL : List (List (Nat × Bool)) := [[], [], [], [], [], [], [], [], [], gACo_9, [], [], gACo_12, [], []]
def gACo (c j : Nat) : Option Bool := (gACoL.getD c []).lookup j
def gOI (c j : Nat) : Bool := (gOIo c j).getD false
def gAC (c j : Nat) : Bool := (gACo c j).getD false
def gKn_0 : List Nat := [0, 3, 3, 1, 3, 3, 3, 3, 3, 3, 3, 3, 3, 2, 2, 2, 2, 2, 2, 2, 2, 2, 2, 2, 1, 2, 2, 1, 1, 2, 1, 2, 2, 2, 2, 1, 2, 2, 2, 2, 2, 2, 1, 2, 2, 1, 2, 2, 2, 2, 1, 1, 2, 2, 2, 2, 2, 2, 2, 2, 2, 1, 2, 2]
def gKn_1 : List Nat := [2, 2, 1, 2, 2, 2, 2, 2, 1, 2, 2, 2, 2, 2, 2, 2, 2, 2, 2, 2, 2, 2, 2, 2, 2, 2, 2, 2, 2, 2, 2, 2, 2, 2, 2, 2, 2, 2, 1, 1, 2, 2, 2, 2, 2, 2, 2, 2, 2, 2, 2, 2, 2, 2, 2, 2, 2, 2, 2, 2, 2, 2, 2, 2]
def gKn_2 : List Nat := [2, 2, 2, 2, 2, 2, 2, 2, 2, 2, 1, 2, 2, 2, 2, 1, 2, 2, 2, 2, 2, 2, 2, 2, 2, 2, 2, 2, 2, 2, 2, 2, 2, 2, 2, 2, 2, 2, 2, 2, 2, 2, 2, 2, 2, 2, 2, 2, 2, 2, 2, 2, 2, 2, 2, 2, 2, 2, 2, 2, 3, 2, 2, 1]
def gKn_3 : List Nat := [2, 2, 2, 2, 2, 2, 2, 2, 2, 2, 1, 2, 2, 2, 2, 2, 2, 2, 2, 2, 1, 1, 2, 2, 2, 2, 2, 1, 1, 2, 2, 2, 2, 2, 2, 2, 2, 2, 2, 2, 2, 2, 2, 2, 2, 2, 2, 2, 2, 2, 2, 2, 2, 2, 2, 2, 2, 1, 2, 2, 2, 2, 2, 2]
def gKn_4 : List Nat := [2, 2, 2, 2, 2, 2, 2, 2, 2, 2, 2, 2, 2, 2, 2, 2, 2, 2, 2, 2, 2, 2, 2, 2, 2, 2, 2, 2, 2, 2, 2, 2, 2, 2, 2, 2, 2, 2, 2, 1, 2, 2, 2, 2, 2, 2, 2, 2, 2, 2, 2, 2, 2, 2, 2, 2, 2, 2, 2]
def gKn : List Nat := gKn_0 ++ (gKn_1 ++ (gKn_2 ++ (gKn_3 ++ (gKn_4))))
def gKnd (k : Nat) : Nat := gKn.getD k 0
def gFin : List (List Bool) := [[true, true, true, true, true, true, false, false, true, true, false, false, false], [true, false], [true, true, false, false, false, false], [true, true, true, true, false], [true, false, false], [true, true, true, false, false], [true, true, true, false], [true, false, false, false, false], [true, true, true, false], [true, true, true, false, false, false, false, false, false, false, false, false], [true, true, true, true, true, true, true, true, true, false, false, false, false, false, false, false, false, false, false], [false, false, true, true, true, true, true, true, true, true, true, true, true, true, false, false, true, true, true, false, true, true, true, true, false, false, false, true, true, true, true, true, false, false, false, true, false, true, true, false, false, false, true, false, false, false, false, false, false, false, false, false, false, false, false, true, true, false]]
def gfin (n : Nat) : Bool := (gFin.getD (n / 64) []).getD (n % 64) false
def gAT : List Nat := [0, 1, 3, 2]
abbrev g_chk (b : ByteArray) (m : Nat) (e : Nat × pm_I × Nat) : Bool := pm_chk (g_P []) (fun _ => b) g_fr g_lo g_o g_i gfin gFL gFP gML gKnd gNW gAW gAT gCI gCJ gCS gOI gAC m e.1 e.2.1 e.2.2
end
section
/-! PRINTED by wip/gen3.py: the tables' facts -/
def gTbl : List Jvm.Cond := lw_tbl.filter goodWord
theorem gTbl_in : ∀ w ∈ gTbl, w ∈ lw_tbl := fun w h => (List.mem_filter.mp h).1
theorem gTbl_good : ∀ w ∈ gTbl, (w.onTables && w.keeps) = true ∨ ∃ ty, w = .arrayClass ty := fun w h => good_of_word (List.mem_filter.mp h).2
theorem tb_w {w : Jvm.Cond} (i : Nat) (h : tables_1[i]? = some w) (hg : goodWord w = true) : w ∈ gTbl := List.mem_filter.mpr ⟨List.mem_append_right _ (List.mem_of_getElem? h), hg⟩
theorem tb_s {q : MethodName × Nat} (i : Nat) (h : lw_privs[i]? = some q) (hg : goodWord (.selects q.1.cls q.1 q.1) = true) : Jvm.Cond.selects q.1.cls q.1 q.1 ∈ gTbl := List.mem_filter.mpr ⟨List.mem_append_left _ (List.mem_map.mpr ⟨q, List.mem_of_getElem? h, rfl⟩), hg⟩
def gNstI : List Nat := [30, 38, 39, 40, 42, 43, 52, 58, 63, 65, 67, 69, 71, 88, 90, 106, 111, 113, 119, 125, 126, 128, 129, 131, 132, 134, 135, 136, 147, 148, 149, 150, 152, 153, 154, 155, 157, 158, 159, 160, 162, 163, 164, 166, 167, 168, 183, 193, 198, 202, 204, 218, 223, 225, 227, 229, 234, 235, 236, 238, 239, 241, 242, 244, 245, 246, 248, 249, 250, 252, 253, 255, 256, 257, 259, 260, 262, 265, 293, 295, 296, 298, 299, 301, 302, 314, 320, 322, 323, 326, 330, 332, 334, 336, 338, 341, 342, 435, 451, 455, 459, 463, 467, 478, 485, 511, 564, 568, 576, 580, 612, 623, 645, 653, 657, 669, 674, 681, 685, 696, 700, 712, 713, 717, 724, 728, 733, 738, 739, 743, 747, 768, 769, 795, 796, 801, 802, 803, 804, 812, 820, 839, 843, 857, 862, 866, 870, 875, 884, 893, 913, 921, 937, 942, 951, 952, 961, 966, 970, 978, 1013, 1037, 1038, 1046, 1050, 1058, 1069, 1074, 1075, 1076, 1081, 1089, 1097, 1106, 1110, 1123, 1131, 1140, 1144, 1152, 1153, 1158, 1164, 1174, 1187, 1195, 1204, 1211, 1215, 1220]
def gNst : List Jvm.Cond := gNstI.filterMap (fun i => tables_1[i]?)
theorem nb_w {w : Jvm.Cond} (i : Nat) (hi : i ∈ gNstI) (h : tables_1[i]? = some w) : w ∈ gNst := List.mem_filterMap.mpr ⟨i, hi, h⟩
end
section
set_option maxRecDepth 20000 in
theorem cls_0 (xs : List Int32) : pm_Cls (g_P xs) gTbl gCl 0 RC0 TC0 13 yC0 := by
  refine ⟨rfl, rfl, ?_, by decide +kernel, by decide +kernel, (show ∀ k, k < 13 → ((gF.getD 0 []).getD k 0 = pm_tk (yC0 k) ∧ pm_tk (yC0 k) < 4) by decide +kernel)⟩
  intro w hw
  obtain ⟨j, hj, rfl⟩ := List.mem_map.mp hw
  have hj := List.mem_range.mp hj
  exact (show ∀ a, a < 13 → u_lay RC0 TC0 a ∈ gTbl from (lt_s (lt_s (lt_s (lt_s (lt_s (lt_s (lt_s (lt_s (lt_s (lt_s (lt_s (lt_s (lt_s lt_0 (tb_w 400 rfl rfl)) (tb_w 402 rfl rfl)) (tb_w 404 rfl rfl)) (tb_w 406 rfl rfl)) (tb_w 408 rfl rfl)) (tb_w 410 rfl rfl)) (tb_w 412 rfl rfl)) (tb_w 414 rfl rfl)) (tb_w 416 rfl rfl)) (tb_w 418 rfl rfl)) (tb_w 420 rfl rfl)) (tb_w 422 rfl rfl)) (tb_w 424 rfl rfl))) j hj
set_option maxRecDepth 20000 in
theorem cls_1 (xs : List Int32) : pm_Cls (g_P xs) gTbl gCl 1 RC1 TC1 2 yC1 := by
  refine ⟨rfl, rfl, ?_, by decide +kernel, by decide +kernel, (show ∀ k, k < 2 → ((gF.getD 1 []).getD k 0 = pm_tk (yC1 k) ∧ pm_tk (yC1 k) < 4) by decide +kernel)⟩
  intro w hw
  obtain ⟨j, hj, rfl⟩ := List.mem_map.mp hw
  have hj := List.mem_range.mp hj
  exact (show ∀ a, a < 2 → u_lay RC1 TC1 a ∈ gTbl from (lt_s (lt_s lt_0 (tb_w 44 rfl rfl)) (tb_w 46 rfl rfl))) j hj
set_option maxRecDepth 20000 in
theorem cls_2 (xs : List Int32) : pm_Cls (g_P xs) gTbl gCl 2 RC2 TC2 6 yC2 := by
  refine ⟨rfl, rfl, ?_, by decide +kernel, by decide +kernel, (show ∀ k, k < 6 → ((gF.getD 2 []).getD k 0 = pm_tk (yC2 k) ∧ pm_tk (yC2 k) < 4) by decide +kernel)⟩
  intro w hw
  obtain ⟨j, hj, rfl⟩ := List.mem_map.mp hw
  have hj := List.mem_range.mp hj
  exact (show ∀ a, a < 6 → u_lay RC2 TC2 a ∈ gTbl from (lt_s (lt_s (lt_s (lt_s (lt_s (lt_s lt_0 (tb_w 91 rfl rfl)) (tb_w 93 rfl rfl)) (tb_w 95 rfl rfl)) (tb_w 97 rfl rfl)) (tb_w 99 rfl rfl)) (tb_w 101 rfl rfl))) j hj
set_option maxRecDepth 20000 in
theorem cls_3 (xs : List Int32) : pm_Cls (g_P xs) gTbl gCl 3 RC3 TC3 5 yC3 := by
  refine ⟨rfl, rfl, ?_, by decide +kernel, by decide +kernel, (show ∀ k, k < 5 → ((gF.getD 3 []).getD k 0 = pm_tk (yC3 k) ∧ pm_tk (yC3 k) < 4) by decide +kernel)⟩
  intro w hw
  obtain ⟨j, hj, rfl⟩ := List.mem_map.mp hw
  have hj := List.mem_range.mp hj
  exact (show ∀ a, a < 5 → u_lay RC3 TC3 a ∈ gTbl from (lt_s (lt_s (lt_s (lt_s (lt_s lt_0 (tb_w 72 rfl rfl)) (tb_w 74 rfl rfl)) (tb_w 76 rfl rfl)) (tb_w 78 rfl rfl)) (tb_w 80 rfl rfl))) j hj
set_option maxRecDepth 20000 in
theorem cls_4 (xs : List Int32) : pm_Cls (g_P xs) gTbl gCl 4 RC4 TC4 3 yC4 := by
  refine ⟨rfl, rfl, ?_, by decide +kernel, by decide +kernel, (show ∀ k, k < 3 → ((gF.getD 4 []).getD k 0 = pm_tk (yC4 k) ∧ pm_tk (yC4 k) < 4) by decide +kernel)⟩
  intro w hw
  obtain ⟨j, hj, rfl⟩ := List.mem_map.mp hw
  have hj := List.mem_range.mp hj
  exact (show ∀ a, a < 3 → u_lay RC4 TC4 a ∈ gTbl from (lt_s (lt_s (lt_s lt_0 (tb_w 184 rfl rfl)) (tb_w 186 rfl rfl)) (tb_w 188 rfl rfl))) j hj
set_option maxRecDepth 20000 in
theorem cls_5 (xs : List Int32) : pm_Cls (g_P xs) gTbl gCl 5 RC5 TC5 5 yC5 := by
  refine ⟨rfl, rfl, ?_, by decide +kernel, by decide +kernel, (show ∀ k, k < 5 → ((gF.getD 5 []).getD k 0 = pm_tk (yC5 k) ∧ pm_tk (yC5 k) < 4) by decide +kernel)⟩
  intro w hw
  obtain ⟨j, hj, rfl⟩ := List.mem_map.mp hw
  have hj := List.mem_range.mp hj
  exact (show ∀ a, a < 5 → u_lay RC5 TC5 a ∈ gTbl from (lt_s (lt_s (lt_s (lt_s (lt_s lt_0 (tb_w 169 rfl rfl)) (tb_w 171 rfl rfl)) (tb_w 173 rfl rfl)) (tb_w 175 rfl rfl)) (tb_w 177 rfl rfl))) j hj
set_option maxRecDepth 20000 in
theorem cls_6 (xs : List Int32) : pm_Cls (g_P xs) gTbl gCl 6 RC6 TC6 4 yC6 := by
  refine ⟨rfl, rfl, ?_, by decide +kernel, by decide +kernel, (show ∀ k, k < 4 → ((gF.getD 6 []).getD k 0 = pm_tk (yC6 k) ∧ pm_tk (yC6 k) < 4) by decide +kernel)⟩
  intro w hw
  obtain ⟨j, hj, rfl⟩ := List.mem_map.mp hw
  have hj := List.mem_range.mp hj
  exact (show ∀ a, a < 4 → u_lay RC6 TC6 a ∈ gTbl from (lt_s (lt_s (lt_s (lt_s lt_0 (tb_w 137 rfl rfl)) (tb_w 139 rfl rfl)) (tb_w 141 rfl rfl)) (tb_w 143 rfl rfl))) j hj
set_option maxRecDepth 20000 in
theorem cls_7 (xs : List Int32) : pm_Cls (g_P xs) gTbl gCl 7 RC7 TC7 5 yC7 := by
  refine ⟨rfl, rfl, ?_, by decide +kernel, by decide +kernel, (show ∀ k, k < 5 → ((gF.getD 7 []).getD k 0 = pm_tk (yC7 k) ∧ pm_tk (yC7 k) < 4) by decide +kernel)⟩
  intro w hw
  obtain ⟨j, hj, rfl⟩ := List.mem_map.mp hw
  have hj := List.mem_range.mp hj
  exact (show ∀ a, a < 5 → u_lay RC7 TC7 a ∈ gTbl from (lt_s (lt_s (lt_s (lt_s (lt_s lt_0 (tb_w 205 rfl rfl)) (tb_w 207 rfl rfl)) (tb_w 209 rfl rfl)) (tb_w 211 rfl rfl)) (tb_w 213 rfl rfl))) j hj
set_option maxRecDepth 20000 in
theorem cls_8 (xs : List Int32) : pm_Cls (g_P xs) gTbl gCl 8 RC8 TC8 4 yC8 := by
  refine ⟨rfl, rfl, ?_, by decide +kernel, by decide +kernel, (show ∀ k, k < 4 → ((gF.getD 8 []).getD k 0 = pm_tk (yC8 k) ∧ pm_tk (yC8 k) < 4) by decide +kernel)⟩
  intro w hw
  obtain ⟨j, hj, rfl⟩ := List.mem_map.mp hw
  have hj := List.mem_range.mp hj
  exact (show ∀ a, a < 4 → u_lay RC8 TC8 a ∈ gTbl from (lt_s (lt_s (lt_s (lt_s lt_0 (tb_w 303 rfl rfl)) (tb_w 305 rfl rfl)) (tb_w 307 rfl rfl)) (tb_w 309 rfl rfl))) j hj
set_option maxRecDepth 20000 in
theorem cls_9 (xs : List Int32) : pm_Cls (g_P xs) gTbl gCl 9 RC9 TC9 12 yC9 := by
  refine ⟨rfl, rfl, ?_, by decide +kernel, by decide +kernel, (show ∀ k, k < 12 → ((gF.getD 9 []).getD k 0 = pm_tk (yC9 k) ∧ pm_tk (yC9 k) < 4) by decide +kernel)⟩
  intro w hw
  obtain ⟨j, hj, rfl⟩ := List.mem_map.mp hw
  have hj := List.mem_range.mp hj
  exact (show ∀ a, a < 12 → u_lay RC9 TC9 a ∈ gTbl from (lt_s (lt_s (lt_s (lt_s (lt_s (lt_s (lt_s (lt_s (lt_s (lt_s (lt_s (lt_s lt_0 (tb_w 267 rfl rfl)) (tb_w 269 rfl rfl)) (tb_w 271 rfl rfl)) (tb_w 273 rfl rfl)) (tb_w 275 rfl rfl)) (tb_w 277 rfl rfl)) (tb_w 279 rfl rfl)) (tb_w 281 rfl rfl)) (tb_w 283 rfl rfl)) (tb_w 285 rfl rfl)) (tb_w 287 rfl rfl)) (tb_w 289 rfl rfl))) j hj
set_option maxRecDepth 20000 in
theorem cls_10 (xs : List Int32) : pm_Cls (g_P xs) gTbl gCl 10 RC10 TC10 19 yC10 := by
  refine ⟨rfl, rfl, ?_, by decide +kernel, by decide +kernel, (show ∀ k, k < 19 → ((gF.getD 10 []).getD k 0 = pm_tk (yC10 k) ∧ pm_tk (yC10 k) < 4) by decide +kernel)⟩
  intro w hw
  obtain ⟨j, hj, rfl⟩ := List.mem_map.mp hw
  have hj := List.mem_range.mp hj
  exact (show ∀ a, a < 19 → u_lay RC10 TC10 a ∈ gTbl from (lt_s (lt_s (lt_s (lt_s (lt_s (lt_s (lt_s (lt_s (lt_s (lt_s (lt_s (lt_s (lt_s (lt_s (lt_s (lt_s (lt_s (lt_s (lt_s lt_0 (tb_w 348 rfl rfl)) (tb_w 350 rfl rfl)) (tb_w 352 rfl rfl)) (tb_w 354 rfl rfl)) (tb_w 356 rfl rfl)) (tb_w 358 rfl rfl)) (tb_w 360 rfl rfl)) (tb_w 362 rfl rfl)) (tb_w 364 rfl rfl)) (tb_w 366 rfl rfl)) (tb_w 368 rfl rfl)) (tb_w 370 rfl rfl)) (tb_w 372 rfl rfl)) (tb_w 374 rfl rfl)) (tb_w 376 rfl rfl)) (tb_w 378 rfl rfl)) (tb_w 380 rfl rfl)) (tb_w 382 rfl rfl)) (tb_w 384 rfl rfl))) j hj
set_option maxRecDepth 20000 in
theorem cls_11 (xs : List Int32) : pm_Cls (g_P xs) gTbl gCl 11 RC11 TC11 58 yC11 := by
  refine ⟨rfl, rfl, ?_, by decide +kernel, by decide +kernel, (show ∀ k, k < 58 → ((gF.getD 11 []).getD k 0 = pm_tk (yC11 k) ∧ pm_tk (yC11 k) < 4) by decide +kernel)⟩
  intro w hw
  obtain ⟨j, hj, rfl⟩ := List.mem_map.mp hw
  have hj := List.mem_range.mp hj
  exact (show ∀ a, a < 58 → u_lay RC11 TC11 a ∈ gTbl from (lt_s (lt_s (lt_s (lt_s (lt_s (lt_s (lt_s (lt_s (lt_s (lt_s (lt_s (lt_s (lt_s (lt_s (lt_s (lt_s (lt_s (lt_s (lt_s (lt_s (lt_s (lt_s (lt_s (lt_s (lt_s (lt_s (lt_s (lt_s (lt_s (lt_s (lt_s (lt_s (lt_s (lt_s (lt_s (lt_s (lt_s (lt_s (lt_s (lt_s (lt_s (lt_s (lt_s (lt_s (lt_s (lt_s (lt_s (lt_s (lt_s (lt_s (lt_s (lt_s (lt_s (lt_s (lt_s (lt_s (lt_s (lt_s lt_0 (tb_w 1305 rfl rfl)) (tb_w 1307 rfl rfl)) (tb_w 1309 rfl rfl)) (tb_w 1311 rfl rfl)) (tb_w 1313 rfl rfl)) (tb_w 1315 rfl rfl)) (tb_w 1317 rfl rfl)) (tb_w 1319 rfl rfl)) (tb_w 1321 rfl rfl)) (tb_w 1323 rfl rfl)) (tb_w 1325 rfl rfl)) (tb_w 1327 rfl rfl)) (tb_w 1329 rfl rfl)) (tb_w 1331 rfl rfl)) (tb_w 1333 rfl rfl)) (tb_w 1335 rfl rfl)) (tb_w 1337 rfl rfl)) (tb_w 1339 rfl rfl)) (tb_w 1341 rfl rfl)) (tb_w 1343 rfl rfl)) (tb_w 1345 rfl rfl)) (tb_w 1347 rfl rfl)) (tb_w 1349 rfl rfl)) (tb_w 1351 rfl rfl)) (tb_w 1353 rfl rfl)) (tb_w 1355 rfl rfl)) (tb_w 1357 rfl rfl)) (tb_w 1359 rfl rfl)) (tb_w 1361 rfl rfl)) (tb_w 1363 rfl rfl)) (tb_w 1365 rfl rfl)) (tb_w 1367 rfl rfl)) (tb_w 1369 rfl rfl)) (tb_w 1371 rfl rfl)) (tb_w 1373 rfl rfl)) (tb_w 1375 rfl rfl)) (tb_w 1377 rfl rfl)) (tb_w 1379 rfl rfl)) (tb_w 1381 rfl rfl)) (tb_w 1383 rfl rfl)) (tb_w 1385 rfl rfl)) (tb_w 1387 rfl rfl)) (tb_w 1389 rfl rfl)) (tb_w 1391 rfl rfl)) (tb_w 1393 rfl rfl)) (tb_w 1395 rfl rfl)) (tb_w 1397 rfl rfl)) (tb_w 1399 rfl rfl)) (tb_w 1401 rfl rfl)) (tb_w 1403 rfl rfl)) (tb_w 1405 rfl rfl)) (tb_w 1407 rfl rfl)) (tb_w 1409 rfl rfl)) (tb_w 1411 rfl rfl)) (tb_w 1413 rfl rfl)) (tb_w 1415 rfl rfl)) (tb_w 1417 rfl rfl)) (tb_w 1419 rfl rfl))) j hj
end
section
set_option maxRecDepth 20000 in
theorem hfl_1 (xs : List Int32) : ∀ e ∈ gFL_1, pm_fl (g_P xs) gTbl gCl gNst (g_cn 1) e.1 (e.2 / 64) (e.2 % 64) := by
  refine List.forall_mem_cons.mpr ⟨⟨RC0, TC0, 13, yC0, cls_0 xs, by decide, by decide, Or.inl (tb_w 393 rfl rfl)⟩, ?_⟩
  refine List.forall_mem_cons.mpr ⟨⟨RC8, TC8, 4, yC8, cls_8 xs, by decide, by decide, Or.inr ⟨_, (nb_w 293 (List.mem_of_getElem? (i := 78) rfl) rfl)⟩⟩, ?_⟩
  refine List.forall_mem_cons.mpr ⟨⟨RC8, TC8, 4, yC8, cls_8 xs, by decide, by decide, Or.inr ⟨_, (nb_w 295 (List.mem_of_getElem? (i := 79) rfl) rfl)⟩⟩, ?_⟩
  refine List.forall_mem_cons.mpr ⟨⟨RC0, TC0, 13, yC0, cls_0 xs, by decide, by decide, Or.inl (tb_w 397 rfl rfl)⟩, ?_⟩
  refine List.forall_mem_cons.mpr ⟨⟨RC0, TC0, 13, yC0, cls_0 xs, by decide, by decide, Or.inl (tb_w 387 rfl rfl)⟩, ?_⟩
  refine List.forall_mem_cons.mpr ⟨⟨RC1, TC1, 2, yC1, cls_1 xs, by decide, by decide, Or.inr ⟨_, (nb_w 43 (List.mem_of_getElem? (i := 5) rfl) rfl)⟩⟩, ?_⟩
  refine List.forall_mem_cons.mpr ⟨⟨RC0, TC0, 13, yC0, cls_0 xs, by decide, by decide, Or.inl (tb_w 389 rfl rfl)⟩, ?_⟩
  refine List.forall_mem_cons.mpr ⟨⟨RC0, TC0, 13, yC0, cls_0 xs, by decide, by decide, Or.inl (tb_w 394 rfl rfl)⟩, ?_⟩
  refine List.forall_mem_cons.mpr ⟨⟨RC2, TC2, 6, yC2, cls_2 xs, by decide, by decide, Or.inr ⟨_, (nb_w 88 (List.mem_of_getElem? (i := 13) rfl) rfl)⟩⟩, ?_⟩
  refine List.forall_mem_cons.mpr ⟨⟨RC2, TC2, 6, yC2, cls_2 xs, by decide, by decide, Or.inr ⟨_, (nb_w 90 (List.mem_of_getElem? (i := 14) rfl) rfl)⟩⟩, ?_⟩
  refine List.forall_mem_cons.mpr ⟨⟨RC0, TC0, 13, yC0, cls_0 xs, by decide, by decide, Or.inl (tb_w 390 rfl rfl)⟩, ?_⟩
  refine List.forall_mem_cons.mpr ⟨⟨RC0, TC0, 13, yC0, cls_0 xs, by decide, by decide, Or.inl (tb_w 391 rfl rfl)⟩, ?_⟩
  refine List.forall_mem_cons.mpr ⟨⟨RC0, TC0, 13, yC0, cls_0 xs, by decide, by decide, Or.inl (tb_w 395 rfl rfl)⟩, ?_⟩
  refine List.forall_mem_cons.mpr ⟨⟨RC8, TC8, 4, yC8, cls_8 xs, by decide, by decide, Or.inr ⟨_, (nb_w 301 (List.mem_of_getElem? (i := 83) rfl) rfl)⟩⟩, ?_⟩
  refine List.forall_mem_cons.mpr ⟨⟨RC0, TC0, 13, yC0, cls_0 xs, by decide, by decide, Or.inl (tb_w 398 rfl rfl)⟩, ?_⟩
  refine List.forall_mem_cons.mpr ⟨⟨RC0, TC0, 13, yC0, cls_0 xs, by decide, by decide, Or.inl (tb_w 399 rfl rfl)⟩, ?_⟩
  refine List.forall_mem_cons.mpr ⟨⟨RC5, TC5, 5, yC5, cls_5 xs, by decide, by decide, Or.inr ⟨_, (nb_w 148 (List.mem_of_getElem? (i := 29) rfl) rfl)⟩⟩, ?_⟩
  refine List.forall_mem_cons.mpr ⟨⟨RC6, TC6, 4, yC6, cls_6 xs, by decide, by decide, Or.inr ⟨_, (nb_w 136 (List.mem_of_getElem? (i := 27) rfl) rfl)⟩⟩, ?_⟩
  refine List.forall_mem_cons.mpr ⟨⟨RC5, TC5, 5, yC5, cls_5 xs, by decide, by decide, Or.inr ⟨_, (nb_w 153 (List.mem_of_getElem? (i := 33) rfl) rfl)⟩⟩, ?_⟩
  refine List.forall_mem_cons.mpr ⟨⟨RC5, TC5, 5, yC5, cls_5 xs, by decide, by decide, Or.inr ⟨_, (nb_w 158 (List.mem_of_getElem? (i := 37) rfl) rfl)⟩⟩, ?_⟩
  refine List.forall_mem_cons.mpr ⟨⟨RC5, TC5, 5, yC5, cls_5 xs, by decide, by decide, Or.inr ⟨_, (nb_w 163 (List.mem_of_getElem? (i := 41) rfl) rfl)⟩⟩, ?_⟩
  refine List.forall_mem_cons.mpr ⟨⟨RC5, TC5, 5, yC5, cls_5 xs, by decide, by decide, Or.inr ⟨_, (nb_w 167 (List.mem_of_getElem? (i := 44) rfl) rfl)⟩⟩, ?_⟩
  refine List.forall_mem_cons.mpr ⟨⟨RC4, TC4, 3, yC4, cls_4 xs, by decide, by decide, Or.inr ⟨_, (nb_w 183 (List.mem_of_getElem? (i := 46) rfl) rfl)⟩⟩, ?_⟩
  refine List.forall_mem_cons.mpr ⟨⟨RC9, TC9, 12, yC9, cls_9 xs, by decide, by decide, Or.inr ⟨_, (nb_w 257 (List.mem_of_getElem? (i := 73) rfl) rfl)⟩⟩, ?_⟩
  refine List.forall_mem_cons.mpr ⟨⟨RC9, TC9, 12, yC9, cls_9 xs, by decide, by decide, Or.inr ⟨_, (nb_w 250 (List.mem_of_getElem? (i := 68) rfl) rfl)⟩⟩, ?_⟩
  refine List.forall_mem_cons.mpr ⟨⟨RC9, TC9, 12, yC9, cls_9 xs, by decide, by decide, Or.inr ⟨_, (nb_w 235 (List.mem_of_getElem? (i := 57) rfl) rfl)⟩⟩, ?_⟩
  refine List.forall_mem_cons.mpr ⟨⟨RC9, TC9, 12, yC9, cls_9 xs, by decide, by decide, Or.inr ⟨_, (nb_w 238 (List.mem_of_getElem? (i := 59) rfl) rfl)⟩⟩, ?_⟩
  refine List.forall_mem_cons.mpr ⟨⟨RC9, TC9, 12, yC9, cls_9 xs, by decide, by decide, Or.inr ⟨_, (nb_w 241 (List.mem_of_getElem? (i := 61) rfl) rfl)⟩⟩, ?_⟩
  refine List.forall_mem_cons.mpr ⟨⟨RC0, TC0, 13, yC0, cls_0 xs, by decide, by decide, Or.inl (tb_w 392 rfl rfl)⟩, ?_⟩
  refine List.forall_mem_cons.mpr ⟨⟨RC6, TC6, 4, yC6, cls_6 xs, by decide, by decide, Or.inr ⟨_, (nb_w 126 (List.mem_of_getElem? (i := 20) rfl) rfl)⟩⟩, ?_⟩
  refine List.forall_mem_cons.mpr ⟨⟨RC6, TC6, 4, yC6, cls_6 xs, by decide, by decide, Or.inr ⟨_, (nb_w 129 (List.mem_of_getElem? (i := 22) rfl) rfl)⟩⟩, ?_⟩
  refine List.forall_mem_cons.mpr ⟨⟨RC6, TC6, 4, yC6, cls_6 xs, by decide, by decide, Or.inr ⟨_, (nb_w 132 (List.mem_of_getElem? (i := 24) rfl) rfl)⟩⟩, ?_⟩
  refine List.forall_mem_cons.mpr ⟨⟨RC10, TC10, 19, yC10, cls_10 xs, by decide, by decide, Or.inr ⟨_, (nb_w 342 (List.mem_of_getElem? (i := 96) rfl) rfl)⟩⟩, ?_⟩
  refine List.forall_mem_cons.mpr ⟨⟨RC9, TC9, 12, yC9, cls_9 xs, by decide, by decide, Or.inr ⟨_, (nb_w 260 (List.mem_of_getElem? (i := 75) rfl) rfl)⟩⟩, ?_⟩
  refine List.forall_mem_cons.mpr ⟨⟨RC10, TC10, 19, yC10, cls_10 xs, by decide, by decide, Or.inr ⟨_, (nb_w 326 (List.mem_of_getElem? (i := 89) rfl) rfl)⟩⟩, ?_⟩
  refine List.forall_mem_cons.mpr ⟨⟨RC10, TC10, 19, yC10, cls_10 xs, by decide, by decide, Or.inr ⟨_, (nb_w 334 (List.mem_of_getElem? (i := 92) rfl) rfl)⟩⟩, ?_⟩
  refine List.forall_mem_cons.mpr ⟨⟨RC10, TC10, 19, yC10, cls_10 xs, by decide, by decide, Or.inr ⟨_, (nb_w 332 (List.mem_of_getElem? (i := 91) rfl) rfl)⟩⟩, ?_⟩
  refine List.forall_mem_cons.mpr ⟨⟨RC10, TC10, 19, yC10, cls_10 xs, by decide, by decide, Or.inr ⟨_, (nb_w 330 (List.mem_of_getElem? (i := 90) rfl) rfl)⟩⟩, ?_⟩
  refine List.forall_mem_cons.mpr ⟨⟨RC10, TC10, 19, yC10, cls_10 xs, by decide, by decide, Or.inr ⟨_, (nb_w 323 (List.mem_of_getElem? (i := 88) rfl) rfl)⟩⟩, ?_⟩
  refine List.forall_mem_cons.mpr ⟨⟨RC7, TC7, 5, yC7, cls_7 xs, by decide, by decide, Or.inr ⟨_, (nb_w 204 (List.mem_of_getElem? (i := 50) rfl) rfl)⟩⟩, ?_⟩
  refine List.forall_mem_cons.mpr ⟨⟨RC7, TC7, 5, yC7, cls_7 xs, by decide, by decide, Or.inr ⟨_, (nb_w 202 (List.mem_of_getElem? (i := 49) rfl) rfl)⟩⟩, ?_⟩
  refine List.forall_mem_cons.mpr ⟨⟨RC7, TC7, 5, yC7, cls_7 xs, by decide, by decide, Or.inr ⟨_, (nb_w 198 (List.mem_of_getElem? (i := 48) rfl) rfl)⟩⟩, ?_⟩
  refine List.forall_mem_cons.mpr ⟨⟨RC10, TC10, 19, yC10, cls_10 xs, by decide, by decide, Or.inr ⟨_, (nb_w 320 (List.mem_of_getElem? (i := 86) rfl) rfl)⟩⟩, ?_⟩
  refine List.forall_mem_cons.mpr ⟨⟨RC0, TC0, 13, yC0, cls_0 xs, by decide, by decide, Or.inl (tb_w 396 rfl rfl)⟩, ?_⟩
  refine List.forall_mem_cons.mpr ⟨⟨RC10, TC10, 19, yC10, cls_10 xs, by decide, by decide, Or.inr ⟨_, (nb_w 336 (List.mem_of_getElem? (i := 93) rfl) rfl)⟩⟩, ?_⟩
  refine List.forall_mem_cons.mpr ⟨⟨RC10, TC10, 19, yC10, cls_10 xs, by decide, by decide, Or.inr ⟨_, (nb_w 338 (List.mem_of_getElem? (i := 94) rfl) rfl)⟩⟩, ?_⟩
  refine List.forall_mem_cons.mpr ⟨⟨RC0, TC0, 13, yC0, cls_0 xs, by decide, by decide, Or.inl (tb_w 388 rfl rfl)⟩, ?_⟩
  refine List.forall_mem_cons.mpr ⟨⟨RC8, TC8, 4, yC8, cls_8 xs, by decide, by decide, Or.inr ⟨_, (nb_w 299 (List.mem_of_getElem? (i := 82) rfl) rfl)⟩⟩, ?_⟩
  refine List.forall_mem_cons.mpr ⟨⟨RC9, TC9, 12, yC9, cls_9 xs, by decide, by decide, Or.inr ⟨_, (nb_w 246 (List.mem_of_getElem? (i := 65) rfl) rfl)⟩⟩, ?_⟩
  refine List.forall_mem_cons.mpr ⟨⟨RC1, TC1, 2, yC1, cls_1 xs, by decide, by decide, Or.inr ⟨_, (nb_w 40 (List.mem_of_getElem? (i := 3) rfl) rfl)⟩⟩, ?_⟩
  exact fun e he => absurd he List.not_mem_nil
set_option maxRecDepth 20000 in
theorem hfl_2 (xs : List Int32) : ∀ e ∈ gFL_2, pm_fl (g_P xs) gTbl gCl gNst (g_cn 2) e.1 (e.2 / 64) (e.2 % 64) := by
  refine List.forall_mem_cons.mpr ⟨⟨RC1, TC1, 2, yC1, cls_1 xs, by decide, by decide, Or.inl (tb_w 41 rfl rfl)⟩, ?_⟩
  refine List.forall_mem_cons.mpr ⟨⟨RC1, TC1, 2, yC1, cls_1 xs, by decide, by decide, Or.inl (tb_w 37 rfl rfl)⟩, ?_⟩
  exact fun e he => absurd he List.not_mem_nil
set_option maxRecDepth 20000 in
theorem hfl_4 (xs : List Int32) : ∀ e ∈ gFL_4, pm_fl (g_P xs) gTbl gCl gNst (g_cn 4) e.1 (e.2 / 64) (e.2 % 64) := by
  refine List.forall_mem_cons.mpr ⟨⟨RC2, TC2, 6, yC2, cls_2 xs, by decide, by decide, Or.inl (tb_w 83 rfl rfl)⟩, ?_⟩
  refine List.forall_mem_cons.mpr ⟨⟨RC3, TC3, 5, yC3, cls_3 xs, by decide, by decide, Or.inr ⟨_, (nb_w 71 (List.mem_of_getElem? (i := 12) rfl) rfl)⟩⟩, ?_⟩
  refine List.forall_mem_cons.mpr ⟨⟨RC3, TC3, 5, yC3, cls_3 xs, by decide, by decide, Or.inr ⟨_, (nb_w 63 (List.mem_of_getElem? (i := 8) rfl) rfl)⟩⟩, ?_⟩
  refine List.forall_mem_cons.mpr ⟨⟨RC2, TC2, 6, yC2, cls_2 xs, by decide, by decide, Or.inl (tb_w 86 rfl rfl)⟩, ?_⟩
  refine List.forall_mem_cons.mpr ⟨⟨RC3, TC3, 5, yC3, cls_3 xs, by decide, by decide, Or.inr ⟨_, (nb_w 69 (List.mem_of_getElem? (i := 11) rfl) rfl)⟩⟩, ?_⟩
  refine List.forall_mem_cons.mpr ⟨⟨RC8, TC8, 4, yC8, cls_8 xs, by decide, by decide, Or.inr ⟨_, (nb_w 298 (List.mem_of_getElem? (i := 81) rfl) rfl)⟩⟩, ?_⟩
  refine List.forall_mem_cons.mpr ⟨⟨RC8, TC8, 4, yC8, cls_8 xs, by decide, by decide, Or.inr ⟨_, (nb_w 296 (List.mem_of_getElem? (i := 80) rfl) rfl)⟩⟩, ?_⟩
  refine List.forall_mem_cons.mpr ⟨⟨RC3, TC3, 5, yC3, cls_3 xs, by decide, by decide, Or.inr ⟨_, (nb_w 65 (List.mem_of_getElem? (i := 9) rfl) rfl)⟩⟩, ?_⟩
  refine List.forall_mem_cons.mpr ⟨⟨RC2, TC2, 6, yC2, cls_2 xs, by decide, by decide, Or.inl (tb_w 84 rfl rfl)⟩, ?_⟩
  refine List.forall_mem_cons.mpr ⟨⟨RC9, TC9, 12, yC9, cls_9 xs, by decide, by decide, Or.inr ⟨_, (nb_w 249 (List.mem_of_getElem? (i := 67) rfl) rfl)⟩⟩, ?_⟩
  refine List.forall_mem_cons.mpr ⟨⟨RC2, TC2, 6, yC2, cls_2 xs, by decide, by decide, Or.inl (tb_w 85 rfl rfl)⟩, ?_⟩
  refine List.forall_mem_cons.mpr ⟨⟨RC9, TC9, 12, yC9, cls_9 xs, by decide, by decide, Or.inr ⟨_, (nb_w 236 (List.mem_of_getElem? (i := 58) rfl) rfl)⟩⟩, ?_⟩
  refine List.forall_mem_cons.mpr ⟨⟨RC1, TC1, 2, yC1, cls_1 xs, by decide, by decide, Or.inr ⟨_, (nb_w 39 (List.mem_of_getElem? (i := 2) rfl) rfl)⟩⟩, ?_⟩
  refine List.forall_mem_cons.mpr ⟨⟨RC9, TC9, 12, yC9, cls_9 xs, by decide, by decide, Or.inr ⟨_, (nb_w 253 (List.mem_of_getElem? (i := 70) rfl) rfl)⟩⟩, ?_⟩
  refine List.forall_mem_cons.mpr ⟨⟨RC8, TC8, 4, yC8, cls_8 xs, by decide, by decide, Or.inr ⟨_, (nb_w 302 (List.mem_of_getElem? (i := 84) rfl) rfl)⟩⟩, ?_⟩
  refine List.forall_mem_cons.mpr ⟨⟨RC3, TC3, 5, yC3, cls_3 xs, by decide, by decide, Or.inr ⟨_, (nb_w 67 (List.mem_of_getElem? (i := 10) rfl) rfl)⟩⟩, ?_⟩
  refine List.forall_mem_cons.mpr ⟨⟨RC5, TC5, 5, yC5, cls_5 xs, by decide, by decide, Or.inr ⟨_, (nb_w 150 (List.mem_of_getElem? (i := 31) rfl) rfl)⟩⟩, ?_⟩
  refine List.forall_mem_cons.mpr ⟨⟨RC5, TC5, 5, yC5, cls_5 xs, by decide, by decide, Or.inr ⟨_, (nb_w 155 (List.mem_of_getElem? (i := 35) rfl) rfl)⟩⟩, ?_⟩
  refine List.forall_mem_cons.mpr ⟨⟨RC5, TC5, 5, yC5, cls_5 xs, by decide, by decide, Or.inr ⟨_, (nb_w 160 (List.mem_of_getElem? (i := 39) rfl) rfl)⟩⟩, ?_⟩
  exact fun e he => absurd he List.not_mem_nil
set_option maxRecDepth 20000 in
theorem hfl_5 (xs : List Int32) : ∀ e ∈ gFL_5, pm_fl (g_P xs) gTbl gCl gNst (g_cn 5) e.1 (e.2 / 64) (e.2 % 64) := by
  refine List.forall_mem_cons.mpr ⟨⟨RC1, TC1, 2, yC1, cls_1 xs, by decide, by decide, Or.inr ⟨_, (nb_w 42 (List.mem_of_getElem? (i := 4) rfl) rfl)⟩⟩, ?_⟩
  refine List.forall_mem_cons.mpr ⟨⟨RC1, TC1, 2, yC1, cls_1 xs, by decide, by decide, Or.inr ⟨_, (nb_w 38 (List.mem_of_getElem? (i := 1) rfl) rfl)⟩⟩, ?_⟩
  refine List.forall_mem_cons.mpr ⟨⟨RC3, TC3, 5, yC3, cls_3 xs, by decide, by decide, Or.inl (tb_w 70 rfl rfl)⟩, ?_⟩
  refine List.forall_mem_cons.mpr ⟨⟨RC3, TC3, 5, yC3, cls_3 xs, by decide, by decide, Or.inl (tb_w 62 rfl rfl)⟩, ?_⟩
  refine List.forall_mem_cons.mpr ⟨⟨RC3, TC3, 5, yC3, cls_3 xs, by decide, by decide, Or.inl (tb_w 64 rfl rfl)⟩, ?_⟩
  refine List.forall_mem_cons.mpr ⟨⟨RC3, TC3, 5, yC3, cls_3 xs, by decide, by decide, Or.inl (tb_w 66 rfl rfl)⟩, ?_⟩
  refine List.forall_mem_cons.mpr ⟨⟨RC3, TC3, 5, yC3, cls_3 xs, by decide, by decide, Or.inl (tb_w 68 rfl rfl)⟩, ?_⟩
  exact fun e he => absurd he List.not_mem_nil
set_option maxRecDepth 20000 in
theorem hfl_6 (xs : List Int32) : ∀ e ∈ gFL_6, pm_fl (g_P xs) gTbl gCl gNst (g_cn 6) e.1 (e.2 / 64) (e.2 % 64) := by
  refine List.forall_mem_cons.mpr ⟨⟨RC4, TC4, 3, yC4, cls_4 xs, by decide, by decide, Or.inl (tb_w 180 rfl rfl)⟩, ?_⟩
  refine List.forall_mem_cons.mpr ⟨⟨RC4, TC4, 3, yC4, cls_4 xs, by decide, by decide, Or.inl (tb_w 182 rfl rfl)⟩, ?_⟩
  refine List.forall_mem_cons.mpr ⟨⟨RC4, TC4, 3, yC4, cls_4 xs, by decide, by decide, Or.inl (tb_w 181 rfl rfl)⟩, ?_⟩
  exact fun e he => absurd he List.not_mem_nil
set_option maxRecDepth 20000 in
theorem hfl_7 (xs : List Int32) : ∀ e ∈ gFL_7, pm_fl (g_P xs) gTbl gCl gNst (g_cn 7) e.1 (e.2 / 64) (e.2 % 64) := by
  refine List.forall_mem_cons.mpr ⟨⟨RC5, TC5, 5, yC5, cls_5 xs, by decide, by decide, Or.inl (tb_w 146 rfl rfl)⟩, ?_⟩
  refine List.forall_mem_cons.mpr ⟨⟨RC5, TC5, 5, yC5, cls_5 xs, by decide, by decide, Or.inl (tb_w 151 rfl rfl)⟩, ?_⟩
  refine List.forall_mem_cons.mpr ⟨⟨RC5, TC5, 5, yC5, cls_5 xs, by decide, by decide, Or.inl (tb_w 156 rfl rfl)⟩, ?_⟩
  refine List.forall_mem_cons.mpr ⟨⟨RC5, TC5, 5, yC5, cls_5 xs, by decide, by decide, Or.inl (tb_w 161 rfl rfl)⟩, ?_⟩
  refine List.forall_mem_cons.mpr ⟨⟨RC5, TC5, 5, yC5, cls_5 xs, by decide, by decide, Or.inl (tb_w 165 rfl rfl)⟩, ?_⟩
  exact fun e he => absurd he List.not_mem_nil
set_option maxRecDepth 20000 in
theorem hfl_8 (xs : List Int32) : ∀ e ∈ gFL_8, pm_fl (g_P xs) gTbl gCl gNst (g_cn 8) e.1 (e.2 / 64) (e.2 % 64) := by
  refine List.forall_mem_cons.mpr ⟨⟨RC6, TC6, 4, yC6, cls_6 xs, by decide, by decide, Or.inl (tb_w 133 rfl rfl)⟩, ?_⟩
  refine List.forall_mem_cons.mpr ⟨⟨RC6, TC6, 4, yC6, cls_6 xs, by decide, by decide, Or.inl (tb_w 124 rfl rfl)⟩, ?_⟩
  refine List.forall_mem_cons.mpr ⟨⟨RC6, TC6, 4, yC6, cls_6 xs, by decide, by decide, Or.inl (tb_w 127 rfl rfl)⟩, ?_⟩
  refine List.forall_mem_cons.mpr ⟨⟨RC6, TC6, 4, yC6, cls_6 xs, by decide, by decide, Or.inl (tb_w 130 rfl rfl)⟩, ?_⟩
  exact fun e he => absurd he List.not_mem_nil
set_option maxRecDepth 20000 in
theorem hfl_9 (xs : List Int32) : ∀ e ∈ gFL_9, pm_fl (g_P xs) gTbl gCl gNst (g_cn 9) e.1 (e.2 / 64) (e.2 % 64) := by
  refine List.forall_mem_cons.mpr ⟨⟨RC10, TC10, 19, yC10, cls_10 xs, by decide, by decide, Or.inr ⟨_, (nb_w 341 (List.mem_of_getElem? (i := 95) rfl) rfl)⟩⟩, ?_⟩
  refine List.forall_mem_cons.mpr ⟨⟨RC9, TC9, 12, yC9, cls_9 xs, by decide, by decide, Or.inr ⟨_, (nb_w 248 (List.mem_of_getElem? (i := 66) rfl) rfl)⟩⟩, ?_⟩
  refine List.forall_mem_cons.mpr ⟨⟨RC9, TC9, 12, yC9, cls_9 xs, by decide, by decide, Or.inr ⟨_, (nb_w 252 (List.mem_of_getElem? (i := 69) rfl) rfl)⟩⟩, ?_⟩
  refine List.forall_mem_cons.mpr ⟨⟨RC10, TC10, 19, yC10, cls_10 xs, by decide, by decide, Or.inr ⟨_, (nb_w 322 (List.mem_of_getElem? (i := 87) rfl) rfl)⟩⟩, ?_⟩
  refine List.forall_mem_cons.mpr ⟨⟨RC7, TC7, 5, yC7, cls_7 xs, by decide, by decide, Or.inl (tb_w 197 rfl rfl)⟩, ?_⟩
  refine List.forall_mem_cons.mpr ⟨⟨RC9, TC9, 12, yC9, cls_9 xs, by decide, by decide, Or.inr ⟨_, (nb_w 256 (List.mem_of_getElem? (i := 72) rfl) rfl)⟩⟩, ?_⟩
  refine List.forall_mem_cons.mpr ⟨⟨RC7, TC7, 5, yC7, cls_7 xs, by decide, by decide, Or.inl (tb_w 199 rfl rfl)⟩, ?_⟩
  refine List.forall_mem_cons.mpr ⟨⟨RC7, TC7, 5, yC7, cls_7 xs, by decide, by decide, Or.inl (tb_w 200 rfl rfl)⟩, ?_⟩
  refine List.forall_mem_cons.mpr ⟨⟨RC7, TC7, 5, yC7, cls_7 xs, by decide, by decide, Or.inl (tb_w 203 rfl rfl)⟩, ?_⟩
  exact fun e he => absurd he List.not_mem_nil
set_option maxRecDepth 20000 in
theorem hfl_10 (xs : List Int32) : ∀ e ∈ gFL_10, pm_fl (g_P xs) gTbl gCl gNst (g_cn 10) e.1 (e.2 / 64) (e.2 % 64) := by
  refine List.forall_mem_cons.mpr ⟨⟨RC8, TC8, 4, yC8, cls_8 xs, by decide, by decide, Or.inl (tb_w 292 rfl rfl)⟩, ?_⟩
  refine List.forall_mem_cons.mpr ⟨⟨RC8, TC8, 4, yC8, cls_8 xs, by decide, by decide, Or.inl (tb_w 294 rfl rfl)⟩, ?_⟩
  refine List.forall_mem_cons.mpr ⟨⟨RC8, TC8, 4, yC8, cls_8 xs, by decide, by decide, Or.inl (tb_w 297 rfl rfl)⟩, ?_⟩
  refine List.forall_mem_cons.mpr ⟨⟨RC8, TC8, 4, yC8, cls_8 xs, by decide, by decide, Or.inl (tb_w 300 rfl rfl)⟩, ?_⟩
  refine List.forall_mem_cons.mpr ⟨⟨RC5, TC5, 5, yC5, cls_5 xs, by decide, by decide, Or.inr ⟨_, (nb_w 149 (List.mem_of_getElem? (i := 30) rfl) rfl)⟩⟩, ?_⟩
  refine List.forall_mem_cons.mpr ⟨⟨RC5, TC5, 5, yC5, cls_5 xs, by decide, by decide, Or.inr ⟨_, (nb_w 154 (List.mem_of_getElem? (i := 34) rfl) rfl)⟩⟩, ?_⟩
  refine List.forall_mem_cons.mpr ⟨⟨RC5, TC5, 5, yC5, cls_5 xs, by decide, by decide, Or.inr ⟨_, (nb_w 159 (List.mem_of_getElem? (i := 38) rfl) rfl)⟩⟩, ?_⟩
  refine List.forall_mem_cons.mpr ⟨⟨RC9, TC9, 12, yC9, cls_9 xs, by decide, by decide, Or.inr ⟨_, (nb_w 244 (List.mem_of_getElem? (i := 63) rfl) rfl)⟩⟩, ?_⟩
  refine List.forall_mem_cons.mpr ⟨⟨RC5, TC5, 5, yC5, cls_5 xs, by decide, by decide, Or.inr ⟨_, (nb_w 166 (List.mem_of_getElem? (i := 43) rfl) rfl)⟩⟩, ?_⟩
  exact fun e he => absurd he List.not_mem_nil
set_option maxRecDepth 20000 in
theorem hfl_11 (xs : List Int32) : ∀ e ∈ gFL_11, pm_fl (g_P xs) gTbl gCl gNst (g_cn 11) e.1 (e.2 / 64) (e.2 % 64) := by
  refine List.forall_mem_cons.mpr ⟨⟨RC9, TC9, 12, yC9, cls_9 xs, by decide, by decide, Or.inl (tb_w 233 rfl rfl)⟩, ?_⟩
  refine List.forall_mem_cons.mpr ⟨⟨RC9, TC9, 12, yC9, cls_9 xs, by decide, by decide, Or.inl (tb_w 254 rfl rfl)⟩, ?_⟩
  refine List.forall_mem_cons.mpr ⟨⟨RC9, TC9, 12, yC9, cls_9 xs, by decide, by decide, Or.inl (tb_w 247 rfl rfl)⟩, ?_⟩
  refine List.forall_mem_cons.mpr ⟨⟨RC9, TC9, 12, yC9, cls_9 xs, by decide, by decide, Or.inl (tb_w 251 rfl rfl)⟩, ?_⟩
  refine List.forall_mem_cons.mpr ⟨⟨RC9, TC9, 12, yC9, cls_9 xs, by decide, by decide, Or.inl (tb_w 237 rfl rfl)⟩, ?_⟩
  refine List.forall_mem_cons.mpr ⟨⟨RC9, TC9, 12, yC9, cls_9 xs, by decide, by decide, Or.inl (tb_w 258 rfl rfl)⟩, ?_⟩
  refine List.forall_mem_cons.mpr ⟨⟨RC9, TC9, 12, yC9, cls_9 xs, by decide, by decide, Or.inl (tb_w 261 rfl rfl)⟩, ?_⟩
  refine List.forall_mem_cons.mpr ⟨⟨RC9, TC9, 12, yC9, cls_9 xs, by decide, by decide, Or.inl (tb_w 240 rfl rfl)⟩, ?_⟩
  refine List.forall_mem_cons.mpr ⟨⟨RC9, TC9, 12, yC9, cls_9 xs, by decide, by decide, Or.inl (tb_w 264 rfl rfl)⟩, ?_⟩
  refine List.forall_mem_cons.mpr ⟨⟨RC9, TC9, 12, yC9, cls_9 xs, by decide, by decide, Or.inl (tb_w 266 rfl rfl)⟩, ?_⟩
  refine List.forall_mem_cons.mpr ⟨⟨RC9, TC9, 12, yC9, cls_9 xs, by decide, by decide, Or.inl (tb_w 263 rfl rfl)⟩, ?_⟩
  exact fun e he => absurd he List.not_mem_nil
set_option maxRecDepth 20000 in
theorem hfl_12 (xs : List Int32) : ∀ e ∈ gFL_12, pm_fl (g_P xs) gTbl gCl gNst (g_cn 12) e.1 (e.2 / 64) (e.2 % 64) := by
  refine List.forall_mem_cons.mpr ⟨⟨RC10, TC10, 19, yC10, cls_10 xs, by decide, by decide, Or.inl (tb_w 344 rfl rfl)⟩, ?_⟩
  refine List.forall_mem_cons.mpr ⟨⟨RC10, TC10, 19, yC10, cls_10 xs, by decide, by decide, Or.inl (tb_w 324 rfl rfl)⟩, ?_⟩
  refine List.forall_mem_cons.mpr ⟨⟨RC10, TC10, 19, yC10, cls_10 xs, by decide, by decide, Or.inl (tb_w 340 rfl rfl)⟩, ?_⟩
  refine List.forall_mem_cons.mpr ⟨⟨RC9, TC9, 12, yC9, cls_9 xs, by decide, by decide, Or.inr ⟨_, (nb_w 255 (List.mem_of_getElem? (i := 71) rfl) rfl)⟩⟩, ?_⟩
  refine List.forall_mem_cons.mpr ⟨⟨RC10, TC10, 19, yC10, cls_10 xs, by decide, by decide, Or.inl (tb_w 343 rfl rfl)⟩, ?_⟩
  refine List.forall_mem_cons.mpr ⟨⟨RC5, TC5, 5, yC5, cls_5 xs, by decide, by decide, Or.inr ⟨_, (nb_w 147 (List.mem_of_getElem? (i := 28) rfl) rfl)⟩⟩, ?_⟩
  refine List.forall_mem_cons.mpr ⟨⟨RC10, TC10, 19, yC10, cls_10 xs, by decide, by decide, Or.inl (tb_w 319 rfl rfl)⟩, ?_⟩
  refine List.forall_mem_cons.mpr ⟨⟨RC10, TC10, 19, yC10, cls_10 xs, by decide, by decide, Or.inl (tb_w 321 rfl rfl)⟩, ?_⟩
  refine List.forall_mem_cons.mpr ⟨⟨RC10, TC10, 19, yC10, cls_10 xs, by decide, by decide, Or.inl (tb_w 318 rfl rfl)⟩, ?_⟩
  refine List.forall_mem_cons.mpr ⟨⟨RC5, TC5, 5, yC5, cls_5 xs, by decide, by decide, Or.inr ⟨_, (nb_w 152 (List.mem_of_getElem? (i := 32) rfl) rfl)⟩⟩, ?_⟩
  refine List.forall_mem_cons.mpr ⟨⟨RC6, TC6, 4, yC6, cls_6 xs, by decide, by decide, Or.inr ⟨_, (nb_w 135 (List.mem_of_getElem? (i := 26) rfl) rfl)⟩⟩, ?_⟩
  refine List.forall_mem_cons.mpr ⟨⟨RC6, TC6, 4, yC6, cls_6 xs, by decide, by decide, Or.inr ⟨_, (nb_w 125 (List.mem_of_getElem? (i := 19) rfl) rfl)⟩⟩, ?_⟩
  refine List.forall_mem_cons.mpr ⟨⟨RC6, TC6, 4, yC6, cls_6 xs, by decide, by decide, Or.inr ⟨_, (nb_w 128 (List.mem_of_getElem? (i := 21) rfl) rfl)⟩⟩, ?_⟩
  refine List.forall_mem_cons.mpr ⟨⟨RC6, TC6, 4, yC6, cls_6 xs, by decide, by decide, Or.inr ⟨_, (nb_w 131 (List.mem_of_getElem? (i := 23) rfl) rfl)⟩⟩, ?_⟩
  refine List.forall_mem_cons.mpr ⟨⟨RC5, TC5, 5, yC5, cls_5 xs, by decide, by decide, Or.inr ⟨_, (nb_w 162 (List.mem_of_getElem? (i := 40) rfl) rfl)⟩⟩, ?_⟩
  refine List.forall_mem_cons.mpr ⟨⟨RC9, TC9, 12, yC9, cls_9 xs, by decide, by decide, Or.inr ⟨_, (nb_w 234 (List.mem_of_getElem? (i := 56) rfl) rfl)⟩⟩, ?_⟩
  refine List.forall_mem_cons.mpr ⟨⟨RC5, TC5, 5, yC5, cls_5 xs, by decide, by decide, Or.inr ⟨_, (nb_w 157 (List.mem_of_getElem? (i := 36) rfl) rfl)⟩⟩, ?_⟩
  refine List.forall_mem_cons.mpr ⟨⟨RC10, TC10, 19, yC10, cls_10 xs, by decide, by decide, Or.inl (tb_w 325 rfl rfl)⟩, ?_⟩
  refine List.forall_mem_cons.mpr ⟨⟨RC10, TC10, 19, yC10, cls_10 xs, by decide, by decide, Or.inl (tb_w 327 rfl rfl)⟩, ?_⟩
  refine List.forall_mem_cons.mpr ⟨⟨RC10, TC10, 19, yC10, cls_10 xs, by decide, by decide, Or.inl (tb_w 345 rfl rfl)⟩, ?_⟩
  refine List.forall_mem_cons.mpr ⟨⟨RC10, TC10, 19, yC10, cls_10 xs, by decide, by decide, Or.inl (tb_w 328 rfl rfl)⟩, ?_⟩
  refine List.forall_mem_cons.mpr ⟨⟨RC10, TC10, 19, yC10, cls_10 xs, by decide, by decide, Or.inl (tb_w 339 rfl rfl)⟩, ?_⟩
  refine List.forall_mem_cons.mpr ⟨⟨RC9, TC9, 12, yC9, cls_9 xs, by decide, by decide, Or.inr ⟨_, (nb_w 265 (List.mem_of_getElem? (i := 77) rfl) rfl)⟩⟩, ?_⟩
  refine List.forall_mem_cons.mpr ⟨⟨RC9, TC9, 12, yC9, cls_9 xs, by decide, by decide, Or.inr ⟨_, (nb_w 262 (List.mem_of_getElem? (i := 76) rfl) rfl)⟩⟩, ?_⟩
  refine List.forall_mem_cons.mpr ⟨⟨RC9, TC9, 12, yC9, cls_9 xs, by decide, by decide, Or.inr ⟨_, (nb_w 259 (List.mem_of_getElem? (i := 74) rfl) rfl)⟩⟩, ?_⟩
  refine List.forall_mem_cons.mpr ⟨⟨RC9, TC9, 12, yC9, cls_9 xs, by decide, by decide, Or.inr ⟨_, (nb_w 242 (List.mem_of_getElem? (i := 62) rfl) rfl)⟩⟩, ?_⟩
  refine List.forall_mem_cons.mpr ⟨⟨RC10, TC10, 19, yC10, cls_10 xs, by decide, by decide, Or.inl (tb_w 346 rfl rfl)⟩, ?_⟩
  refine List.forall_mem_cons.mpr ⟨⟨RC10, TC10, 19, yC10, cls_10 xs, by decide, by decide, Or.inl (tb_w 329 rfl rfl)⟩, ?_⟩
  refine List.forall_mem_cons.mpr ⟨⟨RC10, TC10, 19, yC10, cls_10 xs, by decide, by decide, Or.inl (tb_w 331 rfl rfl)⟩, ?_⟩
  refine List.forall_mem_cons.mpr ⟨⟨RC9, TC9, 12, yC9, cls_9 xs, by decide, by decide, Or.inr ⟨_, (nb_w 239 (List.mem_of_getElem? (i := 60) rfl) rfl)⟩⟩, ?_⟩
  refine List.forall_mem_cons.mpr ⟨⟨RC10, TC10, 19, yC10, cls_10 xs, by decide, by decide, Or.inl (tb_w 333 rfl rfl)⟩, ?_⟩
  refine List.forall_mem_cons.mpr ⟨⟨RC10, TC10, 19, yC10, cls_10 xs, by decide, by decide, Or.inl (tb_w 347 rfl rfl)⟩, ?_⟩
  refine List.forall_mem_cons.mpr ⟨⟨RC10, TC10, 19, yC10, cls_10 xs, by decide, by decide, Or.inl (tb_w 335 rfl rfl)⟩, ?_⟩
  refine List.forall_mem_cons.mpr ⟨⟨RC10, TC10, 19, yC10, cls_10 xs, by decide, by decide, Or.inl (tb_w 337 rfl rfl)⟩, ?_⟩
  exact fun e he => absurd he List.not_mem_nil
set_option maxRecDepth 20000 in
theorem hfl_14 (xs : List Int32) : ∀ e ∈ gFL_14, pm_fl (g_P xs) gTbl gCl gNst (g_cn 14) e.1 (e.2 / 64) (e.2 % 64) := by
  refine List.forall_mem_cons.mpr ⟨⟨RC11, TC11, 58, yC11, cls_11 xs, by decide, by decide, Or.inl (tb_w 1247 rfl rfl)⟩, ?_⟩
  refine List.forall_mem_cons.mpr ⟨⟨RC11, TC11, 58, yC11, cls_11 xs, by decide, by decide, Or.inl (tb_w 1261 rfl rfl)⟩, ?_⟩
  refine List.forall_mem_cons.mpr ⟨⟨RC11, TC11, 58, yC11, cls_11 xs, by decide, by decide, Or.inl (tb_w 1263 rfl rfl)⟩, ?_⟩
  refine List.forall_mem_cons.mpr ⟨⟨RC11, TC11, 58, yC11, cls_11 xs, by decide, by decide, Or.inl (tb_w 1266 rfl rfl)⟩, ?_⟩
  refine List.forall_mem_cons.mpr ⟨⟨RC11, TC11, 58, yC11, cls_11 xs, by decide, by decide, Or.inl (tb_w 1269 rfl rfl)⟩, ?_⟩
  refine List.forall_mem_cons.mpr ⟨⟨RC11, TC11, 58, yC11, cls_11 xs, by decide, by decide, Or.inl (tb_w 1267 rfl rfl)⟩, ?_⟩
  refine List.forall_mem_cons.mpr ⟨⟨RC11, TC11, 58, yC11, cls_11 xs, by decide, by decide, Or.inl (tb_w 1268 rfl rfl)⟩, ?_⟩
  refine List.forall_mem_cons.mpr ⟨⟨RC11, TC11, 58, yC11, cls_11 xs, by decide, by decide, Or.inl (tb_w 1251 rfl rfl)⟩, ?_⟩
  refine List.forall_mem_cons.mpr ⟨⟨RC11, TC11, 58, yC11, cls_11 xs, by decide, by decide, Or.inl (tb_w 1270 rfl rfl)⟩, ?_⟩
  refine List.forall_mem_cons.mpr ⟨⟨RC11, TC11, 58, yC11, cls_11 xs, by decide, by decide, Or.inl (tb_w 1253 rfl rfl)⟩, ?_⟩
  refine List.forall_mem_cons.mpr ⟨⟨RC11, TC11, 58, yC11, cls_11 xs, by decide, by decide, Or.inl (tb_w 1255 rfl rfl)⟩, ?_⟩
  refine List.forall_mem_cons.mpr ⟨⟨RC11, TC11, 58, yC11, cls_11 xs, by decide, by decide, Or.inl (tb_w 1265 rfl rfl)⟩, ?_⟩
  refine List.forall_mem_cons.mpr ⟨⟨RC11, TC11, 58, yC11, cls_11 xs, by decide, by decide, Or.inl (tb_w 1276 rfl rfl)⟩, ?_⟩
  refine List.forall_mem_cons.mpr ⟨⟨RC11, TC11, 58, yC11, cls_11 xs, by decide, by decide, Or.inl (tb_w 1275 rfl rfl)⟩, ?_⟩
  refine List.forall_mem_cons.mpr ⟨⟨RC11, TC11, 58, yC11, cls_11 xs, by decide, by decide, Or.inl (tb_w 1274 rfl rfl)⟩, ?_⟩
  refine List.forall_mem_cons.mpr ⟨⟨RC11, TC11, 58, yC11, cls_11 xs, by decide, by decide, Or.inl (tb_w 1271 rfl rfl)⟩, ?_⟩
  refine List.forall_mem_cons.mpr ⟨⟨RC11, TC11, 58, yC11, cls_11 xs, by decide, by decide, Or.inl (tb_w 1272 rfl rfl)⟩, ?_⟩
  refine List.forall_mem_cons.mpr ⟨⟨RC11, TC11, 58, yC11, cls_11 xs, by decide, by decide, Or.inl (tb_w 1273 rfl rfl)⟩, ?_⟩
  refine List.forall_mem_cons.mpr ⟨⟨RC11, TC11, 58, yC11, cls_11 xs, by decide, by decide, Or.inl (tb_w 1277 rfl rfl)⟩, ?_⟩
  refine List.forall_mem_cons.mpr ⟨⟨RC11, TC11, 58, yC11, cls_11 xs, by decide, by decide, Or.inl (tb_w 1279 rfl rfl)⟩, ?_⟩
  refine List.forall_mem_cons.mpr ⟨⟨RC11, TC11, 58, yC11, cls_11 xs, by decide, by decide, Or.inl (tb_w 1280 rfl rfl)⟩, ?_⟩
  refine List.forall_mem_cons.mpr ⟨⟨RC11, TC11, 58, yC11, cls_11 xs, by decide, by decide, Or.inl (tb_w 1281 rfl rfl)⟩, ?_⟩
  refine List.forall_mem_cons.mpr ⟨⟨RC11, TC11, 58, yC11, cls_11 xs, by decide, by decide, Or.inl (tb_w 1283 rfl rfl)⟩, ?_⟩
  refine List.forall_mem_cons.mpr ⟨⟨RC11, TC11, 58, yC11, cls_11 xs, by decide, by decide, Or.inl (tb_w 1282 rfl rfl)⟩, ?_⟩
  refine List.forall_mem_cons.mpr ⟨⟨RC11, TC11, 58, yC11, cls_11 xs, by decide, by decide, Or.inl (tb_w 1284 rfl rfl)⟩, ?_⟩
  refine List.forall_mem_cons.mpr ⟨⟨RC11, TC11, 58, yC11, cls_11 xs, by decide, by decide, Or.inl (tb_w 1285 rfl rfl)⟩, ?_⟩
  refine List.forall_mem_cons.mpr ⟨⟨RC11, TC11, 58, yC11, cls_11 xs, by decide, by decide, Or.inl (tb_w 1288 rfl rfl)⟩, ?_⟩
  refine List.forall_mem_cons.mpr ⟨⟨RC11, TC11, 58, yC11, cls_11 xs, by decide, by decide, Or.inl (tb_w 1286 rfl rfl)⟩, ?_⟩
  refine List.forall_mem_cons.mpr ⟨⟨RC11, TC11, 58, yC11, cls_11 xs, by decide, by decide, Or.inl (tb_w 1287 rfl rfl)⟩, ?_⟩
  refine List.forall_mem_cons.mpr ⟨⟨RC11, TC11, 58, yC11, cls_11 xs, by decide, by decide, Or.inl (tb_w 1290 rfl rfl)⟩, ?_⟩
  refine List.forall_mem_cons.mpr ⟨⟨RC11, TC11, 58, yC11, cls_11 xs, by decide, by decide, Or.inl (tb_w 1289 rfl rfl)⟩, ?_⟩
  refine List.forall_mem_cons.mpr ⟨⟨RC11, TC11, 58, yC11, cls_11 xs, by decide, by decide, Or.inl (tb_w 1264 rfl rfl)⟩, ?_⟩
  refine List.forall_mem_cons.mpr ⟨⟨RC11, TC11, 58, yC11, cls_11 xs, by decide, by decide, Or.inl (tb_w 1297 rfl rfl)⟩, ?_⟩
  refine List.forall_mem_cons.mpr ⟨⟨RC11, TC11, 58, yC11, cls_11 xs, by decide, by decide, Or.inl (tb_w 1293 rfl rfl)⟩, ?_⟩
  refine List.forall_mem_cons.mpr ⟨⟨RC11, TC11, 58, yC11, cls_11 xs, by decide, by decide, Or.inl (tb_w 1294 rfl rfl)⟩, ?_⟩
  refine List.forall_mem_cons.mpr ⟨⟨RC11, TC11, 58, yC11, cls_11 xs, by decide, by decide, Or.inl (tb_w 1262 rfl rfl)⟩, ?_⟩
  refine List.forall_mem_cons.mpr ⟨⟨RC11, TC11, 58, yC11, cls_11 xs, by decide, by decide, Or.inl (tb_w 1252 rfl rfl)⟩, ?_⟩
  refine List.forall_mem_cons.mpr ⟨⟨RC11, TC11, 58, yC11, cls_11 xs, by decide, by decide, Or.inl (tb_w 1254 rfl rfl)⟩, ?_⟩
  refine List.forall_mem_cons.mpr ⟨⟨RC11, TC11, 58, yC11, cls_11 xs, by decide, by decide, Or.inl (tb_w 1256 rfl rfl)⟩, ?_⟩
  refine List.forall_mem_cons.mpr ⟨⟨RC11, TC11, 58, yC11, cls_11 xs, by decide, by decide, Or.inl (tb_w 1249 rfl rfl)⟩, ?_⟩
  refine List.forall_mem_cons.mpr ⟨⟨RC11, TC11, 58, yC11, cls_11 xs, by decide, by decide, Or.inl (tb_w 1250 rfl rfl)⟩, ?_⟩
  refine List.forall_mem_cons.mpr ⟨⟨RC11, TC11, 58, yC11, cls_11 xs, by decide, by decide, Or.inl (tb_w 1257 rfl rfl)⟩, ?_⟩
  refine List.forall_mem_cons.mpr ⟨⟨RC11, TC11, 58, yC11, cls_11 xs, by decide, by decide, Or.inl (tb_w 1258 rfl rfl)⟩, ?_⟩
  refine List.forall_mem_cons.mpr ⟨⟨RC11, TC11, 58, yC11, cls_11 xs, by decide, by decide, Or.inl (tb_w 1259 rfl rfl)⟩, ?_⟩
  refine List.forall_mem_cons.mpr ⟨⟨RC11, TC11, 58, yC11, cls_11 xs, by decide, by decide, Or.inl (tb_w 1260 rfl rfl)⟩, ?_⟩
  refine List.forall_mem_cons.mpr ⟨⟨RC11, TC11, 58, yC11, cls_11 xs, by decide, by decide, Or.inl (tb_w 1296 rfl rfl)⟩, ?_⟩
  refine List.forall_mem_cons.mpr ⟨⟨RC11, TC11, 58, yC11, cls_11 xs, by decide, by decide, Or.inl (tb_w 1295 rfl rfl)⟩, ?_⟩
  refine List.forall_mem_cons.mpr ⟨⟨RC11, TC11, 58, yC11, cls_11 xs, by decide, by decide, Or.inl (tb_w 1299 rfl rfl)⟩, ?_⟩
  refine List.forall_mem_cons.mpr ⟨⟨RC11, TC11, 58, yC11, cls_11 xs, by decide, by decide, Or.inl (tb_w 1301 rfl rfl)⟩, ?_⟩
  refine List.forall_mem_cons.mpr ⟨⟨RC11, TC11, 58, yC11, cls_11 xs, by decide, by decide, Or.inl (tb_w 1298 rfl rfl)⟩, ?_⟩
  refine List.forall_mem_cons.mpr ⟨⟨RC11, TC11, 58, yC11, cls_11 xs, by decide, by decide, Or.inl (tb_w 1300 rfl rfl)⟩, ?_⟩
  refine List.forall_mem_cons.mpr ⟨⟨RC11, TC11, 58, yC11, cls_11 xs, by decide, by decide, Or.inl (tb_w 1302 rfl rfl)⟩, ?_⟩
  refine List.forall_mem_cons.mpr ⟨⟨RC11, TC11, 58, yC11, cls_11 xs, by decide, by decide, Or.inl (tb_w 1291 rfl rfl)⟩, ?_⟩
  refine List.forall_mem_cons.mpr ⟨⟨RC11, TC11, 58, yC11, cls_11 xs, by decide, by decide, Or.inl (tb_w 1292 rfl rfl)⟩, ?_⟩
  refine List.forall_mem_cons.mpr ⟨⟨RC11, TC11, 58, yC11, cls_11 xs, by decide, by decide, Or.inl (tb_w 1304 rfl rfl)⟩, ?_⟩
  refine List.forall_mem_cons.mpr ⟨⟨RC11, TC11, 58, yC11, cls_11 xs, by decide, by decide, Or.inl (tb_w 1303 rfl rfl)⟩, ?_⟩
  exact fun e he => absurd he List.not_mem_nil
set_option maxRecDepth 20000 in
theorem hfp_1 (xs : List Int32) : ∀ e ∈ gFP_1, ∀ nm, (gfin e.2 = true → nm = "<init>") → pm_fp (g_P xs) gTbl gCl gNst (g_cn 1) nm e.1 (e.2 / 64) (e.2 % 64) := by
  refine List.forall_mem_cons.mpr ⟨fun nm h => ⟨RC0, TC0, 13, yC0, cls_0 xs, by decide, by decide, Or.inr ⟨rfl, h rfl, rfl, (tb_w 387 rfl rfl)⟩⟩, ?_⟩
  refine List.forall_mem_cons.mpr ⟨fun nm h => ⟨RC0, TC0, 13, yC0, cls_0 xs, by decide, by decide, Or.inr ⟨rfl, h rfl, rfl, (tb_w 388 rfl rfl)⟩⟩, ?_⟩
  refine List.forall_mem_cons.mpr ⟨fun nm h => ⟨RC0, TC0, 13, yC0, cls_0 xs, by decide, by decide, Or.inr ⟨rfl, h rfl, rfl, (tb_w 389 rfl rfl)⟩⟩, ?_⟩
  refine List.forall_mem_cons.mpr ⟨fun nm h => ⟨RC0, TC0, 13, yC0, cls_0 xs, by decide, by decide, Or.inr ⟨rfl, h rfl, rfl, (tb_w 390 rfl rfl)⟩⟩, ?_⟩
  refine List.forall_mem_cons.mpr ⟨fun nm h => ⟨RC0, TC0, 13, yC0, cls_0 xs, by decide, by decide, Or.inr ⟨rfl, h rfl, rfl, (tb_w 391 rfl rfl)⟩⟩, ?_⟩
  refine List.forall_mem_cons.mpr ⟨fun nm h => ⟨RC0, TC0, 13, yC0, cls_0 xs, by decide, by decide, Or.inr ⟨rfl, h rfl, rfl, (tb_w 392 rfl rfl)⟩⟩, ?_⟩
  refine List.forall_mem_cons.mpr ⟨fun nm h => ⟨RC0, TC0, 13, yC0, cls_0 xs, by decide, by decide, Or.inl ⟨rfl, Or.inl (tb_w 393 rfl rfl)⟩⟩, ?_⟩
  refine List.forall_mem_cons.mpr ⟨fun nm h => ⟨RC0, TC0, 13, yC0, cls_0 xs, by decide, by decide, Or.inl ⟨rfl, Or.inl (tb_w 394 rfl rfl)⟩⟩, ?_⟩
  refine List.forall_mem_cons.mpr ⟨fun nm h => ⟨RC0, TC0, 13, yC0, cls_0 xs, by decide, by decide, Or.inr ⟨rfl, h rfl, rfl, (tb_w 395 rfl rfl)⟩⟩, ?_⟩
  refine List.forall_mem_cons.mpr ⟨fun nm h => ⟨RC0, TC0, 13, yC0, cls_0 xs, by decide, by decide, Or.inr ⟨rfl, h rfl, rfl, (tb_w 396 rfl rfl)⟩⟩, ?_⟩
  refine List.forall_mem_cons.mpr ⟨fun nm h => ⟨RC0, TC0, 13, yC0, cls_0 xs, by decide, by decide, Or.inl ⟨rfl, Or.inl (tb_w 397 rfl rfl)⟩⟩, ?_⟩
  refine List.forall_mem_cons.mpr ⟨fun nm h => ⟨RC0, TC0, 13, yC0, cls_0 xs, by decide, by decide, Or.inl ⟨rfl, Or.inl (tb_w 398 rfl rfl)⟩⟩, ?_⟩
  refine List.forall_mem_cons.mpr ⟨fun nm h => ⟨RC0, TC0, 13, yC0, cls_0 xs, by decide, by decide, Or.inl ⟨rfl, Or.inl (tb_w 399 rfl rfl)⟩⟩, ?_⟩
  refine List.forall_mem_cons.mpr ⟨fun nm h => ⟨RC5, TC5, 5, yC5, cls_5 xs, by decide, by decide, Or.inl ⟨rfl, Or.inr ⟨_, (nb_w 163 (List.mem_of_getElem? (i := 41) rfl) rfl)⟩⟩⟩, ?_⟩
  refine List.forall_mem_cons.mpr ⟨fun nm h => ⟨RC5, TC5, 5, yC5, cls_5 xs, by decide, by decide, Or.inl ⟨rfl, Or.inr ⟨_, (nb_w 167 (List.mem_of_getElem? (i := 44) rfl) rfl)⟩⟩⟩, ?_⟩
  exact fun e he => absurd he List.not_mem_nil
set_option maxRecDepth 20000 in
theorem hfp_2 (xs : List Int32) : ∀ e ∈ gFP_2, ∀ nm, (gfin e.2 = true → nm = "<init>") → pm_fp (g_P xs) gTbl gCl gNst (g_cn 2) nm e.1 (e.2 / 64) (e.2 % 64) := by
  refine List.forall_mem_cons.mpr ⟨fun nm h => ⟨RC1, TC1, 2, yC1, cls_1 xs, by decide, by decide, Or.inl ⟨rfl, Or.inl (tb_w 41 rfl rfl)⟩⟩, ?_⟩
  refine List.forall_mem_cons.mpr ⟨fun nm h => ⟨RC1, TC1, 2, yC1, cls_1 xs, by decide, by decide, Or.inr ⟨rfl, h rfl, rfl, (tb_w 37 rfl rfl)⟩⟩, ?_⟩
  exact fun e he => absurd he List.not_mem_nil
set_option maxRecDepth 20000 in
theorem hfp_4 (xs : List Int32) : ∀ e ∈ gFP_4, ∀ nm, (gfin e.2 = true → nm = "<init>") → pm_fp (g_P xs) gTbl gCl gNst (g_cn 4) nm e.1 (e.2 / 64) (e.2 % 64) := by
  refine List.forall_mem_cons.mpr ⟨fun nm h => ⟨RC2, TC2, 6, yC2, cls_2 xs, by decide, by decide, Or.inr ⟨rfl, h rfl, rfl, (tb_w 83 rfl rfl)⟩⟩, ?_⟩
  refine List.forall_mem_cons.mpr ⟨fun nm h => ⟨RC2, TC2, 6, yC2, cls_2 xs, by decide, by decide, Or.inr ⟨rfl, h rfl, rfl, (tb_w 84 rfl rfl)⟩⟩, ?_⟩
  refine List.forall_mem_cons.mpr ⟨fun nm h => ⟨RC2, TC2, 6, yC2, cls_2 xs, by decide, by decide, Or.inl ⟨rfl, Or.inl (tb_w 85 rfl rfl)⟩⟩, ?_⟩
  refine List.forall_mem_cons.mpr ⟨fun nm h => ⟨RC2, TC2, 6, yC2, cls_2 xs, by decide, by decide, Or.inl ⟨rfl, Or.inl (tb_w 86 rfl rfl)⟩⟩, ?_⟩
  refine List.forall_mem_cons.mpr ⟨fun nm h => ⟨RC2, TC2, 6, yC2, cls_2 xs, by decide, by decide, Or.inl ⟨rfl, Or.inl (tb_w 87 rfl rfl)⟩⟩, ?_⟩
  refine List.forall_mem_cons.mpr ⟨fun nm h => ⟨RC2, TC2, 6, yC2, cls_2 xs, by decide, by decide, Or.inl ⟨rfl, Or.inl (tb_w 89 rfl rfl)⟩⟩, ?_⟩
  refine List.forall_mem_cons.mpr ⟨fun nm h => ⟨RC9, TC9, 12, yC9, cls_9 xs, by decide, by decide, Or.inl ⟨rfl, Or.inr ⟨_, (nb_w 245 (List.mem_of_getElem? (i := 64) rfl) rfl)⟩⟩⟩, ?_⟩
  refine List.forall_mem_cons.mpr ⟨fun nm h => ⟨RC8, TC8, 4, yC8, cls_8 xs, by decide, by decide, Or.inl ⟨rfl, Or.inr ⟨_, (nb_w 302 (List.mem_of_getElem? (i := 84) rfl) rfl)⟩⟩⟩, ?_⟩
  refine List.forall_mem_cons.mpr ⟨fun nm h => ⟨RC5, TC5, 5, yC5, cls_5 xs, by decide, by decide, Or.inl ⟨rfl, Or.inr ⟨_, (nb_w 164 (List.mem_of_getElem? (i := 42) rfl) rfl)⟩⟩⟩, ?_⟩
  refine List.forall_mem_cons.mpr ⟨fun nm h => ⟨RC5, TC5, 5, yC5, cls_5 xs, by decide, by decide, Or.inl ⟨rfl, Or.inr ⟨_, (nb_w 168 (List.mem_of_getElem? (i := 45) rfl) rfl)⟩⟩⟩, ?_⟩
  exact fun e he => absurd he List.not_mem_nil
set_option maxRecDepth 20000 in
theorem hfp_5 (xs : List Int32) : ∀ e ∈ gFP_5, ∀ nm, (gfin e.2 = true → nm = "<init>") → pm_fp (g_P xs) gTbl gCl gNst (g_cn 5) nm e.1 (e.2 / 64) (e.2 % 64) := by
  refine List.forall_mem_cons.mpr ⟨fun nm h => ⟨RC3, TC3, 5, yC3, cls_3 xs, by decide, by decide, Or.inr ⟨rfl, h rfl, rfl, (tb_w 62 rfl rfl)⟩⟩, ?_⟩
  refine List.forall_mem_cons.mpr ⟨fun nm h => ⟨RC3, TC3, 5, yC3, cls_3 xs, by decide, by decide, Or.inr ⟨rfl, h rfl, rfl, (tb_w 64 rfl rfl)⟩⟩, ?_⟩
  refine List.forall_mem_cons.mpr ⟨fun nm h => ⟨RC3, TC3, 5, yC3, cls_3 xs, by decide, by decide, Or.inr ⟨rfl, h rfl, rfl, (tb_w 66 rfl rfl)⟩⟩, ?_⟩
  refine List.forall_mem_cons.mpr ⟨fun nm h => ⟨RC3, TC3, 5, yC3, cls_3 xs, by decide, by decide, Or.inr ⟨rfl, h rfl, rfl, (tb_w 68 rfl rfl)⟩⟩, ?_⟩
  refine List.forall_mem_cons.mpr ⟨fun nm h => ⟨RC3, TC3, 5, yC3, cls_3 xs, by decide, by decide, Or.inl ⟨rfl, Or.inl (tb_w 70 rfl rfl)⟩⟩, ?_⟩
  exact fun e he => absurd he List.not_mem_nil
set_option maxRecDepth 20000 in
theorem hfp_6 (xs : List Int32) : ∀ e ∈ gFP_6, ∀ nm, (gfin e.2 = true → nm = "<init>") → pm_fp (g_P xs) gTbl gCl gNst (g_cn 6) nm e.1 (e.2 / 64) (e.2 % 64) := by
  refine List.forall_mem_cons.mpr ⟨fun nm h => ⟨RC4, TC4, 3, yC4, cls_4 xs, by decide, by decide, Or.inr ⟨rfl, h rfl, rfl, (tb_w 180 rfl rfl)⟩⟩, ?_⟩
  refine List.forall_mem_cons.mpr ⟨fun nm h => ⟨RC4, TC4, 3, yC4, cls_4 xs, by decide, by decide, Or.inl ⟨rfl, Or.inl (tb_w 181 rfl rfl)⟩⟩, ?_⟩
  refine List.forall_mem_cons.mpr ⟨fun nm h => ⟨RC4, TC4, 3, yC4, cls_4 xs, by decide, by decide, Or.inl ⟨rfl, Or.inl (tb_w 182 rfl rfl)⟩⟩, ?_⟩
  exact fun e he => absurd he List.not_mem_nil
set_option maxRecDepth 20000 in
theorem hfp_7 (xs : List Int32) : ∀ e ∈ gFP_7, ∀ nm, (gfin e.2 = true → nm = "<init>") → pm_fp (g_P xs) gTbl gCl gNst (g_cn 7) nm e.1 (e.2 / 64) (e.2 % 64) := by
  refine List.forall_mem_cons.mpr ⟨fun nm h => ⟨RC5, TC5, 5, yC5, cls_5 xs, by decide, by decide, Or.inr ⟨rfl, h rfl, rfl, (tb_w 146 rfl rfl)⟩⟩, ?_⟩
  refine List.forall_mem_cons.mpr ⟨fun nm h => ⟨RC5, TC5, 5, yC5, cls_5 xs, by decide, by decide, Or.inr ⟨rfl, h rfl, rfl, (tb_w 151 rfl rfl)⟩⟩, ?_⟩
  refine List.forall_mem_cons.mpr ⟨fun nm h => ⟨RC5, TC5, 5, yC5, cls_5 xs, by decide, by decide, Or.inr ⟨rfl, h rfl, rfl, (tb_w 156 rfl rfl)⟩⟩, ?_⟩
  refine List.forall_mem_cons.mpr ⟨fun nm h => ⟨RC5, TC5, 5, yC5, cls_5 xs, by decide, by decide, Or.inl ⟨rfl, Or.inl (tb_w 161 rfl rfl)⟩⟩, ?_⟩
  refine List.forall_mem_cons.mpr ⟨fun nm h => ⟨RC5, TC5, 5, yC5, cls_5 xs, by decide, by decide, Or.inl ⟨rfl, Or.inl (tb_w 165 rfl rfl)⟩⟩, ?_⟩
  refine List.forall_mem_cons.mpr ⟨fun nm h => ⟨RC6, TC6, 4, yC6, cls_6 xs, by decide, by decide, Or.inl ⟨rfl, Or.inr ⟨_, (nb_w 134 (List.mem_of_getElem? (i := 25) rfl) rfl)⟩⟩⟩, ?_⟩
  exact fun e he => absurd he List.not_mem_nil
set_option maxRecDepth 20000 in
theorem hfp_8 (xs : List Int32) : ∀ e ∈ gFP_8, ∀ nm, (gfin e.2 = true → nm = "<init>") → pm_fp (g_P xs) gTbl gCl gNst (g_cn 8) nm e.1 (e.2 / 64) (e.2 % 64) := by
  refine List.forall_mem_cons.mpr ⟨fun nm h => ⟨RC6, TC6, 4, yC6, cls_6 xs, by decide, by decide, Or.inl ⟨rfl, Or.inl (tb_w 133 rfl rfl)⟩⟩, ?_⟩
  refine List.forall_mem_cons.mpr ⟨fun nm h => ⟨RC6, TC6, 4, yC6, cls_6 xs, by decide, by decide, Or.inr ⟨rfl, h rfl, rfl, (tb_w 124 rfl rfl)⟩⟩, ?_⟩
  refine List.forall_mem_cons.mpr ⟨fun nm h => ⟨RC6, TC6, 4, yC6, cls_6 xs, by decide, by decide, Or.inr ⟨rfl, h rfl, rfl, (tb_w 127 rfl rfl)⟩⟩, ?_⟩
  refine List.forall_mem_cons.mpr ⟨fun nm h => ⟨RC6, TC6, 4, yC6, cls_6 xs, by decide, by decide, Or.inr ⟨rfl, h rfl, rfl, (tb_w 130 rfl rfl)⟩⟩, ?_⟩
  exact fun e he => absurd he List.not_mem_nil
set_option maxRecDepth 20000 in
theorem hfp_9 (xs : List Int32) : ∀ e ∈ gFP_9, ∀ nm, (gfin e.2 = true → nm = "<init>") → pm_fp (g_P xs) gTbl gCl gNst (g_cn 9) nm e.1 (e.2 / 64) (e.2 % 64) := by
  refine List.forall_mem_cons.mpr ⟨fun nm h => ⟨RC7, TC7, 5, yC7, cls_7 xs, by decide, by decide, Or.inr ⟨rfl, h rfl, rfl, (tb_w 197 rfl rfl)⟩⟩, ?_⟩
  refine List.forall_mem_cons.mpr ⟨fun nm h => ⟨RC7, TC7, 5, yC7, cls_7 xs, by decide, by decide, Or.inl ⟨rfl, Or.inl (tb_w 199 rfl rfl)⟩⟩, ?_⟩
  refine List.forall_mem_cons.mpr ⟨fun nm h => ⟨RC7, TC7, 5, yC7, cls_7 xs, by decide, by decide, Or.inl ⟨rfl, Or.inl (tb_w 200 rfl rfl)⟩⟩, ?_⟩
  refine List.forall_mem_cons.mpr ⟨fun nm h => ⟨RC7, TC7, 5, yC7, cls_7 xs, by decide, by decide, Or.inl ⟨rfl, Or.inl (tb_w 201 rfl rfl)⟩⟩, ?_⟩
  refine List.forall_mem_cons.mpr ⟨fun nm h => ⟨RC7, TC7, 5, yC7, cls_7 xs, by decide, by decide, Or.inl ⟨rfl, Or.inl (tb_w 203 rfl rfl)⟩⟩, ?_⟩
  exact fun e he => absurd he List.not_mem_nil
set_option maxRecDepth 20000 in
theorem hfp_10 (xs : List Int32) : ∀ e ∈ gFP_10, ∀ nm, (gfin e.2 = true → nm = "<init>") → pm_fp (g_P xs) gTbl gCl gNst (g_cn 10) nm e.1 (e.2 / 64) (e.2 % 64) := by
  refine List.forall_mem_cons.mpr ⟨fun nm h => ⟨RC8, TC8, 4, yC8, cls_8 xs, by decide, by decide, Or.inr ⟨rfl, h rfl, rfl, (tb_w 292 rfl rfl)⟩⟩, ?_⟩
  refine List.forall_mem_cons.mpr ⟨fun nm h => ⟨RC8, TC8, 4, yC8, cls_8 xs, by decide, by decide, Or.inr ⟨rfl, h rfl, rfl, (tb_w 294 rfl rfl)⟩⟩, ?_⟩
  refine List.forall_mem_cons.mpr ⟨fun nm h => ⟨RC8, TC8, 4, yC8, cls_8 xs, by decide, by decide, Or.inr ⟨rfl, h rfl, rfl, (tb_w 297 rfl rfl)⟩⟩, ?_⟩
  refine List.forall_mem_cons.mpr ⟨fun nm h => ⟨RC8, TC8, 4, yC8, cls_8 xs, by decide, by decide, Or.inl ⟨rfl, Or.inl (tb_w 300 rfl rfl)⟩⟩, ?_⟩
  exact fun e he => absurd he List.not_mem_nil
set_option maxRecDepth 20000 in
theorem hfp_11 (xs : List Int32) : ∀ e ∈ gFP_11, ∀ nm, (gfin e.2 = true → nm = "<init>") → pm_fp (g_P xs) gTbl gCl gNst (g_cn 11) nm e.1 (e.2 / 64) (e.2 % 64) := by
  refine List.forall_mem_cons.mpr ⟨fun nm h => ⟨RC9, TC9, 12, yC9, cls_9 xs, by decide, by decide, Or.inr ⟨rfl, h rfl, rfl, (tb_w 233 rfl rfl)⟩⟩, ?_⟩
  refine List.forall_mem_cons.mpr ⟨fun nm h => ⟨RC9, TC9, 12, yC9, cls_9 xs, by decide, by decide, Or.inr ⟨rfl, h rfl, rfl, (tb_w 237 rfl rfl)⟩⟩, ?_⟩
  refine List.forall_mem_cons.mpr ⟨fun nm h => ⟨RC9, TC9, 12, yC9, cls_9 xs, by decide, by decide, Or.inr ⟨rfl, h rfl, rfl, (tb_w 240 rfl rfl)⟩⟩, ?_⟩
  refine List.forall_mem_cons.mpr ⟨fun nm h => ⟨RC9, TC9, 12, yC9, cls_9 xs, by decide, by decide, Or.inl ⟨rfl, Or.inl (tb_w 243 rfl rfl)⟩⟩, ?_⟩
  refine List.forall_mem_cons.mpr ⟨fun nm h => ⟨RC9, TC9, 12, yC9, cls_9 xs, by decide, by decide, Or.inl ⟨rfl, Or.inl (tb_w 247 rfl rfl)⟩⟩, ?_⟩
  refine List.forall_mem_cons.mpr ⟨fun nm h => ⟨RC9, TC9, 12, yC9, cls_9 xs, by decide, by decide, Or.inl ⟨rfl, Or.inl (tb_w 251 rfl rfl)⟩⟩, ?_⟩
  refine List.forall_mem_cons.mpr ⟨fun nm h => ⟨RC9, TC9, 12, yC9, cls_9 xs, by decide, by decide, Or.inl ⟨rfl, Or.inl (tb_w 254 rfl rfl)⟩⟩, ?_⟩
  refine List.forall_mem_cons.mpr ⟨fun nm h => ⟨RC9, TC9, 12, yC9, cls_9 xs, by decide, by decide, Or.inl ⟨rfl, Or.inl (tb_w 258 rfl rfl)⟩⟩, ?_⟩
  refine List.forall_mem_cons.mpr ⟨fun nm h => ⟨RC9, TC9, 12, yC9, cls_9 xs, by decide, by decide, Or.inl ⟨rfl, Or.inl (tb_w 261 rfl rfl)⟩⟩, ?_⟩
  refine List.forall_mem_cons.mpr ⟨fun nm h => ⟨RC9, TC9, 12, yC9, cls_9 xs, by decide, by decide, Or.inl ⟨rfl, Or.inl (tb_w 263 rfl rfl)⟩⟩, ?_⟩
  refine List.forall_mem_cons.mpr ⟨fun nm h => ⟨RC9, TC9, 12, yC9, cls_9 xs, by decide, by decide, Or.inl ⟨rfl, Or.inl (tb_w 264 rfl rfl)⟩⟩, ?_⟩
  refine List.forall_mem_cons.mpr ⟨fun nm h => ⟨RC9, TC9, 12, yC9, cls_9 xs, by decide, by decide, Or.inl ⟨rfl, Or.inl (tb_w 266 rfl rfl)⟩⟩, ?_⟩
  exact fun e he => absurd he List.not_mem_nil
set_option maxRecDepth 20000 in
theorem hfp_12 (xs : List Int32) : ∀ e ∈ gFP_12, ∀ nm, (gfin e.2 = true → nm = "<init>") → pm_fp (g_P xs) gTbl gCl gNst (g_cn 12) nm e.1 (e.2 / 64) (e.2 % 64) := by
  refine List.forall_mem_cons.mpr ⟨fun nm h => ⟨RC10, TC10, 19, yC10, cls_10 xs, by decide, by decide, Or.inr ⟨rfl, h rfl, rfl, (tb_w 318 rfl rfl)⟩⟩, ?_⟩
  refine List.forall_mem_cons.mpr ⟨fun nm h => ⟨RC10, TC10, 19, yC10, cls_10 xs, by decide, by decide, Or.inr ⟨rfl, h rfl, rfl, (tb_w 319 rfl rfl)⟩⟩, ?_⟩
  refine List.forall_mem_cons.mpr ⟨fun nm h => ⟨RC10, TC10, 19, yC10, cls_10 xs, by decide, by decide, Or.inr ⟨rfl, h rfl, rfl, (tb_w 321 rfl rfl)⟩⟩, ?_⟩
  refine List.forall_mem_cons.mpr ⟨fun nm h => ⟨RC10, TC10, 19, yC10, cls_10 xs, by decide, by decide, Or.inr ⟨rfl, h rfl, rfl, (tb_w 324 rfl rfl)⟩⟩, ?_⟩
  refine List.forall_mem_cons.mpr ⟨fun nm h => ⟨RC10, TC10, 19, yC10, cls_10 xs, by decide, by decide, Or.inr ⟨rfl, h rfl, rfl, (tb_w 325 rfl rfl)⟩⟩, ?_⟩
  refine List.forall_mem_cons.mpr ⟨fun nm h => ⟨RC10, TC10, 19, yC10, cls_10 xs, by decide, by decide, Or.inr ⟨rfl, h rfl, rfl, (tb_w 327 rfl rfl)⟩⟩, ?_⟩
  refine List.forall_mem_cons.mpr ⟨fun nm h => ⟨RC10, TC10, 19, yC10, cls_10 xs, by decide, by decide, Or.inr ⟨rfl, h rfl, rfl, (tb_w 328 rfl rfl)⟩⟩, ?_⟩
  refine List.forall_mem_cons.mpr ⟨fun nm h => ⟨RC10, TC10, 19, yC10, cls_10 xs, by decide, by decide, Or.inr ⟨rfl, h rfl, rfl, (tb_w 329 rfl rfl)⟩⟩, ?_⟩
  refine List.forall_mem_cons.mpr ⟨fun nm h => ⟨RC10, TC10, 19, yC10, cls_10 xs, by decide, by decide, Or.inr ⟨rfl, h rfl, rfl, (tb_w 331 rfl rfl)⟩⟩, ?_⟩
  refine List.forall_mem_cons.mpr ⟨fun nm h => ⟨RC10, TC10, 19, yC10, cls_10 xs, by decide, by decide, Or.inl ⟨rfl, Or.inl (tb_w 333 rfl rfl)⟩⟩, ?_⟩
  refine List.forall_mem_cons.mpr ⟨fun nm h => ⟨RC10, TC10, 19, yC10, cls_10 xs, by decide, by decide, Or.inl ⟨rfl, Or.inl (tb_w 335 rfl rfl)⟩⟩, ?_⟩
  refine List.forall_mem_cons.mpr ⟨fun nm h => ⟨RC10, TC10, 19, yC10, cls_10 xs, by decide, by decide, Or.inl ⟨rfl, Or.inl (tb_w 337 rfl rfl)⟩⟩, ?_⟩
  refine List.forall_mem_cons.mpr ⟨fun nm h => ⟨RC10, TC10, 19, yC10, cls_10 xs, by decide, by decide, Or.inl ⟨rfl, Or.inl (tb_w 339 rfl rfl)⟩⟩, ?_⟩
  refine List.forall_mem_cons.mpr ⟨fun nm h => ⟨RC10, TC10, 19, yC10, cls_10 xs, by decide, by decide, Or.inl ⟨rfl, Or.inl (tb_w 344 rfl rfl)⟩⟩, ?_⟩
  refine List.forall_mem_cons.mpr ⟨fun nm h => ⟨RC10, TC10, 19, yC10, cls_10 xs, by decide, by decide, Or.inl ⟨rfl, Or.inl (tb_w 345 rfl rfl)⟩⟩, ?_⟩
  refine List.forall_mem_cons.mpr ⟨fun nm h => ⟨RC10, TC10, 19, yC10, cls_10 xs, by decide, by decide, Or.inl ⟨rfl, Or.inl (tb_w 346 rfl rfl)⟩⟩, ?_⟩
  refine List.forall_mem_cons.mpr ⟨fun nm h => ⟨RC10, TC10, 19, yC10, cls_10 xs, by decide, by decide, Or.inl ⟨rfl, Or.inl (tb_w 347 rfl rfl)⟩⟩, ?_⟩
  refine List.forall_mem_cons.mpr ⟨fun nm h => ⟨RC10, TC10, 19, yC10, cls_10 xs, by decide, by decide, Or.inl ⟨rfl, Or.inl (tb_w 340 rfl rfl)⟩⟩, ?_⟩
  refine List.forall_mem_cons.mpr ⟨fun nm h => ⟨RC10, TC10, 19, yC10, cls_10 xs, by decide, by decide, Or.inl ⟨rfl, Or.inl (tb_w 343 rfl rfl)⟩⟩, ?_⟩
  exact fun e he => absurd he List.not_mem_nil
set_option maxRecDepth 20000 in
theorem hfp_14 (xs : List Int32) : ∀ e ∈ gFP_14, ∀ nm, (gfin e.2 = true → nm = "<init>") → pm_fp (g_P xs) gTbl gCl gNst (g_cn 14) nm e.1 (e.2 / 64) (e.2 % 64) := by
  refine List.forall_mem_cons.mpr ⟨fun nm h => ⟨RC11, TC11, 58, yC11, cls_11 xs, by decide, by decide, Or.inr ⟨rfl, h rfl, rfl, (tb_w 1249 rfl rfl)⟩⟩, ?_⟩
  refine List.forall_mem_cons.mpr ⟨fun nm h => ⟨RC11, TC11, 58, yC11, cls_11 xs, by decide, by decide, Or.inr ⟨rfl, h rfl, rfl, (tb_w 1250 rfl rfl)⟩⟩, ?_⟩
  refine List.forall_mem_cons.mpr ⟨fun nm h => ⟨RC11, TC11, 58, yC11, cls_11 xs, by decide, by decide, Or.inr ⟨rfl, h rfl, rfl, (tb_w 1251 rfl rfl)⟩⟩, ?_⟩
  refine List.forall_mem_cons.mpr ⟨fun nm h => ⟨RC11, TC11, 58, yC11, cls_11 xs, by decide, by decide, Or.inr ⟨rfl, h rfl, rfl, (tb_w 1252 rfl rfl)⟩⟩, ?_⟩
  refine List.forall_mem_cons.mpr ⟨fun nm h => ⟨RC11, TC11, 58, yC11, cls_11 xs, by decide, by decide, Or.inr ⟨rfl, h rfl, rfl, (tb_w 1253 rfl rfl)⟩⟩, ?_⟩
  refine List.forall_mem_cons.mpr ⟨fun nm h => ⟨RC11, TC11, 58, yC11, cls_11 xs, by decide, by decide, Or.inr ⟨rfl, h rfl, rfl, (tb_w 1254 rfl rfl)⟩⟩, ?_⟩
  refine List.forall_mem_cons.mpr ⟨fun nm h => ⟨RC11, TC11, 58, yC11, cls_11 xs, by decide, by decide, Or.inr ⟨rfl, h rfl, rfl, (tb_w 1255 rfl rfl)⟩⟩, ?_⟩
  refine List.forall_mem_cons.mpr ⟨fun nm h => ⟨RC11, TC11, 58, yC11, cls_11 xs, by decide, by decide, Or.inr ⟨rfl, h rfl, rfl, (tb_w 1256 rfl rfl)⟩⟩, ?_⟩
  refine List.forall_mem_cons.mpr ⟨fun nm h => ⟨RC11, TC11, 58, yC11, cls_11 xs, by decide, by decide, Or.inr ⟨rfl, h rfl, rfl, (tb_w 1257 rfl rfl)⟩⟩, ?_⟩
  refine List.forall_mem_cons.mpr ⟨fun nm h => ⟨RC11, TC11, 58, yC11, cls_11 xs, by decide, by decide, Or.inr ⟨rfl, h rfl, rfl, (tb_w 1258 rfl rfl)⟩⟩, ?_⟩
  refine List.forall_mem_cons.mpr ⟨fun nm h => ⟨RC11, TC11, 58, yC11, cls_11 xs, by decide, by decide, Or.inr ⟨rfl, h rfl, rfl, (tb_w 1259 rfl rfl)⟩⟩, ?_⟩
  refine List.forall_mem_cons.mpr ⟨fun nm h => ⟨RC11, TC11, 58, yC11, cls_11 xs, by decide, by decide, Or.inr ⟨rfl, h rfl, rfl, (tb_w 1260 rfl rfl)⟩⟩, ?_⟩
  refine List.forall_mem_cons.mpr ⟨fun nm h => ⟨RC11, TC11, 58, yC11, cls_11 xs, by decide, by decide, Or.inr ⟨rfl, h rfl, rfl, (tb_w 1263 rfl rfl)⟩⟩, ?_⟩
  refine List.forall_mem_cons.mpr ⟨fun nm h => ⟨RC11, TC11, 58, yC11, cls_11 xs, by decide, by decide, Or.inr ⟨rfl, h rfl, rfl, (tb_w 1264 rfl rfl)⟩⟩, ?_⟩
  refine List.forall_mem_cons.mpr ⟨fun nm h => ⟨RC11, TC11, 58, yC11, cls_11 xs, by decide, by decide, Or.inr ⟨rfl, h rfl, rfl, (tb_w 1265 rfl rfl)⟩⟩, ?_⟩
  refine List.forall_mem_cons.mpr ⟨fun nm h => ⟨RC11, TC11, 58, yC11, cls_11 xs, by decide, by decide, Or.inr ⟨rfl, h rfl, rfl, (tb_w 1267 rfl rfl)⟩⟩, ?_⟩
  refine List.forall_mem_cons.mpr ⟨fun nm h => ⟨RC11, TC11, 58, yC11, cls_11 xs, by decide, by decide, Or.inr ⟨rfl, h rfl, rfl, (tb_w 1268 rfl rfl)⟩⟩, ?_⟩
  refine List.forall_mem_cons.mpr ⟨fun nm h => ⟨RC11, TC11, 58, yC11, cls_11 xs, by decide, by decide, Or.inr ⟨rfl, h rfl, rfl, (tb_w 1269 rfl rfl)⟩⟩, ?_⟩
  refine List.forall_mem_cons.mpr ⟨fun nm h => ⟨RC11, TC11, 58, yC11, cls_11 xs, by decide, by decide, Or.inr ⟨rfl, h rfl, rfl, (tb_w 1270 rfl rfl)⟩⟩, ?_⟩
  refine List.forall_mem_cons.mpr ⟨fun nm h => ⟨RC11, TC11, 58, yC11, cls_11 xs, by decide, by decide, Or.inr ⟨rfl, h rfl, rfl, (tb_w 1274 rfl rfl)⟩⟩, ?_⟩
  refine List.forall_mem_cons.mpr ⟨fun nm h => ⟨RC11, TC11, 58, yC11, cls_11 xs, by decide, by decide, Or.inr ⟨rfl, h rfl, rfl, (tb_w 1275 rfl rfl)⟩⟩, ?_⟩
  refine List.forall_mem_cons.mpr ⟨fun nm h => ⟨RC11, TC11, 58, yC11, cls_11 xs, by decide, by decide, Or.inr ⟨rfl, h rfl, rfl, (tb_w 1276 rfl rfl)⟩⟩, ?_⟩
  refine List.forall_mem_cons.mpr ⟨fun nm h => ⟨RC11, TC11, 58, yC11, cls_11 xs, by decide, by decide, Or.inr ⟨rfl, h rfl, rfl, (tb_w 1277 rfl rfl)⟩⟩, ?_⟩
  refine List.forall_mem_cons.mpr ⟨fun nm h => ⟨RC11, TC11, 58, yC11, cls_11 xs, by decide, by decide, Or.inr ⟨rfl, h rfl, rfl, (tb_w 1278 rfl rfl)⟩⟩, ?_⟩
  refine List.forall_mem_cons.mpr ⟨fun nm h => ⟨RC11, TC11, 58, yC11, cls_11 xs, by decide, by decide, Or.inr ⟨rfl, h rfl, rfl, (tb_w 1282 rfl rfl)⟩⟩, ?_⟩
  refine List.forall_mem_cons.mpr ⟨fun nm h => ⟨RC11, TC11, 58, yC11, cls_11 xs, by decide, by decide, Or.inr ⟨rfl, h rfl, rfl, (tb_w 1284 rfl rfl)⟩⟩, ?_⟩
  refine List.forall_mem_cons.mpr ⟨fun nm h => ⟨RC11, TC11, 58, yC11, cls_11 xs, by decide, by decide, Or.inr ⟨rfl, h rfl, rfl, (tb_w 1285 rfl rfl)⟩⟩, ?_⟩
  refine List.forall_mem_cons.mpr ⟨fun nm h => ⟨RC11, TC11, 58, yC11, cls_11 xs, by decide, by decide, Or.inr ⟨rfl, h rfl, rfl, (tb_w 1289 rfl rfl)⟩⟩, ?_⟩
  refine List.forall_mem_cons.mpr ⟨fun nm h => ⟨RC11, TC11, 58, yC11, cls_11 xs, by decide, by decide, Or.inl ⟨rfl, Or.inl (tb_w 1291 rfl rfl)⟩⟩, ?_⟩
  refine List.forall_mem_cons.mpr ⟨fun nm h => ⟨RC11, TC11, 58, yC11, cls_11 xs, by decide, by decide, Or.inl ⟨rfl, Or.inl (tb_w 1292 rfl rfl)⟩⟩, ?_⟩
  refine List.forall_mem_cons.mpr ⟨fun nm h => ⟨RC11, TC11, 58, yC11, cls_11 xs, by decide, by decide, Or.inr ⟨rfl, h rfl, rfl, (tb_w 1302 rfl rfl)⟩⟩, ?_⟩
  refine List.forall_mem_cons.mpr ⟨fun nm h => ⟨RC11, TC11, 58, yC11, cls_11 xs, by decide, by decide, Or.inr ⟨rfl, h rfl, rfl, (tb_w 1303 rfl rfl)⟩⟩, ?_⟩
  refine List.forall_mem_cons.mpr ⟨fun nm h => ⟨RC11, TC11, 58, yC11, cls_11 xs, by decide, by decide, Or.inl ⟨rfl, Or.inl (tb_w 1248 rfl rfl)⟩⟩, ?_⟩
  refine List.forall_mem_cons.mpr ⟨fun nm h => ⟨RC11, TC11, 58, yC11, cls_11 xs, by decide, by decide, Or.inl ⟨rfl, Or.inl (tb_w 1247 rfl rfl)⟩⟩, ?_⟩
  refine List.forall_mem_cons.mpr ⟨fun nm h => ⟨RC11, TC11, 58, yC11, cls_11 xs, by decide, by decide, Or.inl ⟨rfl, Or.inl (tb_w 1266 rfl rfl)⟩⟩, ?_⟩
  refine List.forall_mem_cons.mpr ⟨fun nm h => ⟨RC11, TC11, 58, yC11, cls_11 xs, by decide, by decide, Or.inl ⟨rfl, Or.inl (tb_w 1271 rfl rfl)⟩⟩, ?_⟩
  refine List.forall_mem_cons.mpr ⟨fun nm h => ⟨RC11, TC11, 58, yC11, cls_11 xs, by decide, by decide, Or.inl ⟨rfl, Or.inl (tb_w 1272 rfl rfl)⟩⟩, ?_⟩
  refine List.forall_mem_cons.mpr ⟨fun nm h => ⟨RC11, TC11, 58, yC11, cls_11 xs, by decide, by decide, Or.inl ⟨rfl, Or.inl (tb_w 1273 rfl rfl)⟩⟩, ?_⟩
  refine List.forall_mem_cons.mpr ⟨fun nm h => ⟨RC11, TC11, 58, yC11, cls_11 xs, by decide, by decide, Or.inl ⟨rfl, Or.inl (tb_w 1281 rfl rfl)⟩⟩, ?_⟩
  refine List.forall_mem_cons.mpr ⟨fun nm h => ⟨RC11, TC11, 58, yC11, cls_11 xs, by decide, by decide, Or.inl ⟨rfl, Or.inl (tb_w 1279 rfl rfl)⟩⟩, ?_⟩
  refine List.forall_mem_cons.mpr ⟨fun nm h => ⟨RC11, TC11, 58, yC11, cls_11 xs, by decide, by decide, Or.inl ⟨rfl, Or.inl (tb_w 1280 rfl rfl)⟩⟩, ?_⟩
  refine List.forall_mem_cons.mpr ⟨fun nm h => ⟨RC11, TC11, 58, yC11, cls_11 xs, by decide, by decide, Or.inl ⟨rfl, Or.inl (tb_w 1283 rfl rfl)⟩⟩, ?_⟩
  refine List.forall_mem_cons.mpr ⟨fun nm h => ⟨RC11, TC11, 58, yC11, cls_11 xs, by decide, by decide, Or.inl ⟨rfl, Or.inl (tb_w 1286 rfl rfl)⟩⟩, ?_⟩
  refine List.forall_mem_cons.mpr ⟨fun nm h => ⟨RC11, TC11, 58, yC11, cls_11 xs, by decide, by decide, Or.inl ⟨rfl, Or.inl (tb_w 1287 rfl rfl)⟩⟩, ?_⟩
  refine List.forall_mem_cons.mpr ⟨fun nm h => ⟨RC11, TC11, 58, yC11, cls_11 xs, by decide, by decide, Or.inl ⟨rfl, Or.inl (tb_w 1288 rfl rfl)⟩⟩, ?_⟩
  refine List.forall_mem_cons.mpr ⟨fun nm h => ⟨RC11, TC11, 58, yC11, cls_11 xs, by decide, by decide, Or.inl ⟨rfl, Or.inl (tb_w 1290 rfl rfl)⟩⟩, ?_⟩
  refine List.forall_mem_cons.mpr ⟨fun nm h => ⟨RC11, TC11, 58, yC11, cls_11 xs, by decide, by decide, Or.inl ⟨rfl, Or.inl (tb_w 1299 rfl rfl)⟩⟩, ?_⟩
  refine List.forall_mem_cons.mpr ⟨fun nm h => ⟨RC11, TC11, 58, yC11, cls_11 xs, by decide, by decide, Or.inl ⟨rfl, Or.inl (tb_w 1296 rfl rfl)⟩⟩, ?_⟩
  refine List.forall_mem_cons.mpr ⟨fun nm h => ⟨RC11, TC11, 58, yC11, cls_11 xs, by decide, by decide, Or.inl ⟨rfl, Or.inl (tb_w 1293 rfl rfl)⟩⟩, ?_⟩
  refine List.forall_mem_cons.mpr ⟨fun nm h => ⟨RC11, TC11, 58, yC11, cls_11 xs, by decide, by decide, Or.inl ⟨rfl, Or.inl (tb_w 1262 rfl rfl)⟩⟩, ?_⟩
  refine List.forall_mem_cons.mpr ⟨fun nm h => ⟨RC11, TC11, 58, yC11, cls_11 xs, by decide, by decide, Or.inl ⟨rfl, Or.inl (tb_w 1261 rfl rfl)⟩⟩, ?_⟩
  refine List.forall_mem_cons.mpr ⟨fun nm h => ⟨RC11, TC11, 58, yC11, cls_11 xs, by decide, by decide, Or.inl ⟨rfl, Or.inl (tb_w 1295 rfl rfl)⟩⟩, ?_⟩
  refine List.forall_mem_cons.mpr ⟨fun nm h => ⟨RC11, TC11, 58, yC11, cls_11 xs, by decide, by decide, Or.inl ⟨rfl, Or.inl (tb_w 1297 rfl rfl)⟩⟩, ?_⟩
  refine List.forall_mem_cons.mpr ⟨fun nm h => ⟨RC11, TC11, 58, yC11, cls_11 xs, by decide, by decide, Or.inl ⟨rfl, Or.inl (tb_w 1301 rfl rfl)⟩⟩, ?_⟩
  refine List.forall_mem_cons.mpr ⟨fun nm h => ⟨RC11, TC11, 58, yC11, cls_11 xs, by decide, by decide, Or.inl ⟨rfl, Or.inl (tb_w 1298 rfl rfl)⟩⟩, ?_⟩
  refine List.forall_mem_cons.mpr ⟨fun nm h => ⟨RC11, TC11, 58, yC11, cls_11 xs, by decide, by decide, Or.inl ⟨rfl, Or.inl (tb_w 1300 rfl rfl)⟩⟩, ?_⟩
  refine List.forall_mem_cons.mpr ⟨fun nm h => ⟨RC11, TC11, 58, yC11, cls_11 xs, by decide, by decide, Or.inl ⟨rfl, Or.inl (tb_w 1294 rfl rfl)⟩⟩, ?_⟩
  refine List.forall_mem_cons.mpr ⟨fun nm h => ⟨RC11, TC11, 58, yC11, cls_11 xs, by decide, by decide, Or.inl ⟨rfl, Or.inl (tb_w 1304 rfl rfl)⟩⟩, ?_⟩
  exact fun e he => absurd he List.not_mem_nil
end
section
set_option maxRecDepth 20000 in
theorem hml_0 : ∀ e ∈ gML_0, pm_lk1 gTbl g_y gNst (g_cn 0) e.1 e.2 ∧ (9000 < e.2 → Jvm.Cond.methodLink (g_cn 0) e.1 (g_y e.2) ∈ gTbl) := by
  refine List.forall_mem_cons.mpr ⟨⟨Or.inl (tb_w 22 rfl rfl), fun h => absurd h (by decide)⟩, ?_⟩
  refine List.forall_mem_cons.mpr ⟨⟨Or.inl (tb_w 1230 rfl rfl), fun h => absurd h (by decide)⟩, ?_⟩
  refine List.forall_mem_cons.mpr ⟨⟨Or.inl (tb_w 427 rfl rfl), fun h => absurd h (by decide)⟩, ?_⟩
  refine List.forall_mem_cons.mpr ⟨⟨Or.inl (tb_w 1424 rfl rfl), fun h => absurd h (by decide)⟩, ?_⟩
  refine List.forall_mem_cons.mpr ⟨⟨Or.inl (tb_w 431 rfl rfl), fun h => absurd h (by decide)⟩, ?_⟩
  refine List.forall_mem_cons.mpr ⟨⟨Or.inl (tb_w 1779 rfl rfl), fun h => absurd h (by decide)⟩, ?_⟩
  refine List.forall_mem_cons.mpr ⟨⟨Or.inl (tb_w 443 rfl rfl), fun h => absurd h (by decide)⟩, ?_⟩
  refine List.forall_mem_cons.mpr ⟨⟨Or.inl (tb_w 1787 rfl rfl), fun h => absurd h (by decide)⟩, ?_⟩
  refine List.forall_mem_cons.mpr ⟨⟨Or.inl (tb_w 756 rfl rfl), fun h => absurd h (by decide)⟩, ?_⟩
  refine List.forall_mem_cons.mpr ⟨⟨Or.inl (tb_w 1902 rfl rfl), fun h => absurd h (by decide)⟩, ?_⟩
  refine List.forall_mem_cons.mpr ⟨⟨Or.inl (tb_w 760 rfl rfl), fun h => absurd h (by decide)⟩, ?_⟩
  refine List.forall_mem_cons.mpr ⟨⟨Or.inl (tb_w 1428 rfl rfl), fun h => absurd h (by decide)⟩, ?_⟩
  refine List.forall_mem_cons.mpr ⟨⟨Or.inl (tb_w 764 rfl rfl), fun h => absurd h (by decide)⟩, ?_⟩
  refine List.forall_mem_cons.mpr ⟨⟨Or.inl (tb_w 1440 rfl rfl), fun h => absurd h (by decide)⟩, ?_⟩
  refine List.forall_mem_cons.mpr ⟨⟨Or.inl (tb_w 791 rfl rfl), fun h => absurd h (by decide)⟩, ?_⟩
  refine List.forall_mem_cons.mpr ⟨⟨Or.inl (tb_w 1496 rfl rfl), fun h => absurd h (by decide)⟩, ?_⟩
  refine List.forall_mem_cons.mpr ⟨⟨Or.inl (tb_w 797 rfl rfl), fun h => absurd h (by decide)⟩, ?_⟩
  refine List.forall_mem_cons.mpr ⟨⟨Or.inl (tb_w 1525 rfl rfl), fun h => absurd h (by decide)⟩, ?_⟩
  refine List.forall_mem_cons.mpr ⟨⟨Or.inl (tb_w 808 rfl rfl), fun h => absurd h (by decide)⟩, ?_⟩
  refine List.forall_mem_cons.mpr ⟨⟨Or.inl (tb_w 1533 rfl rfl), fun h => absurd h (by decide)⟩, ?_⟩
  refine List.forall_mem_cons.mpr ⟨⟨Or.inl (tb_w 816 rfl rfl), fun h => absurd h (by decide)⟩, ?_⟩
  refine List.forall_mem_cons.mpr ⟨⟨Or.inl (tb_w 1505 rfl rfl), fun h => absurd h (by decide)⟩, ?_⟩
  refine List.forall_mem_cons.mpr ⟨⟨Or.inl (tb_w 829 rfl rfl), fun h => absurd h (by decide)⟩, ?_⟩
  refine List.forall_mem_cons.mpr ⟨⟨Or.inl (tb_w 1513 rfl rfl), fun h => absurd h (by decide)⟩, ?_⟩
  refine List.forall_mem_cons.mpr ⟨⟨Or.inl (tb_w 835 rfl rfl), fun h => absurd h (by decide)⟩, ?_⟩
  refine List.forall_mem_cons.mpr ⟨⟨Or.inl (tb_w 1538 rfl rfl), fun h => absurd h (by decide)⟩, ?_⟩
  refine List.forall_mem_cons.mpr ⟨⟨Or.inl (tb_w 847 rfl rfl), fun h => absurd h (by decide)⟩, ?_⟩
  refine List.forall_mem_cons.mpr ⟨⟨Or.inl (tb_w 1552 rfl rfl), fun h => absurd h (by decide)⟩, ?_⟩
  refine List.forall_mem_cons.mpr ⟨⟨Or.inl (tb_w 876 rfl rfl), fun h => absurd h (by decide)⟩, ?_⟩
  refine List.forall_mem_cons.mpr ⟨⟨Or.inl (tb_w 1565 rfl rfl), fun h => absurd h (by decide)⟩, ?_⟩
  refine List.forall_mem_cons.mpr ⟨⟨Or.inl (tb_w 889 rfl rfl), fun h => absurd h (by decide)⟩, ?_⟩
  refine List.forall_mem_cons.mpr ⟨⟨Or.inl (tb_w 1573 rfl rfl), fun h => absurd h (by decide)⟩, ?_⟩
  refine List.forall_mem_cons.mpr ⟨⟨Or.inl (tb_w 897 rfl rfl), fun h => absurd h (by decide)⟩, ?_⟩
  refine List.forall_mem_cons.mpr ⟨⟨Or.inl (tb_w 1577 rfl rfl), fun h => absurd h (by decide)⟩, ?_⟩
  refine List.forall_mem_cons.mpr ⟨⟨Or.inl (tb_w 901 rfl rfl), fun h => absurd h (by decide)⟩, ?_⟩
  refine List.forall_mem_cons.mpr ⟨⟨Or.inl (tb_w 1581 rfl rfl), fun h => absurd h (by decide)⟩, ?_⟩
  refine List.forall_mem_cons.mpr ⟨⟨Or.inl (tb_w 905 rfl rfl), fun h => absurd h (by decide)⟩, ?_⟩
  refine List.forall_mem_cons.mpr ⟨⟨Or.inl (tb_w 1589 rfl rfl), fun h => absurd h (by decide)⟩, ?_⟩
  refine List.forall_mem_cons.mpr ⟨⟨Or.inl (tb_w 909 rfl rfl), fun h => absurd h (by decide)⟩, ?_⟩
  refine List.forall_mem_cons.mpr ⟨⟨Or.inl (tb_w 1593 rfl rfl), fun h => absurd h (by decide)⟩, ?_⟩
  refine List.forall_mem_cons.mpr ⟨⟨Or.inl (tb_w 917 rfl rfl), fun h => absurd h (by decide)⟩, ?_⟩
  refine List.forall_mem_cons.mpr ⟨⟨Or.inl (tb_w 1597 rfl rfl), fun h => absurd h (by decide)⟩, ?_⟩
  refine List.forall_mem_cons.mpr ⟨⟨Or.inl (tb_w 925 rfl rfl), fun h => absurd h (by decide)⟩, ?_⟩
  refine List.forall_mem_cons.mpr ⟨⟨Or.inl (tb_w 1601 rfl rfl), fun h => absurd h (by decide)⟩, ?_⟩
  refine List.forall_mem_cons.mpr ⟨⟨Or.inl (tb_w 1009 rfl rfl), fun h => absurd h (by decide)⟩, ?_⟩
  refine List.forall_mem_cons.mpr ⟨⟨Or.inl (tb_w 1673 rfl rfl), fun h => absurd h (by decide)⟩, ?_⟩
  refine List.forall_mem_cons.mpr ⟨⟨Or.inl (tb_w 1033 rfl rfl), fun h => absurd h (by decide)⟩, ?_⟩
  refine List.forall_mem_cons.mpr ⟨⟨Or.inl (tb_w 1697 rfl rfl), fun h => absurd h (by decide)⟩, ?_⟩
  refine List.forall_mem_cons.mpr ⟨⟨Or.inl (tb_w 1054 rfl rfl), fun h => absurd h (by decide)⟩, ?_⟩
  refine List.forall_mem_cons.mpr ⟨⟨Or.inl (tb_w 1705 rfl rfl), fun h => absurd h (by decide)⟩, ?_⟩
  refine List.forall_mem_cons.mpr ⟨⟨Or.inl (tb_w 1077 rfl rfl), fun h => absurd h (by decide)⟩, ?_⟩
  refine List.forall_mem_cons.mpr ⟨⟨Or.inl (tb_w 1729 rfl rfl), fun h => absurd h (by decide)⟩, ?_⟩
  refine List.forall_mem_cons.mpr ⟨⟨Or.inl (tb_w 1093 rfl rfl), fun h => absurd h (by decide)⟩, ?_⟩
  refine List.forall_mem_cons.mpr ⟨⟨Or.inl (tb_w 1717 rfl rfl), fun h => absurd h (by decide)⟩, ?_⟩
  refine List.forall_mem_cons.mpr ⟨⟨Or.inl (tb_w 1114 rfl rfl), fun h => absurd h (by decide)⟩, ?_⟩
  refine List.forall_mem_cons.mpr ⟨⟨Or.inl (tb_w 1725 rfl rfl), fun h => absurd h (by decide)⟩, ?_⟩
  refine List.forall_mem_cons.mpr ⟨⟨Or.inl (tb_w 1119 rfl rfl), fun h => absurd h (by decide)⟩, ?_⟩
  refine List.forall_mem_cons.mpr ⟨⟨Or.inl (tb_w 1734 rfl rfl), fun h => absurd h (by decide)⟩, ?_⟩
  refine List.forall_mem_cons.mpr ⟨⟨Or.inl (tb_w 1127 rfl rfl), fun h => absurd h (by decide)⟩, ?_⟩
  refine List.forall_mem_cons.mpr ⟨⟨Or.inl (tb_w 1738 rfl rfl), fun h => absurd h (by decide)⟩, ?_⟩
  refine List.forall_mem_cons.mpr ⟨⟨Or.inl (tb_w 1136 rfl rfl), fun h => absurd h (by decide)⟩, ?_⟩
  refine List.forall_mem_cons.mpr ⟨⟨Or.inl (tb_w 1742 rfl rfl), fun h => absurd h (by decide)⟩, ?_⟩
  refine List.forall_mem_cons.mpr ⟨⟨Or.inl (tb_w 1154 rfl rfl), fun h => absurd h (by decide)⟩, ?_⟩
  refine List.forall_mem_cons.mpr ⟨⟨Or.inl (tb_w 1755 rfl rfl), fun h => absurd h (by decide)⟩, ?_⟩
  refine List.forall_mem_cons.mpr ⟨⟨Or.inl (tb_w 1159 rfl rfl), fun h => absurd h (by decide)⟩, ?_⟩
  refine List.forall_mem_cons.mpr ⟨⟨Or.inl (tb_w 1759 rfl rfl), fun h => absurd h (by decide)⟩, ?_⟩
  refine List.forall_mem_cons.mpr ⟨⟨Or.inl (tb_w 1179 rfl rfl), fun h => absurd h (by decide)⟩, ?_⟩
  refine List.forall_mem_cons.mpr ⟨⟨Or.inl (tb_w 1771 rfl rfl), fun h => absurd h (by decide)⟩, ?_⟩
  refine List.forall_mem_cons.mpr ⟨⟨Or.inl (tb_w 1183 rfl rfl), fun h => absurd h (by decide)⟩, ?_⟩
  refine List.forall_mem_cons.mpr ⟨⟨Or.inl (tb_w 1775 rfl rfl), fun h => absurd h (by decide)⟩, ?_⟩
  refine List.forall_mem_cons.mpr ⟨⟨Or.inl (tb_w 1191 rfl rfl), fun h => absurd h (by decide)⟩, ?_⟩
  refine List.forall_mem_cons.mpr ⟨⟨Or.inl (tb_w 1906 rfl rfl), fun h => absurd h (by decide)⟩, ?_⟩
  refine List.forall_mem_cons.mpr ⟨⟨Or.inl (tb_w 1224 rfl rfl), fun h => absurd h (by decide)⟩, ?_⟩
  refine List.forall_mem_cons.mpr ⟨⟨Or.inl (tb_w 1934 rfl rfl), fun h => absurd h (by decide)⟩, ?_⟩
  exact fun e he => absurd he List.not_mem_nil
set_option maxRecDepth 20000 in
theorem hml_1 : ∀ e ∈ gML_1, pm_lk1 gTbl g_y gNst (g_cn 1) e.1 e.2 ∧ (9000 < e.2 → Jvm.Cond.methodLink (g_cn 1) e.1 (g_y e.2) ∈ gTbl) := by
  refine List.forall_mem_cons.mpr ⟨⟨Or.inr ⟨_, (nb_w 30 (List.mem_of_getElem? (i := 0) rfl) rfl)⟩, fun h => absurd h (by decide)⟩, ?_⟩
  refine List.forall_mem_cons.mpr ⟨⟨Or.inr ⟨_, (nb_w 52 (List.mem_of_getElem? (i := 6) rfl) rfl)⟩, fun h => absurd h (by decide)⟩, ?_⟩
  refine List.forall_mem_cons.mpr ⟨⟨Or.inr ⟨_, (nb_w 106 (List.mem_of_getElem? (i := 15) rfl) rfl)⟩, fun h => absurd h (by decide)⟩, ?_⟩
  refine List.forall_mem_cons.mpr ⟨⟨Or.inr ⟨_, (nb_w 193 (List.mem_of_getElem? (i := 47) rfl) rfl)⟩, fun h => absurd h (by decide)⟩, ?_⟩
  refine List.forall_mem_cons.mpr ⟨⟨Or.inr ⟨_, (nb_w 218 (List.mem_of_getElem? (i := 51) rfl) rfl)⟩, fun h => absurd h (by decide)⟩, ?_⟩
  refine List.forall_mem_cons.mpr ⟨⟨Or.inr ⟨_, (nb_w 314 (List.mem_of_getElem? (i := 85) rfl) rfl)⟩, fun h => absurd h (by decide)⟩, ?_⟩
  refine List.forall_mem_cons.mpr ⟨⟨Or.inr ⟨_, (nb_w 435 (List.mem_of_getElem? (i := 97) rfl) rfl)⟩, fun h => absurd h (by decide)⟩, ?_⟩
  refine List.forall_mem_cons.mpr ⟨⟨Or.inl (tb_w 447 rfl rfl), fun h => absurd h (by decide)⟩, ?_⟩
  refine List.forall_mem_cons.mpr ⟨⟨Or.inr ⟨_, (nb_w 451 (List.mem_of_getElem? (i := 98) rfl) rfl)⟩, fun h => absurd h (by decide)⟩, ?_⟩
  refine List.forall_mem_cons.mpr ⟨⟨Or.inr ⟨_, (nb_w 738 (List.mem_of_getElem? (i := 127) rfl) rfl)⟩, fun h => absurd h (by decide)⟩, ?_⟩
  refine List.forall_mem_cons.mpr ⟨⟨Or.inr ⟨_, (nb_w 739 (List.mem_of_getElem? (i := 128) rfl) rfl)⟩, fun h => absurd h (by decide)⟩, ?_⟩
  refine List.forall_mem_cons.mpr ⟨⟨Or.inr ⟨_, (nb_w 743 (List.mem_of_getElem? (i := 129) rfl) rfl)⟩, fun h => absurd h (by decide)⟩, ?_⟩
  refine List.forall_mem_cons.mpr ⟨⟨Or.inr ⟨_, (nb_w 747 (List.mem_of_getElem? (i := 130) rfl) rfl)⟩, fun h => absurd h (by decide)⟩, ?_⟩
  refine List.forall_mem_cons.mpr ⟨⟨Or.inl (tb_w 751 rfl rfl), fun h => absurd h (by decide)⟩, ?_⟩
  refine List.forall_mem_cons.mpr ⟨⟨Or.inl (tb_w 515 rfl rfl), fun _ => (tb_w 515 rfl rfl)⟩, ?_⟩
  refine List.forall_mem_cons.mpr ⟨⟨Or.inl (tb_w 525 rfl rfl), fun _ => (tb_w 525 rfl rfl)⟩, ?_⟩
  refine List.forall_mem_cons.mpr ⟨⟨Or.inl (tb_w 563 rfl rfl), fun h => absurd h (by decide)⟩, ?_⟩
  refine List.forall_mem_cons.mpr ⟨⟨Or.inr ⟨_, (nb_w 768 (List.mem_of_getElem? (i := 131) rfl) rfl)⟩, fun h => absurd h (by decide)⟩, ?_⟩
  refine List.forall_mem_cons.mpr ⟨⟨Or.inr ⟨_, (nb_w 769 (List.mem_of_getElem? (i := 132) rfl) rfl)⟩, fun h => absurd h (by decide)⟩, ?_⟩
  refine List.forall_mem_cons.mpr ⟨⟨Or.inr ⟨_, (nb_w 795 (List.mem_of_getElem? (i := 133) rfl) rfl)⟩, fun h => absurd h (by decide)⟩, ?_⟩
  refine List.forall_mem_cons.mpr ⟨⟨Or.inr ⟨_, (nb_w 796 (List.mem_of_getElem? (i := 134) rfl) rfl)⟩, fun h => absurd h (by decide)⟩, ?_⟩
  refine List.forall_mem_cons.mpr ⟨⟨Or.inr ⟨_, (nb_w 801 (List.mem_of_getElem? (i := 135) rfl) rfl)⟩, fun h => absurd h (by decide)⟩, ?_⟩
  refine List.forall_mem_cons.mpr ⟨⟨Or.inr ⟨_, (nb_w 802 (List.mem_of_getElem? (i := 136) rfl) rfl)⟩, fun h => absurd h (by decide)⟩, ?_⟩
  refine List.forall_mem_cons.mpr ⟨⟨Or.inr ⟨_, (nb_w 803 (List.mem_of_getElem? (i := 137) rfl) rfl)⟩, fun h => absurd h (by decide)⟩, ?_⟩
  refine List.forall_mem_cons.mpr ⟨⟨Or.inr ⟨_, (nb_w 804 (List.mem_of_getElem? (i := 138) rfl) rfl)⟩, fun h => absurd h (by decide)⟩, ?_⟩
  refine List.forall_mem_cons.mpr ⟨⟨Or.inr ⟨_, (nb_w 812 (List.mem_of_getElem? (i := 139) rfl) rfl)⟩, fun h => absurd h (by decide)⟩, ?_⟩
  refine List.forall_mem_cons.mpr ⟨⟨Or.inr ⟨_, (nb_w 820 (List.mem_of_getElem? (i := 140) rfl) rfl)⟩, fun h => absurd h (by decide)⟩, ?_⟩
  refine List.forall_mem_cons.mpr ⟨⟨Or.inl (tb_w 833 rfl rfl), fun h => absurd h (by decide)⟩, ?_⟩
  refine List.forall_mem_cons.mpr ⟨⟨Or.inl (tb_w 834 rfl rfl), fun h => absurd h (by decide)⟩, ?_⟩
  refine List.forall_mem_cons.mpr ⟨⟨Or.inr ⟨_, (nb_w 839 (List.mem_of_getElem? (i := 141) rfl) rfl)⟩, fun h => absurd h (by decide)⟩, ?_⟩
  refine List.forall_mem_cons.mpr ⟨⟨Or.inr ⟨_, (nb_w 843 (List.mem_of_getElem? (i := 142) rfl) rfl)⟩, fun h => absurd h (by decide)⟩, ?_⟩
  refine List.forall_mem_cons.mpr ⟨⟨Or.inl (tb_w 851 rfl rfl), fun h => absurd h (by decide)⟩, ?_⟩
  refine List.forall_mem_cons.mpr ⟨⟨Or.inl (tb_w 854 rfl rfl), fun h => absurd h (by decide)⟩, ?_⟩
  refine List.forall_mem_cons.mpr ⟨⟨Or.inr ⟨_, (nb_w 857 (List.mem_of_getElem? (i := 143) rfl) rfl)⟩, fun h => absurd h (by decide)⟩, ?_⟩
  refine List.forall_mem_cons.mpr ⟨⟨Or.inl (tb_w 858 rfl rfl), fun h => absurd h (by decide)⟩, ?_⟩
  refine List.forall_mem_cons.mpr ⟨⟨Or.inr ⟨_, (nb_w 875 (List.mem_of_getElem? (i := 147) rfl) rfl)⟩, fun h => absurd h (by decide)⟩, ?_⟩
  refine List.forall_mem_cons.mpr ⟨⟨Or.inr ⟨_, (nb_w 862 (List.mem_of_getElem? (i := 144) rfl) rfl)⟩, fun h => absurd h (by decide)⟩, ?_⟩
  refine List.forall_mem_cons.mpr ⟨⟨Or.inl (tb_w 880 rfl rfl), fun h => absurd h (by decide)⟩, ?_⟩
  refine List.forall_mem_cons.mpr ⟨⟨Or.inr ⟨_, (nb_w 884 (List.mem_of_getElem? (i := 148) rfl) rfl)⟩, fun h => absurd h (by decide)⟩, ?_⟩
  refine List.forall_mem_cons.mpr ⟨⟨Or.inr ⟨_, (nb_w 893 (List.mem_of_getElem? (i := 149) rfl) rfl)⟩, fun h => absurd h (by decide)⟩, ?_⟩
  refine List.forall_mem_cons.mpr ⟨⟨Or.inr ⟨_, (nb_w 913 (List.mem_of_getElem? (i := 150) rfl) rfl)⟩, fun h => absurd h (by decide)⟩, ?_⟩
  refine List.forall_mem_cons.mpr ⟨⟨Or.inr ⟨_, (nb_w 921 (List.mem_of_getElem? (i := 151) rfl) rfl)⟩, fun h => absurd h (by decide)⟩, ?_⟩
  refine List.forall_mem_cons.mpr ⟨⟨Or.inl (tb_w 929 rfl rfl), fun h => absurd h (by decide)⟩, ?_⟩
  refine List.forall_mem_cons.mpr ⟨⟨Or.inl (tb_w 962 rfl rfl), fun h => absurd h (by decide)⟩, ?_⟩
  refine List.forall_mem_cons.mpr ⟨⟨Or.inr ⟨_, (nb_w 970 (List.mem_of_getElem? (i := 158) rfl) rfl)⟩, fun h => absurd h (by decide)⟩, ?_⟩
  refine List.forall_mem_cons.mpr ⟨⟨Or.inl (tb_w 933 rfl rfl), fun h => absurd h (by decide)⟩, ?_⟩
  refine List.forall_mem_cons.mpr ⟨⟨Or.inr ⟨_, (nb_w 937 (List.mem_of_getElem? (i := 152) rfl) rfl)⟩, fun h => absurd h (by decide)⟩, ?_⟩
  refine List.forall_mem_cons.mpr ⟨⟨Or.inr ⟨_, (nb_w 942 (List.mem_of_getElem? (i := 153) rfl) rfl)⟩, fun h => absurd h (by decide)⟩, ?_⟩
  refine List.forall_mem_cons.mpr ⟨⟨Or.inr ⟨_, (nb_w 966 (List.mem_of_getElem? (i := 157) rfl) rfl)⟩, fun h => absurd h (by decide)⟩, ?_⟩
  refine List.forall_mem_cons.mpr ⟨⟨Or.inr ⟨_, (nb_w 1013 (List.mem_of_getElem? (i := 160) rfl) rfl)⟩, fun h => absurd h (by decide)⟩, ?_⟩
  refine List.forall_mem_cons.mpr ⟨⟨Or.inr ⟨_, (nb_w 1037 (List.mem_of_getElem? (i := 161) rfl) rfl)⟩, fun h => absurd h (by decide)⟩, ?_⟩
  refine List.forall_mem_cons.mpr ⟨⟨Or.inr ⟨_, (nb_w 1038 (List.mem_of_getElem? (i := 162) rfl) rfl)⟩, fun h => absurd h (by decide)⟩, ?_⟩
  refine List.forall_mem_cons.mpr ⟨⟨Or.inr ⟨_, (nb_w 1046 (List.mem_of_getElem? (i := 163) rfl) rfl)⟩, fun h => absurd h (by decide)⟩, ?_⟩
  refine List.forall_mem_cons.mpr ⟨⟨Or.inr ⟨_, (nb_w 1058 (List.mem_of_getElem? (i := 165) rfl) rfl)⟩, fun h => absurd h (by decide)⟩, ?_⟩
  refine List.forall_mem_cons.mpr ⟨⟨Or.inr ⟨_, (nb_w 1076 (List.mem_of_getElem? (i := 169) rfl) rfl)⟩, fun h => absurd h (by decide)⟩, ?_⟩
  refine List.forall_mem_cons.mpr ⟨⟨Or.inr ⟨_, (nb_w 1081 (List.mem_of_getElem? (i := 170) rfl) rfl)⟩, fun h => absurd h (by decide)⟩, ?_⟩
  refine List.forall_mem_cons.mpr ⟨⟨Or.inr ⟨_, (nb_w 1097 (List.mem_of_getElem? (i := 172) rfl) rfl)⟩, fun h => absurd h (by decide)⟩, ?_⟩
  refine List.forall_mem_cons.mpr ⟨⟨Or.inr ⟨_, (nb_w 1106 (List.mem_of_getElem? (i := 173) rfl) rfl)⟩, fun h => absurd h (by decide)⟩, ?_⟩
  refine List.forall_mem_cons.mpr ⟨⟨Or.inr ⟨_, (nb_w 1110 (List.mem_of_getElem? (i := 174) rfl) rfl)⟩, fun h => absurd h (by decide)⟩, ?_⟩
  refine List.forall_mem_cons.mpr ⟨⟨Or.inl (tb_w 1118 rfl rfl), fun h => absurd h (by decide)⟩, ?_⟩
  refine List.forall_mem_cons.mpr ⟨⟨Or.inr ⟨_, (nb_w 1123 (List.mem_of_getElem? (i := 175) rfl) rfl)⟩, fun h => absurd h (by decide)⟩, ?_⟩
  refine List.forall_mem_cons.mpr ⟨⟨Or.inr ⟨_, (nb_w 1131 (List.mem_of_getElem? (i := 176) rfl) rfl)⟩, fun h => absurd h (by decide)⟩, ?_⟩
  refine List.forall_mem_cons.mpr ⟨⟨Or.inr ⟨_, (nb_w 1140 (List.mem_of_getElem? (i := 177) rfl) rfl)⟩, fun h => absurd h (by decide)⟩, ?_⟩
  refine List.forall_mem_cons.mpr ⟨⟨Or.inr ⟨_, (nb_w 1144 (List.mem_of_getElem? (i := 178) rfl) rfl)⟩, fun h => absurd h (by decide)⟩, ?_⟩
  refine List.forall_mem_cons.mpr ⟨⟨Or.inr ⟨_, (nb_w 1158 (List.mem_of_getElem? (i := 181) rfl) rfl)⟩, fun h => absurd h (by decide)⟩, ?_⟩
  refine List.forall_mem_cons.mpr ⟨⟨Or.inr ⟨_, (nb_w 1164 (List.mem_of_getElem? (i := 182) rfl) rfl)⟩, fun h => absurd h (by decide)⟩, ?_⟩
  refine List.forall_mem_cons.mpr ⟨⟨Or.inr ⟨_, (nb_w 1174 (List.mem_of_getElem? (i := 183) rfl) rfl)⟩, fun h => absurd h (by decide)⟩, ?_⟩
  refine List.forall_mem_cons.mpr ⟨⟨Or.inr ⟨_, (nb_w 1187 (List.mem_of_getElem? (i := 184) rfl) rfl)⟩, fun h => absurd h (by decide)⟩, ?_⟩
  refine List.forall_mem_cons.mpr ⟨⟨Or.inr ⟨_, (nb_w 1195 (List.mem_of_getElem? (i := 185) rfl) rfl)⟩, fun h => absurd h (by decide)⟩, ?_⟩
  refine List.forall_mem_cons.mpr ⟨⟨Or.inl (tb_w 1200 rfl rfl), fun h => absurd h (by decide)⟩, ?_⟩
  refine List.forall_mem_cons.mpr ⟨⟨Or.inr ⟨_, (nb_w 1204 (List.mem_of_getElem? (i := 186) rfl) rfl)⟩, fun h => absurd h (by decide)⟩, ?_⟩
  refine List.forall_mem_cons.mpr ⟨⟨Or.inr ⟨_, (nb_w 1211 (List.mem_of_getElem? (i := 187) rfl) rfl)⟩, fun h => absurd h (by decide)⟩, ?_⟩
  refine List.forall_mem_cons.mpr ⟨⟨Or.inr ⟨_, (nb_w 1215 (List.mem_of_getElem? (i := 188) rfl) rfl)⟩, fun h => absurd h (by decide)⟩, ?_⟩
  refine List.forall_mem_cons.mpr ⟨⟨Or.inr ⟨_, (nb_w 1220 (List.mem_of_getElem? (i := 189) rfl) rfl)⟩, fun h => absurd h (by decide)⟩, ?_⟩
  exact fun e he => absurd he List.not_mem_nil
set_option maxRecDepth 20000 in
theorem hml_2 : ∀ e ∈ gML_2, pm_lk1 gTbl g_y gNst (g_cn 2) e.1 e.2 ∧ (9000 < e.2 → Jvm.Cond.methodLink (g_cn 2) e.1 (g_y e.2) ∈ gTbl) := by
  refine List.forall_mem_cons.mpr ⟨⟨Or.inl (tb_w 34 rfl rfl), fun h => absurd h (by decide)⟩, ?_⟩
  refine List.forall_mem_cons.mpr ⟨⟨Or.inl (tb_w 439 rfl rfl), fun h => absurd h (by decide)⟩, ?_⟩
  refine List.forall_mem_cons.mpr ⟨⟨Or.inl (tb_w 1208 rfl rfl), fun h => absurd h (by decide)⟩, ?_⟩
  refine List.forall_mem_cons.mpr ⟨⟨Or.inl (tb_w 1209 rfl rfl), fun _ => (tb_w 1209 rfl rfl)⟩, ?_⟩
  refine List.forall_mem_cons.mpr ⟨⟨Or.inl (tb_w 1210 rfl rfl), fun _ => (tb_w 1210 rfl rfl)⟩, ?_⟩
  exact fun e he => absurd he List.not_mem_nil
set_option maxRecDepth 20000 in
theorem hml_4 : ∀ e ∈ gML_4, pm_lk1 gTbl g_y gNst (g_cn 4) e.1 e.2 ∧ (9000 < e.2 → Jvm.Cond.methodLink (g_cn 4) e.1 (g_y e.2) ∈ gTbl) := by
  refine List.forall_mem_cons.mpr ⟨⟨Or.inr ⟨_, (nb_w 58 (List.mem_of_getElem? (i := 7) rfl) rfl)⟩, fun h => absurd h (by decide)⟩, ?_⟩
  refine List.forall_mem_cons.mpr ⟨⟨Or.inr ⟨_, (nb_w 455 (List.mem_of_getElem? (i := 99) rfl) rfl)⟩, fun h => absurd h (by decide)⟩, ?_⟩
  refine List.forall_mem_cons.mpr ⟨⟨Or.inr ⟨_, (nb_w 467 (List.mem_of_getElem? (i := 102) rfl) rfl)⟩, fun h => absurd h (by decide)⟩, ?_⟩
  refine List.forall_mem_cons.mpr ⟨⟨Or.inl (tb_w 495 rfl rfl), fun h => absurd h (by decide)⟩, ?_⟩
  refine List.forall_mem_cons.mpr ⟨⟨Or.inl (tb_w 499 rfl rfl), fun h => absurd h (by decide)⟩, ?_⟩
  refine List.forall_mem_cons.mpr ⟨⟨Or.inr ⟨_, (nb_w 511 (List.mem_of_getElem? (i := 105) rfl) rfl)⟩, fun h => absurd h (by decide)⟩, ?_⟩
  refine List.forall_mem_cons.mpr ⟨⟨Or.inl (tb_w 572 rfl rfl), fun h => absurd h (by decide)⟩, ?_⟩
  refine List.forall_mem_cons.mpr ⟨⟨Or.inl (tb_w 585 rfl rfl), fun h => absurd h (by decide)⟩, ?_⟩
  refine List.forall_mem_cons.mpr ⟨⟨Or.inl (tb_w 589 rfl rfl), fun h => absurd h (by decide)⟩, ?_⟩
  refine List.forall_mem_cons.mpr ⟨⟨Or.inl (tb_w 602 rfl rfl), fun _ => (tb_w 602 rfl rfl)⟩, ?_⟩
  refine List.forall_mem_cons.mpr ⟨⟨Or.inl (tb_w 603 rfl rfl), fun _ => (tb_w 603 rfl rfl)⟩, ?_⟩
  refine List.forall_mem_cons.mpr ⟨⟨Or.inl (tb_w 604 rfl rfl), fun h => absurd h (by decide)⟩, ?_⟩
  refine List.forall_mem_cons.mpr ⟨⟨Or.inl (tb_w 665 rfl rfl), fun h => absurd h (by decide)⟩, ?_⟩
  refine List.forall_mem_cons.mpr ⟨⟨Or.inl (tb_w 720 rfl rfl), fun h => absurd h (by decide)⟩, ?_⟩
  refine List.forall_mem_cons.mpr ⟨⟨Or.inl (tb_w 729 rfl rfl), fun h => absurd h (by decide)⟩, ?_⟩
  refine List.forall_mem_cons.mpr ⟨⟨Or.inl (tb_w 503 rfl rfl), fun h => absurd h (by decide)⟩, ?_⟩
  refine List.forall_mem_cons.mpr ⟨⟨Or.inl (tb_w 507 rfl rfl), fun h => absurd h (by decide)⟩, ?_⟩
  refine List.forall_mem_cons.mpr ⟨⟨Or.inr ⟨_, (nb_w 564 (List.mem_of_getElem? (i := 106) rfl) rfl)⟩, fun h => absurd h (by decide)⟩, ?_⟩
  refine List.forall_mem_cons.mpr ⟨⟨Or.inr ⟨_, (nb_w 576 (List.mem_of_getElem? (i := 108) rfl) rfl)⟩, fun h => absurd h (by decide)⟩, ?_⟩
  refine List.forall_mem_cons.mpr ⟨⟨Or.inr ⟨_, (nb_w 580 (List.mem_of_getElem? (i := 109) rfl) rfl)⟩, fun h => absurd h (by decide)⟩, ?_⟩
  refine List.forall_mem_cons.mpr ⟨⟨Or.inl (tb_w 608 rfl rfl), fun h => absurd h (by decide)⟩, ?_⟩
  refine List.forall_mem_cons.mpr ⟨⟨Or.inl (tb_w 619 rfl rfl), fun h => absurd h (by decide)⟩, ?_⟩
  refine List.forall_mem_cons.mpr ⟨⟨Or.inl (tb_w 637 rfl rfl), fun h => absurd h (by decide)⟩, ?_⟩
  refine List.forall_mem_cons.mpr ⟨⟨Or.inl (tb_w 641 rfl rfl), fun h => absurd h (by decide)⟩, ?_⟩
  refine List.forall_mem_cons.mpr ⟨⟨Or.inl (tb_w 649 rfl rfl), fun h => absurd h (by decide)⟩, ?_⟩
  refine List.forall_mem_cons.mpr ⟨⟨Or.inr ⟨_, (nb_w 657 (List.mem_of_getElem? (i := 114) rfl) rfl)⟩, fun h => absurd h (by decide)⟩, ?_⟩
  refine List.forall_mem_cons.mpr ⟨⟨Or.inl (tb_w 661 rfl rfl), fun h => absurd h (by decide)⟩, ?_⟩
  refine List.forall_mem_cons.mpr ⟨⟨Or.inr ⟨_, (nb_w 612 (List.mem_of_getElem? (i := 110) rfl) rfl)⟩, fun h => absurd h (by decide)⟩, ?_⟩
  refine List.forall_mem_cons.mpr ⟨⟨Or.inl (tb_w 615 rfl rfl), fun h => absurd h (by decide)⟩, ?_⟩
  refine List.forall_mem_cons.mpr ⟨⟨Or.inr ⟨_, (nb_w 623 (List.mem_of_getElem? (i := 111) rfl) rfl)⟩, fun h => absurd h (by decide)⟩, ?_⟩
  refine List.forall_mem_cons.mpr ⟨⟨Or.inr ⟨_, (nb_w 645 (List.mem_of_getElem? (i := 112) rfl) rfl)⟩, fun h => absurd h (by decide)⟩, ?_⟩
  refine List.forall_mem_cons.mpr ⟨⟨Or.inr ⟨_, (nb_w 653 (List.mem_of_getElem? (i := 113) rfl) rfl)⟩, fun h => absurd h (by decide)⟩, ?_⟩
  refine List.forall_mem_cons.mpr ⟨⟨Or.inr ⟨_, (nb_w 669 (List.mem_of_getElem? (i := 115) rfl) rfl)⟩, fun h => absurd h (by decide)⟩, ?_⟩
  refine List.forall_mem_cons.mpr ⟨⟨Or.inr ⟨_, (nb_w 681 (List.mem_of_getElem? (i := 117) rfl) rfl)⟩, fun h => absurd h (by decide)⟩, ?_⟩
  refine List.forall_mem_cons.mpr ⟨⟨Or.inr ⟨_, (nb_w 685 (List.mem_of_getElem? (i := 118) rfl) rfl)⟩, fun h => absurd h (by decide)⟩, ?_⟩
  refine List.forall_mem_cons.mpr ⟨⟨Or.inr ⟨_, (nb_w 696 (List.mem_of_getElem? (i := 119) rfl) rfl)⟩, fun h => absurd h (by decide)⟩, ?_⟩
  refine List.forall_mem_cons.mpr ⟨⟨Or.inr ⟨_, (nb_w 700 (List.mem_of_getElem? (i := 120) rfl) rfl)⟩, fun h => absurd h (by decide)⟩, ?_⟩
  refine List.forall_mem_cons.mpr ⟨⟨Or.inr ⟨_, (nb_w 712 (List.mem_of_getElem? (i := 121) rfl) rfl)⟩, fun h => absurd h (by decide)⟩, ?_⟩
  refine List.forall_mem_cons.mpr ⟨⟨Or.inr ⟨_, (nb_w 713 (List.mem_of_getElem? (i := 122) rfl) rfl)⟩, fun h => absurd h (by decide)⟩, ?_⟩
  refine List.forall_mem_cons.mpr ⟨⟨Or.inr ⟨_, (nb_w 724 (List.mem_of_getElem? (i := 124) rfl) rfl)⟩, fun h => absurd h (by decide)⟩, ?_⟩
  refine List.forall_mem_cons.mpr ⟨⟨Or.inr ⟨_, (nb_w 728 (List.mem_of_getElem? (i := 125) rfl) rfl)⟩, fun h => absurd h (by decide)⟩, ?_⟩
  refine List.forall_mem_cons.mpr ⟨⟨Or.inr ⟨_, (nb_w 733 (List.mem_of_getElem? (i := 126) rfl) rfl)⟩, fun h => absurd h (by decide)⟩, ?_⟩
  exact fun e he => absurd he List.not_mem_nil
set_option maxRecDepth 20000 in
theorem hml_5 : ∀ e ∈ gML_5, pm_lk1 gTbl g_y gNst (g_cn 5) e.1 e.2 ∧ (9000 < e.2 → Jvm.Cond.methodLink (g_cn 5) e.1 (g_y e.2) ∈ gTbl) := by
  refine List.forall_mem_cons.mpr ⟨⟨Or.inl (tb_w 471 rfl rfl), fun h => absurd h (by decide)⟩, ?_⟩
  refine List.forall_mem_cons.mpr ⟨⟨Or.inl (tb_w 474 rfl rfl), fun h => absurd h (by decide)⟩, ?_⟩
  refine List.forall_mem_cons.mpr ⟨⟨Or.inl (tb_w 488 rfl rfl), fun h => absurd h (by decide)⟩, ?_⟩
  refine List.forall_mem_cons.mpr ⟨⟨Or.inr ⟨_, (nb_w 478 (List.mem_of_getElem? (i := 103) rfl) rfl)⟩, fun h => absurd h (by decide)⟩, ?_⟩
  refine List.forall_mem_cons.mpr ⟨⟨Or.inl (tb_w 482 rfl rfl), fun h => absurd h (by decide)⟩, ?_⟩
  refine List.forall_mem_cons.mpr ⟨⟨Or.inl (tb_w 492 rfl rfl), fun h => absurd h (by decide)⟩, ?_⟩
  refine List.forall_mem_cons.mpr ⟨⟨Or.inr ⟨_, (nb_w 485 (List.mem_of_getElem? (i := 104) rfl) rfl)⟩, fun h => absurd h (by decide)⟩, ?_⟩
  exact fun e he => absurd he List.not_mem_nil
set_option maxRecDepth 20000 in
theorem hml_6 : ∀ e ∈ gML_6, pm_lk1 gTbl g_y gNst (g_cn 6) e.1 e.2 ∧ (9000 < e.2 → Jvm.Cond.methodLink (g_cn 6) e.1 (g_y e.2) ∈ gTbl) := by
  refine List.forall_mem_cons.mpr ⟨⟨Or.inr ⟨_, (nb_w 113 (List.mem_of_getElem? (i := 17) rfl) rfl)⟩, fun h => absurd h (by decide)⟩, ?_⟩
  refine List.forall_mem_cons.mpr ⟨⟨Or.inr ⟨_, (nb_w 866 (List.mem_of_getElem? (i := 145) rfl) rfl)⟩, fun h => absurd h (by decide)⟩, ?_⟩
  exact fun e he => absurd he List.not_mem_nil
set_option maxRecDepth 20000 in
theorem hml_7 : ∀ e ∈ gML_7, pm_lk1 gTbl g_y gNst (g_cn 7) e.1 e.2 ∧ (9000 < e.2 → Jvm.Cond.methodLink (g_cn 7) e.1 (g_y e.2) ∈ gTbl) := by
  refine List.forall_mem_cons.mpr ⟨⟨Or.inr ⟨_, (nb_w 119 (List.mem_of_getElem? (i := 18) rfl) rfl)⟩, fun h => absurd h (by decide)⟩, ?_⟩
  refine List.forall_mem_cons.mpr ⟨⟨Or.inr ⟨_, (nb_w 870 (List.mem_of_getElem? (i := 146) rfl) rfl)⟩, fun h => absurd h (by decide)⟩, ?_⟩
  exact fun e he => absurd he List.not_mem_nil
set_option maxRecDepth 20000 in
theorem hml_8 : ∀ e ∈ gML_8, pm_lk1 gTbl g_y gNst (g_cn 8) e.1 e.2 ∧ (9000 < e.2 → Jvm.Cond.methodLink (g_cn 8) e.1 (g_y e.2) ∈ gTbl) := by
  refine List.forall_mem_cons.mpr ⟨⟨Or.inl (tb_w 123 rfl rfl), fun h => absurd h (by decide)⟩, ?_⟩
  refine List.forall_mem_cons.mpr ⟨⟨Or.inl (tb_w 737 rfl rfl), fun h => absurd h (by decide)⟩, ?_⟩
  refine List.forall_mem_cons.mpr ⟨⟨Or.inl (tb_w 874 rfl rfl), fun h => absurd h (by decide)⟩, ?_⟩
  refine List.forall_mem_cons.mpr ⟨⟨Or.inl (tb_w 888 rfl rfl), fun h => absurd h (by decide)⟩, ?_⟩
  exact fun e he => absurd he List.not_mem_nil
set_option maxRecDepth 20000 in
theorem hml_9 : ∀ e ∈ gML_9, pm_lk1 gTbl g_y gNst (g_cn 9) e.1 e.2 ∧ (9000 < e.2 → Jvm.Cond.methodLink (g_cn 9) e.1 (g_y e.2) ∈ gTbl) := by
  refine List.forall_mem_cons.mpr ⟨⟨Or.inl (tb_w 1148 rfl rfl), fun h => absurd h (by decide)⟩, ?_⟩
  refine List.forall_mem_cons.mpr ⟨⟨Or.inr ⟨_, (nb_w 1152 (List.mem_of_getElem? (i := 179) rfl) rfl)⟩, fun h => absurd h (by decide)⟩, ?_⟩
  refine List.forall_mem_cons.mpr ⟨⟨Or.inr ⟨_, (nb_w 1153 (List.mem_of_getElem? (i := 180) rfl) rfl)⟩, fun h => absurd h (by decide)⟩, ?_⟩
  exact fun e he => absurd he List.not_mem_nil
set_option maxRecDepth 20000 in
theorem hml_10 : ∀ e ∈ gML_10, pm_lk1 gTbl g_y gNst (g_cn 10) e.1 e.2 ∧ (9000 < e.2 → Jvm.Cond.methodLink (g_cn 10) e.1 (g_y e.2) ∈ gTbl) := by
  refine List.forall_mem_cons.mpr ⟨⟨Or.inr ⟨_, (nb_w 225 (List.mem_of_getElem? (i := 53) rfl) rfl)⟩, fun h => absurd h (by decide)⟩, ?_⟩
  refine List.forall_mem_cons.mpr ⟨⟨Or.inr ⟨_, (nb_w 227 (List.mem_of_getElem? (i := 54) rfl) rfl)⟩, fun h => absurd h (by decide)⟩, ?_⟩
  refine List.forall_mem_cons.mpr ⟨⟨Or.inr ⟨_, (nb_w 229 (List.mem_of_getElem? (i := 55) rfl) rfl)⟩, fun h => absurd h (by decide)⟩, ?_⟩
  refine List.forall_mem_cons.mpr ⟨⟨Or.inr ⟨_, (nb_w 459 (List.mem_of_getElem? (i := 100) rfl) rfl)⟩, fun h => absurd h (by decide)⟩, ?_⟩
  refine List.forall_mem_cons.mpr ⟨⟨Or.inr ⟨_, (nb_w 463 (List.mem_of_getElem? (i := 101) rfl) rfl)⟩, fun h => absurd h (by decide)⟩, ?_⟩
  refine List.forall_mem_cons.mpr ⟨⟨Or.inr ⟨_, (nb_w 568 (List.mem_of_getElem? (i := 107) rfl) rfl)⟩, fun h => absurd h (by decide)⟩, ?_⟩
  refine List.forall_mem_cons.mpr ⟨⟨Or.inl (tb_w 584 rfl rfl), fun h => absurd h (by decide)⟩, ?_⟩
  refine List.forall_mem_cons.mpr ⟨⟨Or.inl (tb_w 941 rfl rfl), fun h => absurd h (by decide)⟩, ?_⟩
  exact fun e he => absurd he List.not_mem_nil
set_option maxRecDepth 20000 in
theorem hml_11 : ∀ e ∈ gML_11, pm_lk1 gTbl g_y gNst (g_cn 11) e.1 e.2 ∧ (9000 < e.2 → Jvm.Cond.methodLink (g_cn 11) e.1 (g_y e.2) ∈ gTbl) := by
  refine List.forall_mem_cons.mpr ⟨⟨Or.inl (tb_w 627 rfl rfl), fun h => absurd h (by decide)⟩, ?_⟩
  refine List.forall_mem_cons.mpr ⟨⟨Or.inl (tb_w 631 rfl rfl), fun h => absurd h (by decide)⟩, ?_⟩
  refine List.forall_mem_cons.mpr ⟨⟨Or.inl (tb_w 673 rfl rfl), fun h => absurd h (by decide)⟩, ?_⟩
  refine List.forall_mem_cons.mpr ⟨⟨Or.inr ⟨_, (nb_w 674 (List.mem_of_getElem? (i := 116) rfl) rfl)⟩, fun h => absurd h (by decide)⟩, ?_⟩
  refine List.forall_mem_cons.mpr ⟨⟨Or.inl (tb_w 677 rfl rfl), fun h => absurd h (by decide)⟩, ?_⟩
  refine List.forall_mem_cons.mpr ⟨⟨Or.inl (tb_w 689 rfl rfl), fun h => absurd h (by decide)⟩, ?_⟩
  refine List.forall_mem_cons.mpr ⟨⟨Or.inl (tb_w 693 rfl rfl), fun h => absurd h (by decide)⟩, ?_⟩
  refine List.forall_mem_cons.mpr ⟨⟨Or.inl (tb_w 704 rfl rfl), fun h => absurd h (by decide)⟩, ?_⟩
  refine List.forall_mem_cons.mpr ⟨⟨Or.inl (tb_w 708 rfl rfl), fun h => absurd h (by decide)⟩, ?_⟩
  refine List.forall_mem_cons.mpr ⟨⟨Or.inr ⟨_, (nb_w 717 (List.mem_of_getElem? (i := 123) rfl) rfl)⟩, fun h => absurd h (by decide)⟩, ?_⟩
  refine List.forall_mem_cons.mpr ⟨⟨Or.inl (tb_w 773 rfl rfl), fun h => absurd h (by decide)⟩, ?_⟩
  refine List.forall_mem_cons.mpr ⟨⟨Or.inl (tb_w 777 rfl rfl), fun h => absurd h (by decide)⟩, ?_⟩
  refine List.forall_mem_cons.mpr ⟨⟨Or.inl (tb_w 781 rfl rfl), fun h => absurd h (by decide)⟩, ?_⟩
  refine List.forall_mem_cons.mpr ⟨⟨Or.inl (tb_w 786 rfl rfl), fun h => absurd h (by decide)⟩, ?_⟩
  refine List.forall_mem_cons.mpr ⟨⟨Or.inl (tb_w 785 rfl rfl), fun h => absurd h (by decide)⟩, ?_⟩
  refine List.forall_mem_cons.mpr ⟨⟨Or.inl (tb_w 790 rfl rfl), fun h => absurd h (by decide)⟩, ?_⟩
  refine List.forall_mem_cons.mpr ⟨⟨Or.inl (tb_w 824 rfl rfl), fun h => absurd h (by decide)⟩, ?_⟩
  refine List.forall_mem_cons.mpr ⟨⟨Or.inl (tb_w 828 rfl rfl), fun h => absurd h (by decide)⟩, ?_⟩
  refine List.forall_mem_cons.mpr ⟨⟨Or.inl (tb_w 982 rfl rfl), fun h => absurd h (by decide)⟩, ?_⟩
  exact fun e he => absurd he List.not_mem_nil
set_option maxRecDepth 20000 in
theorem hml_12 : ∀ e ∈ gML_12, pm_lk1 gTbl g_y gNst (g_cn 12) e.1 e.2 ∧ (9000 < e.2 → Jvm.Cond.methodLink (g_cn 12) e.1 (g_y e.2) ∈ gTbl) := by
  refine List.forall_mem_cons.mpr ⟨⟨Or.inl (tb_w 946 rfl rfl), fun h => absurd h (by decide)⟩, ?_⟩
  refine List.forall_mem_cons.mpr ⟨⟨Or.inl (tb_w 950 rfl rfl), fun h => absurd h (by decide)⟩, ?_⟩
  refine List.forall_mem_cons.mpr ⟨⟨Or.inl (tb_w 953 rfl rfl), fun h => absurd h (by decide)⟩, ?_⟩
  refine List.forall_mem_cons.mpr ⟨⟨Or.inl (tb_w 957 rfl rfl), fun h => absurd h (by decide)⟩, ?_⟩
  refine List.forall_mem_cons.mpr ⟨⟨Or.inr ⟨_, (nb_w 951 (List.mem_of_getElem? (i := 154) rfl) rfl)⟩, fun h => absurd h (by decide)⟩, ?_⟩
  refine List.forall_mem_cons.mpr ⟨⟨Or.inr ⟨_, (nb_w 952 (List.mem_of_getElem? (i := 155) rfl) rfl)⟩, fun h => absurd h (by decide)⟩, ?_⟩
  refine List.forall_mem_cons.mpr ⟨⟨Or.inr ⟨_, (nb_w 961 (List.mem_of_getElem? (i := 156) rfl) rfl)⟩, fun h => absurd h (by decide)⟩, ?_⟩
  refine List.forall_mem_cons.mpr ⟨⟨Or.inl (tb_w 974 rfl rfl), fun h => absurd h (by decide)⟩, ?_⟩
  refine List.forall_mem_cons.mpr ⟨⟨Or.inl (tb_w 986 rfl rfl), fun h => absurd h (by decide)⟩, ?_⟩
  refine List.forall_mem_cons.mpr ⟨⟨Or.inl (tb_w 990 rfl rfl), fun h => absurd h (by decide)⟩, ?_⟩
  refine List.forall_mem_cons.mpr ⟨⟨Or.inl (tb_w 994 rfl rfl), fun h => absurd h (by decide)⟩, ?_⟩
  refine List.forall_mem_cons.mpr ⟨⟨Or.inl (tb_w 1005 rfl rfl), fun h => absurd h (by decide)⟩, ?_⟩
  refine List.forall_mem_cons.mpr ⟨⟨Or.inr ⟨_, (nb_w 978 (List.mem_of_getElem? (i := 159) rfl) rfl)⟩, fun h => absurd h (by decide)⟩, ?_⟩
  refine List.forall_mem_cons.mpr ⟨⟨Or.inl (tb_w 998 rfl rfl), fun h => absurd h (by decide)⟩, ?_⟩
  refine List.forall_mem_cons.mpr ⟨⟨Or.inl (tb_w 1002 rfl rfl), fun h => absurd h (by decide)⟩, ?_⟩
  refine List.forall_mem_cons.mpr ⟨⟨Or.inl (tb_w 1017 rfl rfl), fun h => absurd h (by decide)⟩, ?_⟩
  refine List.forall_mem_cons.mpr ⟨⟨Or.inl (tb_w 1024 rfl rfl), fun h => absurd h (by decide)⟩, ?_⟩
  refine List.forall_mem_cons.mpr ⟨⟨Or.inl (tb_w 1028 rfl rfl), fun h => absurd h (by decide)⟩, ?_⟩
  refine List.forall_mem_cons.mpr ⟨⟨Or.inl (tb_w 1021 rfl rfl), fun h => absurd h (by decide)⟩, ?_⟩
  refine List.forall_mem_cons.mpr ⟨⟨Or.inl (tb_w 1032 rfl rfl), fun h => absurd h (by decide)⟩, ?_⟩
  refine List.forall_mem_cons.mpr ⟨⟨Or.inl (tb_w 1042 rfl rfl), fun h => absurd h (by decide)⟩, ?_⟩
  refine List.forall_mem_cons.mpr ⟨⟨Or.inr ⟨_, (nb_w 1050 (List.mem_of_getElem? (i := 164) rfl) rfl)⟩, fun h => absurd h (by decide)⟩, ?_⟩
  refine List.forall_mem_cons.mpr ⟨⟨Or.inl (tb_w 1065 rfl rfl), fun h => absurd h (by decide)⟩, ?_⟩
  refine List.forall_mem_cons.mpr ⟨⟨Or.inr ⟨_, (nb_w 1069 (List.mem_of_getElem? (i := 166) rfl) rfl)⟩, fun h => absurd h (by decide)⟩, ?_⟩
  refine List.forall_mem_cons.mpr ⟨⟨Or.inl (tb_w 1070 rfl rfl), fun h => absurd h (by decide)⟩, ?_⟩
  refine List.forall_mem_cons.mpr ⟨⟨Or.inr ⟨_, (nb_w 1074 (List.mem_of_getElem? (i := 167) rfl) rfl)⟩, fun h => absurd h (by decide)⟩, ?_⟩
  refine List.forall_mem_cons.mpr ⟨⟨Or.inr ⟨_, (nb_w 1075 (List.mem_of_getElem? (i := 168) rfl) rfl)⟩, fun h => absurd h (by decide)⟩, ?_⟩
  refine List.forall_mem_cons.mpr ⟨⟨Or.inl (tb_w 1085 rfl rfl), fun h => absurd h (by decide)⟩, ?_⟩
  refine List.forall_mem_cons.mpr ⟨⟨Or.inr ⟨_, (nb_w 1089 (List.mem_of_getElem? (i := 171) rfl) rfl)⟩, fun h => absurd h (by decide)⟩, ?_⟩
  refine List.forall_mem_cons.mpr ⟨⟨Or.inl (tb_w 1101 rfl rfl), fun h => absurd h (by decide)⟩, ?_⟩
  refine List.forall_mem_cons.mpr ⟨⟨Or.inl (tb_w 1102 rfl rfl), fun h => absurd h (by decide)⟩, ?_⟩
  refine List.forall_mem_cons.mpr ⟨⟨Or.inl (tb_w 1170 rfl rfl), fun h => absurd h (by decide)⟩, ?_⟩
  refine List.forall_mem_cons.mpr ⟨⟨Or.inl (tb_w 1178 rfl rfl), fun h => absurd h (by decide)⟩, ?_⟩
  exact fun e he => absurd he List.not_mem_nil
set_option maxRecDepth 20000 in
theorem hml_13 : ∀ e ∈ gML_13, pm_lk1 gTbl g_y gNst (g_cn 13) e.1 e.2 ∧ (9000 < e.2 → Jvm.Cond.methodLink (g_cn 13) e.1 (g_y e.2) ∈ gTbl) := by
  refine List.forall_mem_cons.mpr ⟨⟨Or.inl (tb_w 634 rfl rfl), fun h => absurd h (by decide)⟩, ?_⟩
  exact fun e he => absurd he List.not_mem_nil
set_option maxRecDepth 20000 in
theorem hml_14 : ∀ e ∈ gML_14, pm_lk1 gTbl g_y gNst (g_cn 14) e.1 e.2 ∧ (9000 < e.2 → Jvm.Cond.methodLink (g_cn 14) e.1 (g_y e.2) ∈ gTbl) := by
  refine List.forall_mem_cons.mpr ⟨⟨Or.inl (tb_w 1433 rfl rfl), fun h => absurd h (by decide)⟩, ?_⟩
  refine List.forall_mem_cons.mpr ⟨⟨Or.inl (tb_w 1436 rfl rfl), fun h => absurd h (by decide)⟩, ?_⟩
  refine List.forall_mem_cons.mpr ⟨⟨Or.inl (tb_w 1445 rfl rfl), fun h => absurd h (by decide)⟩, ?_⟩
  refine List.forall_mem_cons.mpr ⟨⟨Or.inl (tb_w 1449 rfl rfl), fun h => absurd h (by decide)⟩, ?_⟩
  refine List.forall_mem_cons.mpr ⟨⟨Or.inl (tb_w 1461 rfl rfl), fun h => absurd h (by decide)⟩, ?_⟩
  refine List.forall_mem_cons.mpr ⟨⟨Or.inl (tb_w 1453 rfl rfl), fun h => absurd h (by decide)⟩, ?_⟩
  refine List.forall_mem_cons.mpr ⟨⟨Or.inl (tb_w 1457 rfl rfl), fun h => absurd h (by decide)⟩, ?_⟩
  refine List.forall_mem_cons.mpr ⟨⟨Or.inl (tb_w 1484 rfl rfl), fun h => absurd h (by decide)⟩, ?_⟩
  refine List.forall_mem_cons.mpr ⟨⟨Or.inl (tb_w 1488 rfl rfl), fun h => absurd h (by decide)⟩, ?_⟩
  refine List.forall_mem_cons.mpr ⟨⟨Or.inl (tb_w 1492 rfl rfl), fun h => absurd h (by decide)⟩, ?_⟩
  refine List.forall_mem_cons.mpr ⟨⟨Or.inl (tb_w 1465 rfl rfl), fun h => absurd h (by decide)⟩, ?_⟩
  refine List.forall_mem_cons.mpr ⟨⟨Or.inl (tb_w 1469 rfl rfl), fun h => absurd h (by decide)⟩, ?_⟩
  refine List.forall_mem_cons.mpr ⟨⟨Or.inl (tb_w 1480 rfl rfl), fun h => absurd h (by decide)⟩, ?_⟩
  refine List.forall_mem_cons.mpr ⟨⟨Or.inl (tb_w 1473 rfl rfl), fun h => absurd h (by decide)⟩, ?_⟩
  refine List.forall_mem_cons.mpr ⟨⟨Or.inl (tb_w 1477 rfl rfl), fun h => absurd h (by decide)⟩, ?_⟩
  refine List.forall_mem_cons.mpr ⟨⟨Or.inl (tb_w 1501 rfl rfl), fun h => absurd h (by decide)⟩, ?_⟩
  refine List.forall_mem_cons.mpr ⟨⟨Or.inl (tb_w 1509 rfl rfl), fun h => absurd h (by decide)⟩, ?_⟩
  refine List.forall_mem_cons.mpr ⟨⟨Or.inl (tb_w 1517 rfl rfl), fun h => absurd h (by decide)⟩, ?_⟩
  refine List.forall_mem_cons.mpr ⟨⟨Or.inl (tb_w 1522 rfl rfl), fun h => absurd h (by decide)⟩, ?_⟩
  refine List.forall_mem_cons.mpr ⟨⟨Or.inl (tb_w 1529 rfl rfl), fun h => absurd h (by decide)⟩, ?_⟩
  refine List.forall_mem_cons.mpr ⟨⟨Or.inl (tb_w 1542 rfl rfl), fun h => absurd h (by decide)⟩, ?_⟩
  refine List.forall_mem_cons.mpr ⟨⟨Or.inl (tb_w 1549 rfl rfl), fun h => absurd h (by decide)⟩, ?_⟩
  refine List.forall_mem_cons.mpr ⟨⟨Or.inl (tb_w 1546 rfl rfl), fun h => absurd h (by decide)⟩, ?_⟩
  refine List.forall_mem_cons.mpr ⟨⟨Or.inl (tb_w 1557 rfl rfl), fun h => absurd h (by decide)⟩, ?_⟩
  refine List.forall_mem_cons.mpr ⟨⟨Or.inl (tb_w 1561 rfl rfl), fun h => absurd h (by decide)⟩, ?_⟩
  refine List.forall_mem_cons.mpr ⟨⟨Or.inl (tb_w 1569 rfl rfl), fun h => absurd h (by decide)⟩, ?_⟩
  refine List.forall_mem_cons.mpr ⟨⟨Or.inl (tb_w 1585 rfl rfl), fun h => absurd h (by decide)⟩, ?_⟩
  refine List.forall_mem_cons.mpr ⟨⟨Or.inl (tb_w 1606 rfl rfl), fun h => absurd h (by decide)⟩, ?_⟩
  refine List.forall_mem_cons.mpr ⟨⟨Or.inl (tb_w 1610 rfl rfl), fun h => absurd h (by decide)⟩, ?_⟩
  refine List.forall_mem_cons.mpr ⟨⟨Or.inl (tb_w 1614 rfl rfl), fun h => absurd h (by decide)⟩, ?_⟩
  refine List.forall_mem_cons.mpr ⟨⟨Or.inl (tb_w 1618 rfl rfl), fun h => absurd h (by decide)⟩, ?_⟩
  refine List.forall_mem_cons.mpr ⟨⟨Or.inl (tb_w 1626 rfl rfl), fun h => absurd h (by decide)⟩, ?_⟩
  refine List.forall_mem_cons.mpr ⟨⟨Or.inl (tb_w 1650 rfl rfl), fun h => absurd h (by decide)⟩, ?_⟩
  refine List.forall_mem_cons.mpr ⟨⟨Or.inl (tb_w 1654 rfl rfl), fun h => absurd h (by decide)⟩, ?_⟩
  refine List.forall_mem_cons.mpr ⟨⟨Or.inl (tb_w 1669 rfl rfl), fun h => absurd h (by decide)⟩, ?_⟩
  refine List.forall_mem_cons.mpr ⟨⟨Or.inl (tb_w 1622 rfl rfl), fun h => absurd h (by decide)⟩, ?_⟩
  refine List.forall_mem_cons.mpr ⟨⟨Or.inl (tb_w 1630 rfl rfl), fun h => absurd h (by decide)⟩, ?_⟩
  refine List.forall_mem_cons.mpr ⟨⟨Or.inl (tb_w 1634 rfl rfl), fun h => absurd h (by decide)⟩, ?_⟩
  refine List.forall_mem_cons.mpr ⟨⟨Or.inl (tb_w 1638 rfl rfl), fun h => absurd h (by decide)⟩, ?_⟩
  refine List.forall_mem_cons.mpr ⟨⟨Or.inl (tb_w 1646 rfl rfl), fun h => absurd h (by decide)⟩, ?_⟩
  refine List.forall_mem_cons.mpr ⟨⟨Or.inl (tb_w 1642 rfl rfl), fun h => absurd h (by decide)⟩, ?_⟩
  refine List.forall_mem_cons.mpr ⟨⟨Or.inl (tb_w 1658 rfl rfl), fun h => absurd h (by decide)⟩, ?_⟩
  refine List.forall_mem_cons.mpr ⟨⟨Or.inl (tb_w 1666 rfl rfl), fun h => absurd h (by decide)⟩, ?_⟩
  refine List.forall_mem_cons.mpr ⟨⟨Or.inl (tb_w 1662 rfl rfl), fun h => absurd h (by decide)⟩, ?_⟩
  refine List.forall_mem_cons.mpr ⟨⟨Or.inl (tb_w 1677 rfl rfl), fun h => absurd h (by decide)⟩, ?_⟩
  refine List.forall_mem_cons.mpr ⟨⟨Or.inl (tb_w 1681 rfl rfl), fun h => absurd h (by decide)⟩, ?_⟩
  refine List.forall_mem_cons.mpr ⟨⟨Or.inl (tb_w 1685 rfl rfl), fun h => absurd h (by decide)⟩, ?_⟩
  refine List.forall_mem_cons.mpr ⟨⟨Or.inl (tb_w 1693 rfl rfl), fun h => absurd h (by decide)⟩, ?_⟩
  refine List.forall_mem_cons.mpr ⟨⟨Or.inl (tb_w 1689 rfl rfl), fun h => absurd h (by decide)⟩, ?_⟩
  refine List.forall_mem_cons.mpr ⟨⟨Or.inl (tb_w 1701 rfl rfl), fun h => absurd h (by decide)⟩, ?_⟩
  refine List.forall_mem_cons.mpr ⟨⟨Or.inl (tb_w 1709 rfl rfl), fun h => absurd h (by decide)⟩, ?_⟩
  refine List.forall_mem_cons.mpr ⟨⟨Or.inl (tb_w 1713 rfl rfl), fun h => absurd h (by decide)⟩, ?_⟩
  refine List.forall_mem_cons.mpr ⟨⟨Or.inl (tb_w 1721 rfl rfl), fun h => absurd h (by decide)⟩, ?_⟩
  refine List.forall_mem_cons.mpr ⟨⟨Or.inl (tb_w 1746 rfl rfl), fun h => absurd h (by decide)⟩, ?_⟩
  refine List.forall_mem_cons.mpr ⟨⟨Or.inl (tb_w 1751 rfl rfl), fun h => absurd h (by decide)⟩, ?_⟩
  refine List.forall_mem_cons.mpr ⟨⟨Or.inl (tb_w 1767 rfl rfl), fun h => absurd h (by decide)⟩, ?_⟩
  refine List.forall_mem_cons.mpr ⟨⟨Or.inl (tb_w 1783 rfl rfl), fun h => absurd h (by decide)⟩, ?_⟩
  refine List.forall_mem_cons.mpr ⟨⟨Or.inl (tb_w 1791 rfl rfl), fun h => absurd h (by decide)⟩, ?_⟩
  refine List.forall_mem_cons.mpr ⟨⟨Or.inl (tb_w 1803 rfl rfl), fun h => absurd h (by decide)⟩, ?_⟩
  refine List.forall_mem_cons.mpr ⟨⟨Or.inl (tb_w 1807 rfl rfl), fun h => absurd h (by decide)⟩, ?_⟩
  refine List.forall_mem_cons.mpr ⟨⟨Or.inl (tb_w 1795 rfl rfl), fun h => absurd h (by decide)⟩, ?_⟩
  refine List.forall_mem_cons.mpr ⟨⟨Or.inl (tb_w 1811 rfl rfl), fun h => absurd h (by decide)⟩, ?_⟩
  refine List.forall_mem_cons.mpr ⟨⟨Or.inl (tb_w 1815 rfl rfl), fun h => absurd h (by decide)⟩, ?_⟩
  refine List.forall_mem_cons.mpr ⟨⟨Or.inl (tb_w 1898 rfl rfl), fun h => absurd h (by decide)⟩, ?_⟩
  refine List.forall_mem_cons.mpr ⟨⟨Or.inl (tb_w 1827 rfl rfl), fun h => absurd h (by decide)⟩, ?_⟩
  refine List.forall_mem_cons.mpr ⟨⟨Or.inl (tb_w 1878 rfl rfl), fun h => absurd h (by decide)⟩, ?_⟩
  refine List.forall_mem_cons.mpr ⟨⟨Or.inl (tb_w 1823 rfl rfl), fun h => absurd h (by decide)⟩, ?_⟩
  refine List.forall_mem_cons.mpr ⟨⟨Or.inl (tb_w 1882 rfl rfl), fun h => absurd h (by decide)⟩, ?_⟩
  refine List.forall_mem_cons.mpr ⟨⟨Or.inl (tb_w 1819 rfl rfl), fun h => absurd h (by decide)⟩, ?_⟩
  refine List.forall_mem_cons.mpr ⟨⟨Or.inl (tb_w 1831 rfl rfl), fun h => absurd h (by decide)⟩, ?_⟩
  refine List.forall_mem_cons.mpr ⟨⟨Or.inl (tb_w 1835 rfl rfl), fun h => absurd h (by decide)⟩, ?_⟩
  refine List.forall_mem_cons.mpr ⟨⟨Or.inl (tb_w 1839 rfl rfl), fun h => absurd h (by decide)⟩, ?_⟩
  refine List.forall_mem_cons.mpr ⟨⟨Or.inl (tb_w 1843 rfl rfl), fun h => absurd h (by decide)⟩, ?_⟩
  refine List.forall_mem_cons.mpr ⟨⟨Or.inl (tb_w 1847 rfl rfl), fun h => absurd h (by decide)⟩, ?_⟩
  refine List.forall_mem_cons.mpr ⟨⟨Or.inl (tb_w 1866 rfl rfl), fun h => absurd h (by decide)⟩, ?_⟩
  refine List.forall_mem_cons.mpr ⟨⟨Or.inl (tb_w 1870 rfl rfl), fun h => absurd h (by decide)⟩, ?_⟩
  refine List.forall_mem_cons.mpr ⟨⟨Or.inl (tb_w 1874 rfl rfl), fun h => absurd h (by decide)⟩, ?_⟩
  refine List.forall_mem_cons.mpr ⟨⟨Or.inl (tb_w 1886 rfl rfl), fun h => absurd h (by decide)⟩, ?_⟩
  refine List.forall_mem_cons.mpr ⟨⟨Or.inl (tb_w 1890 rfl rfl), fun h => absurd h (by decide)⟩, ?_⟩
  refine List.forall_mem_cons.mpr ⟨⟨Or.inl (tb_w 1894 rfl rfl), fun h => absurd h (by decide)⟩, ?_⟩
  refine List.forall_mem_cons.mpr ⟨⟨Or.inl (tb_w 1851 rfl rfl), fun h => absurd h (by decide)⟩, ?_⟩
  refine List.forall_mem_cons.mpr ⟨⟨Or.inl (tb_w 1855 rfl rfl), fun h => absurd h (by decide)⟩, ?_⟩
  refine List.forall_mem_cons.mpr ⟨⟨Or.inl (tb_w 1859 rfl rfl), fun h => absurd h (by decide)⟩, ?_⟩
  refine List.forall_mem_cons.mpr ⟨⟨Or.inl (tb_w 1862 rfl rfl), fun h => absurd h (by decide)⟩, ?_⟩
  refine List.forall_mem_cons.mpr ⟨⟨Or.inl (tb_w 1910 rfl rfl), fun h => absurd h (by decide)⟩, ?_⟩
  refine List.forall_mem_cons.mpr ⟨⟨Or.inl (tb_w 1930 rfl rfl), fun h => absurd h (by decide)⟩, ?_⟩
  refine List.forall_mem_cons.mpr ⟨⟨Or.inl (tb_w 1914 rfl rfl), fun h => absurd h (by decide)⟩, ?_⟩
  refine List.forall_mem_cons.mpr ⟨⟨Or.inl (tb_w 1922 rfl rfl), fun h => absurd h (by decide)⟩, ?_⟩
  refine List.forall_mem_cons.mpr ⟨⟨Or.inl (tb_w 1918 rfl rfl), fun h => absurd h (by decide)⟩, ?_⟩
  refine List.forall_mem_cons.mpr ⟨⟨Or.inl (tb_w 1926 rfl rfl), fun h => absurd h (by decide)⟩, ?_⟩
  exact fun e he => absurd he List.not_mem_nil
end
section
def g_Q (k : Nat) : Prop := ∀ (xs : List Int32), (gKnd k = 1 → pm_kf (g_P xs) gTbl g_y g_b g_r k (pm_nar (g_P xs) k) ∧ Jvm.Cond.static (g_y k) ∈ gTbl ∧ pm_me (g_P xs) g_y g_r k) ∧ (gKnd k = 2 → pm_kf (g_P xs) gTbl g_y g_b g_r k (pm_nar (g_P xs) k - 1) ∧ Jvm.Cond.instanceMethod (g_y k) ∈ gTbl ∧ Jvm.Cond.selects (g_y k).cls (g_y k) (g_y k) ∈ gTbl ∧ (∃ (T : u_T) (N : Nat), gCl[pm_rcv (g_P xs) k]? = some ((g_y k).cls, T, N)) ∧ pm_me (g_P xs) g_y g_r k) ∧ (gKnd k = 3 → pm_kf (g_P xs) gTbl g_y g_b g_r k (pm_nar (g_P xs) k - 1) ∧ Jvm.Cond.instanceMethod (g_y k) ∈ gTbl ∧ (g_y k).name = "<init>" ∧ g_r k = none ∧ pm_me (g_P xs) g_y g_r k)
set_option maxRecDepth 20000 in
theorem kf_0 : g_Q 0 := fun xs => ⟨fun h => absurd h (by decide), fun h => absurd h (by decide), fun h => absurd h (by decide)⟩
set_option maxRecDepth 20000 in
theorem kf_1 : g_Q 1 := fun xs => ⟨fun h => absurd h (by decide), fun h => absurd h (by decide), fun _ => ⟨⟨(tb_w 1 rfl rfl), (tb_w 24 rfl rfl), by decide +kernel, by decide +kernel, (show (parseMethodDescriptor (g_y 1).desc).map (fun d => d.parameters.length) = some 0 by decide +kernel)⟩, (tb_w 23 rfl rfl), rfl, rfl, ⟨by decide +kernel, rfl⟩⟩⟩
set_option maxRecDepth 20000 in
theorem kf_2 : g_Q 2 := fun xs => ⟨fun h => absurd h (by decide), fun h => absurd h (by decide), fun _ => ⟨⟨(tb_w 2 rfl rfl), (tb_w 32 rfl rfl), by decide +kernel, by decide +kernel, (show (parseMethodDescriptor (g_y 2).desc).map (fun d => d.parameters.length) = some 1 by decide +kernel)⟩, (tb_w 31 rfl rfl), rfl, rfl, ⟨by decide +kernel, rfl⟩⟩⟩
set_option maxRecDepth 20000 in
theorem kf_3 : g_Q 3 := fun xs => ⟨fun _ => ⟨⟨(tb_w 3 rfl rfl), (tb_w 36 rfl rfl), by decide +kernel, by decide +kernel, (show (parseMethodDescriptor (g_y 3).desc).map (fun d => d.parameters.length) = some 2 by decide +kernel)⟩, (tb_w 35 rfl rfl), ⟨by decide +kernel, rfl⟩⟩, fun h => absurd h (by decide), fun h => absurd h (by decide)⟩
set_option maxRecDepth 20000 in
theorem kf_4 : g_Q 4 := fun xs => ⟨fun h => absurd h (by decide), fun h => absurd h (by decide), fun _ => ⟨⟨(tb_w 4 rfl rfl), (tb_w 54 rfl rfl), by decide +kernel, by decide +kernel, (show (parseMethodDescriptor (g_y 4).desc).map (fun d => d.parameters.length) = some 0 by decide +kernel)⟩, (tb_w 53 rfl rfl), rfl, rfl, ⟨by decide +kernel, rfl⟩⟩⟩
set_option maxRecDepth 20000 in
theorem kf_5 : g_Q 5 := fun xs => ⟨fun h => absurd h (by decide), fun h => absurd h (by decide), fun _ => ⟨⟨(tb_w 5 rfl rfl), (tb_w 60 rfl rfl), by decide +kernel, by decide +kernel, (show (parseMethodDescriptor (g_y 5).desc).map (fun d => d.parameters.length) = some 0 by decide +kernel)⟩, (tb_w 59 rfl rfl), rfl, rfl, ⟨by decide +kernel, rfl⟩⟩⟩
set_option maxRecDepth 20000 in
theorem kf_6 : g_Q 6 := fun xs => ⟨fun h => absurd h (by decide), fun h => absurd h (by decide), fun _ => ⟨⟨(tb_w 6 rfl rfl), (tb_w 108 rfl rfl), by decide +kernel, by decide +kernel, (show (parseMethodDescriptor (g_y 6).desc).map (fun d => d.parameters.length) = some 0 by decide +kernel)⟩, (tb_w 107 rfl rfl), rfl, rfl, ⟨by decide +kernel, rfl⟩⟩⟩
set_option maxRecDepth 20000 in
theorem kf_7 : g_Q 7 := fun xs => ⟨fun h => absurd h (by decide), fun h => absurd h (by decide), fun _ => ⟨⟨(tb_w 7 rfl rfl), (tb_w 115 rfl rfl), by decide +kernel, by decide +kernel, (show (parseMethodDescriptor (g_y 7).desc).map (fun d => d.parameters.length) = some 0 by decide +kernel)⟩, (tb_w 114 rfl rfl), rfl, rfl, ⟨by decide +kernel, rfl⟩⟩⟩
set_option maxRecDepth 20000 in
theorem kf_8 : g_Q 8 := fun xs => ⟨fun h => absurd h (by decide), fun h => absurd h (by decide), fun _ => ⟨⟨(tb_w 8 rfl rfl), (tb_w 121 rfl rfl), by decide +kernel, by decide +kernel, (show (parseMethodDescriptor (g_y 8).desc).map (fun d => d.parameters.length) = some 1 by decide +kernel)⟩, (tb_w 120 rfl rfl), rfl, rfl, ⟨by decide +kernel, rfl⟩⟩⟩
set_option maxRecDepth 20000 in
theorem kf_9 : g_Q 9 := fun xs => ⟨fun h => absurd h (by decide), fun h => absurd h (by decide), fun _ => ⟨⟨(tb_w 9 rfl rfl), (tb_w 195 rfl rfl), by decide +kernel, by decide +kernel, (show (parseMethodDescriptor (g_y 9).desc).map (fun d => d.parameters.length) = some 0 by decide +kernel)⟩, (tb_w 194 rfl rfl), rfl, rfl, ⟨by decide +kernel, rfl⟩⟩⟩
set_option maxRecDepth 20000 in
theorem kf_10 : g_Q 10 := fun xs => ⟨fun h => absurd h (by decide), fun h => absurd h (by decide), fun _ => ⟨⟨(tb_w 10 rfl rfl), (tb_w 220 rfl rfl), by decide +kernel, by decide +kernel, (show (parseMethodDescriptor (g_y 10).desc).map (fun d => d.parameters.length) = some 0 by decide +kernel)⟩, (tb_w 219 rfl rfl), rfl, rfl, ⟨by decide +kernel, rfl⟩⟩⟩
set_option maxRecDepth 20000 in
theorem kf_11 : g_Q 11 := fun xs => ⟨fun h => absurd h (by decide), fun h => absurd h (by decide), fun _ => ⟨⟨(tb_w 11 rfl rfl), (tb_w 231 rfl rfl), by decide +kernel, by decide +kernel, (show (parseMethodDescriptor (g_y 11).desc).map (fun d => d.parameters.length) = some 0 by decide +kernel)⟩, (tb_w 230 rfl rfl), rfl, rfl, ⟨by decide +kernel, rfl⟩⟩⟩
set_option maxRecDepth 20000 in
theorem kf_12 : g_Q 12 := fun xs => ⟨fun h => absurd h (by decide), fun h => absurd h (by decide), fun _ => ⟨⟨(tb_w 12 rfl rfl), (tb_w 316 rfl rfl), by decide +kernel, by decide +kernel, (show (parseMethodDescriptor (g_y 12).desc).map (fun d => d.parameters.length) = some 2 by decide +kernel)⟩, (tb_w 315 rfl rfl), rfl, rfl, ⟨by decide +kernel, rfl⟩⟩⟩
set_option maxRecDepth 20000 in
theorem kf_13 : g_Q 13 := fun xs => ⟨fun h => absurd h (by decide), fun _ => ⟨⟨(tb_w 1 rfl rfl), (tb_w 430 rfl rfl), by decide +kernel, by decide +kernel, (show (parseMethodDescriptor (g_y 13).desc).map (fun d => d.parameters.length) = some 0 by decide +kernel)⟩, (tb_w 428 rfl rfl), (tb_w 429 rfl rfl), ⟨_, _, rfl⟩, ⟨by decide +kernel, rfl⟩⟩, fun h => absurd h (by decide)⟩
set_option maxRecDepth 20000 in
theorem kf_14 : g_Q 14 := fun xs => ⟨fun h => absurd h (by decide), fun _ => ⟨⟨(tb_w 1 rfl rfl), (tb_w 434 rfl rfl), by decide +kernel, by decide +kernel, (show (parseMethodDescriptor (g_y 14).desc).map (fun d => d.parameters.length) = some 5 by decide +kernel)⟩, (tb_w 432 rfl rfl), (tb_w 433 rfl rfl), ⟨_, _, rfl⟩, ⟨by decide +kernel, rfl⟩⟩, fun h => absurd h (by decide)⟩
set_option maxRecDepth 20000 in
theorem kf_15 : g_Q 15 := fun xs => ⟨fun h => absurd h (by decide), fun _ => ⟨⟨(tb_w 2 rfl rfl), (tb_w 438 rfl rfl), by decide +kernel, by decide +kernel, (show (parseMethodDescriptor (g_y 15).desc).map (fun d => d.parameters.length) = some 1 by decide +kernel)⟩, (tb_w 437 rfl rfl), (tb_s 0 rfl rfl), ⟨_, _, rfl⟩, ⟨by decide +kernel, rfl⟩⟩, fun h => absurd h (by decide)⟩
set_option maxRecDepth 20000 in
theorem kf_16 : g_Q 16 := fun xs => ⟨fun h => absurd h (by decide), fun _ => ⟨⟨(tb_w 2 rfl rfl), (tb_w 442 rfl rfl), by decide +kernel, by decide +kernel, (show (parseMethodDescriptor (g_y 16).desc).map (fun d => d.parameters.length) = some 1 by decide +kernel)⟩, (tb_w 441 rfl rfl), (tb_s 1 rfl rfl), ⟨_, _, rfl⟩, ⟨by decide +kernel, rfl⟩⟩, fun h => absurd h (by decide)⟩
set_option maxRecDepth 20000 in
theorem kf_17 : g_Q 17 := fun xs => ⟨fun h => absurd h (by decide), fun _ => ⟨⟨(tb_w 1 rfl rfl), (tb_w 446 rfl rfl), by decide +kernel, by decide +kernel, (show (parseMethodDescriptor (g_y 17).desc).map (fun d => d.parameters.length) = some 1 by decide +kernel)⟩, (tb_w 444 rfl rfl), (tb_w 445 rfl rfl), ⟨_, _, rfl⟩, ⟨by decide +kernel, rfl⟩⟩, fun h => absurd h (by decide)⟩
set_option maxRecDepth 20000 in
theorem kf_18 : g_Q 18 := fun xs => ⟨fun h => absurd h (by decide), fun _ => ⟨⟨(tb_w 1 rfl rfl), (tb_w 450 rfl rfl), by decide +kernel, by decide +kernel, (show (parseMethodDescriptor (g_y 18).desc).map (fun d => d.parameters.length) = some 1 by decide +kernel)⟩, (tb_w 449 rfl rfl), (tb_s 2 rfl rfl), ⟨_, _, rfl⟩, ⟨by decide +kernel, rfl⟩⟩, fun h => absurd h (by decide)⟩
set_option maxRecDepth 20000 in
theorem kf_19 : g_Q 19 := fun xs => ⟨fun h => absurd h (by decide), fun _ => ⟨⟨(tb_w 4 rfl rfl), (tb_w 454 rfl rfl), by decide +kernel, by decide +kernel, (show (parseMethodDescriptor (g_y 19).desc).map (fun d => d.parameters.length) = some 3 by decide +kernel)⟩, (tb_w 453 rfl rfl), (tb_s 3 rfl rfl), ⟨_, _, rfl⟩, ⟨by decide +kernel, rfl⟩⟩, fun h => absurd h (by decide)⟩
set_option maxRecDepth 20000 in
theorem kf_20 : g_Q 20 := fun xs => ⟨fun h => absurd h (by decide), fun _ => ⟨⟨(tb_w 10 rfl rfl), (tb_w 458 rfl rfl), by decide +kernel, by decide +kernel, (show (parseMethodDescriptor (g_y 20).desc).map (fun d => d.parameters.length) = some 0 by decide +kernel)⟩, (tb_w 457 rfl rfl), (tb_s 4 rfl rfl), ⟨_, _, rfl⟩, ⟨by decide +kernel, rfl⟩⟩, fun h => absurd h (by decide)⟩
set_option maxRecDepth 20000 in
theorem kf_21 : g_Q 21 := fun xs => ⟨fun h => absurd h (by decide), fun _ => ⟨⟨(tb_w 7 rfl rfl), (tb_w 462 rfl rfl), by decide +kernel, by decide +kernel, (show (parseMethodDescriptor (g_y 21).desc).map (fun d => d.parameters.length) = some 0 by decide +kernel)⟩, (tb_w 461 rfl rfl), (tb_s 5 rfl rfl), ⟨_, _, rfl⟩, ⟨by decide +kernel, rfl⟩⟩, fun h => absurd h (by decide)⟩
set_option maxRecDepth 20000 in
theorem kf_22 : g_Q 22 := fun xs => ⟨fun h => absurd h (by decide), fun _ => ⟨⟨(tb_w 2 rfl rfl), (tb_w 466 rfl rfl), by decide +kernel, by decide +kernel, (show (parseMethodDescriptor (g_y 22).desc).map (fun d => d.parameters.length) = some 0 by decide +kernel)⟩, (tb_w 465 rfl rfl), (tb_s 6 rfl rfl), ⟨_, _, rfl⟩, ⟨by decide +kernel, rfl⟩⟩, fun h => absurd h (by decide)⟩
set_option maxRecDepth 20000 in
theorem kf_23 : g_Q 23 := fun xs => ⟨fun h => absurd h (by decide), fun _ => ⟨⟨(tb_w 5 rfl rfl), (tb_w 470 rfl rfl), by decide +kernel, by decide +kernel, (show (parseMethodDescriptor (g_y 23).desc).map (fun d => d.parameters.length) = some 2 by decide +kernel)⟩, (tb_w 469 rfl rfl), (tb_s 7 rfl rfl), ⟨_, _, rfl⟩, ⟨by decide +kernel, rfl⟩⟩, fun h => absurd h (by decide)⟩
set_option maxRecDepth 20000 in
theorem kf_24 : g_Q 24 := fun xs => ⟨fun _ => ⟨⟨(tb_w 3 rfl rfl), (tb_w 473 rfl rfl), by decide +kernel, by decide +kernel, (show (parseMethodDescriptor (g_y 24).desc).map (fun d => d.parameters.length) = some 2 by decide +kernel)⟩, (tb_w 472 rfl rfl), ⟨by decide +kernel, rfl⟩⟩, fun h => absurd h (by decide), fun h => absurd h (by decide)⟩
set_option maxRecDepth 20000 in
theorem kf_25 : g_Q 25 := fun xs => ⟨fun h => absurd h (by decide), fun _ => ⟨⟨(tb_w 5 rfl rfl), (tb_w 477 rfl rfl), by decide +kernel, by decide +kernel, (show (parseMethodDescriptor (g_y 25).desc).map (fun d => d.parameters.length) = some 3 by decide +kernel)⟩, (tb_w 476 rfl rfl), (tb_s 8 rfl rfl), ⟨_, _, rfl⟩, ⟨by decide +kernel, rfl⟩⟩, fun h => absurd h (by decide)⟩
set_option maxRecDepth 20000 in
theorem kf_26 : g_Q 26 := fun xs => ⟨fun h => absurd h (by decide), fun _ => ⟨⟨(tb_w 2 rfl rfl), (tb_w 481 rfl rfl), by decide +kernel, by decide +kernel, (show (parseMethodDescriptor (g_y 26).desc).map (fun d => d.parameters.length) = some 4 by decide +kernel)⟩, (tb_w 480 rfl rfl), (tb_s 9 rfl rfl), ⟨_, _, rfl⟩, ⟨by decide +kernel, rfl⟩⟩, fun h => absurd h (by decide)⟩
set_option maxRecDepth 20000 in
theorem kf_27 : g_Q 27 := fun xs => ⟨fun _ => ⟨⟨(tb_w 5 rfl rfl), (tb_w 484 rfl rfl), by decide +kernel, by decide +kernel, (show (parseMethodDescriptor (g_y 27).desc).map (fun d => d.parameters.length) = some 3 by decide +kernel)⟩, (tb_w 483 rfl rfl), ⟨by decide +kernel, rfl⟩⟩, fun h => absurd h (by decide), fun h => absurd h (by decide)⟩
set_option maxRecDepth 20000 in
theorem kf_28 : g_Q 28 := fun xs => ⟨fun _ => ⟨⟨(tb_w 1 rfl rfl), (tb_w 487 rfl rfl), by decide +kernel, by decide +kernel, (show (parseMethodDescriptor (g_y 28).desc).map (fun d => d.parameters.length) = some 2 by decide +kernel)⟩, (tb_w 486 rfl rfl), ⟨by decide +kernel, rfl⟩⟩, fun h => absurd h (by decide), fun h => absurd h (by decide)⟩
set_option maxRecDepth 20000 in
theorem kf_29 : g_Q 29 := fun xs => ⟨fun h => absurd h (by decide), fun _ => ⟨⟨(tb_w 5 rfl rfl), (tb_w 491 rfl rfl), by decide +kernel, by decide +kernel, (show (parseMethodDescriptor (g_y 29).desc).map (fun d => d.parameters.length) = some 4 by decide +kernel)⟩, (tb_w 490 rfl rfl), (tb_s 10 rfl rfl), ⟨_, _, rfl⟩, ⟨by decide +kernel, rfl⟩⟩, fun h => absurd h (by decide)⟩
set_option maxRecDepth 20000 in
theorem kf_30 : g_Q 30 := fun xs => ⟨fun _ => ⟨⟨(tb_w 5 rfl rfl), (tb_w 494 rfl rfl), by decide +kernel, by decide +kernel, (show (parseMethodDescriptor (g_y 30).desc).map (fun d => d.parameters.length) = some 3 by decide +kernel)⟩, (tb_w 493 rfl rfl), ⟨by decide +kernel, rfl⟩⟩, fun h => absurd h (by decide), fun h => absurd h (by decide)⟩
set_option maxRecDepth 20000 in
theorem kf_31 : g_Q 31 := fun xs => ⟨fun h => absurd h (by decide), fun _ => ⟨⟨(tb_w 4 rfl rfl), (tb_w 498 rfl rfl), by decide +kernel, by decide +kernel, (show (parseMethodDescriptor (g_y 31).desc).map (fun d => d.parameters.length) = some 2 by decide +kernel)⟩, (tb_w 497 rfl rfl), (tb_s 11 rfl rfl), ⟨_, _, rfl⟩, ⟨by decide +kernel, rfl⟩⟩, fun h => absurd h (by decide)⟩
set_option maxRecDepth 20000 in
theorem kf_32 : g_Q 32 := fun xs => ⟨fun h => absurd h (by decide), fun _ => ⟨⟨(tb_w 4 rfl rfl), (tb_w 502 rfl rfl), by decide +kernel, by decide +kernel, (show (parseMethodDescriptor (g_y 32).desc).map (fun d => d.parameters.length) = some 1 by decide +kernel)⟩, (tb_w 501 rfl rfl), (tb_s 12 rfl rfl), ⟨_, _, rfl⟩, ⟨by decide +kernel, rfl⟩⟩, fun h => absurd h (by decide)⟩
set_option maxRecDepth 20000 in
theorem kf_33 : g_Q 33 := fun xs => ⟨fun h => absurd h (by decide), fun _ => ⟨⟨(tb_w 4 rfl rfl), (tb_w 506 rfl rfl), by decide +kernel, by decide +kernel, (show (parseMethodDescriptor (g_y 33).desc).map (fun d => d.parameters.length) = some 1 by decide +kernel)⟩, (tb_w 505 rfl rfl), (tb_s 13 rfl rfl), ⟨_, _, rfl⟩, ⟨by decide +kernel, rfl⟩⟩, fun h => absurd h (by decide)⟩
set_option maxRecDepth 20000 in
theorem kf_34 : g_Q 34 := fun xs => ⟨fun h => absurd h (by decide), fun _ => ⟨⟨(tb_w 4 rfl rfl), (tb_w 510 rfl rfl), by decide +kernel, by decide +kernel, (show (parseMethodDescriptor (g_y 34).desc).map (fun d => d.parameters.length) = some 1 by decide +kernel)⟩, (tb_w 509 rfl rfl), (tb_s 14 rfl rfl), ⟨_, _, rfl⟩, ⟨by decide +kernel, rfl⟩⟩, fun h => absurd h (by decide)⟩
set_option maxRecDepth 20000 in
theorem kf_35 : g_Q 35 := fun xs => ⟨fun _ => ⟨⟨(tb_w 1 rfl rfl), (tb_w 513 rfl rfl), by decide +kernel, by decide +kernel, (show (parseMethodDescriptor (g_y 35).desc).map (fun d => d.parameters.length) = some 1 by decide +kernel)⟩, (tb_w 512 rfl rfl), ⟨by decide +kernel, rfl⟩⟩, fun h => absurd h (by decide), fun h => absurd h (by decide)⟩
set_option maxRecDepth 20000 in
theorem kf_36 : g_Q 36 := fun xs => ⟨fun h => absurd h (by decide), fun _ => ⟨⟨(tb_w 10 rfl rfl), (tb_w 567 rfl rfl), by decide +kernel, by decide +kernel, (show (parseMethodDescriptor (g_y 36).desc).map (fun d => d.parameters.length) = some 1 by decide +kernel)⟩, (tb_w 566 rfl rfl), (tb_s 15 rfl rfl), ⟨_, _, rfl⟩, ⟨by decide +kernel, rfl⟩⟩, fun h => absurd h (by decide)⟩
set_option maxRecDepth 20000 in
theorem kf_37 : g_Q 37 := fun xs => ⟨fun h => absurd h (by decide), fun _ => ⟨⟨(tb_w 8 rfl rfl), (tb_w 571 rfl rfl), by decide +kernel, by decide +kernel, (show (parseMethodDescriptor (g_y 37).desc).map (fun d => d.parameters.length) = some 0 by decide +kernel)⟩, (tb_w 570 rfl rfl), (tb_s 16 rfl rfl), ⟨_, _, rfl⟩, ⟨by decide +kernel, rfl⟩⟩, fun h => absurd h (by decide)⟩
set_option maxRecDepth 20000 in
theorem kf_38 : g_Q 38 := fun xs => ⟨fun h => absurd h (by decide), fun _ => ⟨⟨(tb_w 4 rfl rfl), (tb_w 575 rfl rfl), by decide +kernel, by decide +kernel, (show (parseMethodDescriptor (g_y 38).desc).map (fun d => d.parameters.length) = some 1 by decide +kernel)⟩, (tb_w 574 rfl rfl), (tb_s 17 rfl rfl), ⟨_, _, rfl⟩, ⟨by decide +kernel, rfl⟩⟩, fun h => absurd h (by decide)⟩
set_option maxRecDepth 20000 in
theorem kf_39 : g_Q 39 := fun xs => ⟨fun h => absurd h (by decide), fun _ => ⟨⟨(tb_w 10 rfl rfl), (tb_w 579 rfl rfl), by decide +kernel, by decide +kernel, (show (parseMethodDescriptor (g_y 39).desc).map (fun d => d.parameters.length) = some 1 by decide +kernel)⟩, (tb_w 578 rfl rfl), (tb_s 18 rfl rfl), ⟨_, _, rfl⟩, ⟨by decide +kernel, rfl⟩⟩, fun h => absurd h (by decide)⟩
set_option maxRecDepth 20000 in
theorem kf_40 : g_Q 40 := fun xs => ⟨fun h => absurd h (by decide), fun _ => ⟨⟨(tb_w 10 rfl rfl), (tb_w 583 rfl rfl), by decide +kernel, by decide +kernel, (show (parseMethodDescriptor (g_y 40).desc).map (fun d => d.parameters.length) = some 0 by decide +kernel)⟩, (tb_w 582 rfl rfl), (tb_s 19 rfl rfl), ⟨_, _, rfl⟩, ⟨by decide +kernel, rfl⟩⟩, fun h => absurd h (by decide)⟩
set_option maxRecDepth 20000 in
theorem kf_41 : g_Q 41 := fun xs => ⟨fun h => absurd h (by decide), fun _ => ⟨⟨(tb_w 4 rfl rfl), (tb_w 588 rfl rfl), by decide +kernel, by decide +kernel, (show (parseMethodDescriptor (g_y 41).desc).map (fun d => d.parameters.length) = some 0 by decide +kernel)⟩, (tb_w 587 rfl rfl), (tb_s 20 rfl rfl), ⟨_, _, rfl⟩, ⟨by decide +kernel, rfl⟩⟩, fun h => absurd h (by decide)⟩
set_option maxRecDepth 20000 in
theorem kf_42 : g_Q 42 := fun xs => ⟨fun _ => ⟨⟨(tb_w 4 rfl rfl), (tb_w 591 rfl rfl), by decide +kernel, by decide +kernel, (show (parseMethodDescriptor (g_y 42).desc).map (fun d => d.parameters.length) = some 1 by decide +kernel)⟩, (tb_w 590 rfl rfl), ⟨by decide +kernel, rfl⟩⟩, fun h => absurd h (by decide), fun h => absurd h (by decide)⟩
set_option maxRecDepth 20000 in
theorem kf_43 : g_Q 43 := fun xs => ⟨fun h => absurd h (by decide), fun _ => ⟨⟨(tb_w 4 rfl rfl), (tb_w 607 rfl rfl), by decide +kernel, by decide +kernel, (show (parseMethodDescriptor (g_y 43).desc).map (fun d => d.parameters.length) = some 3 by decide +kernel)⟩, (tb_w 606 rfl rfl), (tb_s 21 rfl rfl), ⟨_, _, rfl⟩, ⟨by decide +kernel, rfl⟩⟩, fun h => absurd h (by decide)⟩
set_option maxRecDepth 20000 in
theorem kf_44 : g_Q 44 := fun xs => ⟨fun h => absurd h (by decide), fun _ => ⟨⟨(tb_w 4 rfl rfl), (tb_w 611 rfl rfl), by decide +kernel, by decide +kernel, (show (parseMethodDescriptor (g_y 44).desc).map (fun d => d.parameters.length) = some 1 by decide +kernel)⟩, (tb_w 610 rfl rfl), (tb_s 22 rfl rfl), ⟨_, _, rfl⟩, ⟨by decide +kernel, rfl⟩⟩, fun h => absurd h (by decide)⟩
set_option maxRecDepth 20000 in
theorem kf_45 : g_Q 45 := fun xs => ⟨fun _ => ⟨⟨(tb_w 1 rfl rfl), (tb_w 614 rfl rfl), by decide +kernel, by decide +kernel, (show (parseMethodDescriptor (g_y 45).desc).map (fun d => d.parameters.length) = some 1 by decide +kernel)⟩, (tb_w 613 rfl rfl), ⟨by decide +kernel, rfl⟩⟩, fun h => absurd h (by decide), fun h => absurd h (by decide)⟩
set_option maxRecDepth 20000 in
theorem kf_46 : g_Q 46 := fun xs => ⟨fun h => absurd h (by decide), fun _ => ⟨⟨(tb_w 4 rfl rfl), (tb_w 618 rfl rfl), by decide +kernel, by decide +kernel, (show (parseMethodDescriptor (g_y 46).desc).map (fun d => d.parameters.length) = some 1 by decide +kernel)⟩, (tb_w 617 rfl rfl), (tb_s 23 rfl rfl), ⟨_, _, rfl⟩, ⟨by decide +kernel, rfl⟩⟩, fun h => absurd h (by decide)⟩
set_option maxRecDepth 20000 in
theorem kf_47 : g_Q 47 := fun xs => ⟨fun h => absurd h (by decide), fun _ => ⟨⟨(tb_w 4 rfl rfl), (tb_w 622 rfl rfl), by decide +kernel, by decide +kernel, (show (parseMethodDescriptor (g_y 47).desc).map (fun d => d.parameters.length) = some 2 by decide +kernel)⟩, (tb_w 621 rfl rfl), (tb_s 24 rfl rfl), ⟨_, _, rfl⟩, ⟨by decide +kernel, rfl⟩⟩, fun h => absurd h (by decide)⟩
set_option maxRecDepth 20000 in
theorem kf_48 : g_Q 48 := fun xs => ⟨fun h => absurd h (by decide), fun _ => ⟨⟨(tb_w 11 rfl rfl), (tb_w 626 rfl rfl), by decide +kernel, by decide +kernel, (show (parseMethodDescriptor (g_y 48).desc).map (fun d => d.parameters.length) = some 1 by decide +kernel)⟩, (tb_w 625 rfl rfl), (tb_s 25 rfl rfl), ⟨_, _, rfl⟩, ⟨by decide +kernel, rfl⟩⟩, fun h => absurd h (by decide)⟩
set_option maxRecDepth 20000 in
theorem kf_49 : g_Q 49 := fun xs => ⟨fun h => absurd h (by decide), fun _ => ⟨⟨(tb_w 11 rfl rfl), (tb_w 630 rfl rfl), by decide +kernel, by decide +kernel, (show (parseMethodDescriptor (g_y 49).desc).map (fun d => d.parameters.length) = some 2 by decide +kernel)⟩, (tb_w 629 rfl rfl), (tb_s 26 rfl rfl), ⟨_, _, rfl⟩, ⟨by decide +kernel, rfl⟩⟩, fun h => absurd h (by decide)⟩
set_option maxRecDepth 20000 in
theorem kf_50 : g_Q 50 := fun xs => ⟨fun _ => ⟨⟨(tb_w 18 rfl rfl), (tb_w 633 rfl rfl), by decide +kernel, by decide +kernel, (show (parseMethodDescriptor (g_y 50).desc).map (fun d => d.parameters.length) = some 4 by decide +kernel)⟩, (tb_w 632 rfl rfl), ⟨by decide +kernel, rfl⟩⟩, fun h => absurd h (by decide), fun h => absurd h (by decide)⟩
set_option maxRecDepth 20000 in
theorem kf_51 : g_Q 51 := fun xs => ⟨fun _ => ⟨⟨(tb_w 18 rfl rfl), (tb_w 636 rfl rfl), by decide +kernel, by decide +kernel, (show (parseMethodDescriptor (g_y 51).desc).map (fun d => d.parameters.length) = some 3 by decide +kernel)⟩, (tb_w 635 rfl rfl), ⟨by decide +kernel, rfl⟩⟩, fun h => absurd h (by decide), fun h => absurd h (by decide)⟩
set_option maxRecDepth 20000 in
theorem kf_52 : g_Q 52 := fun xs => ⟨fun h => absurd h (by decide), fun _ => ⟨⟨(tb_w 4 rfl rfl), (tb_w 640 rfl rfl), by decide +kernel, by decide +kernel, (show (parseMethodDescriptor (g_y 52).desc).map (fun d => d.parameters.length) = some 2 by decide +kernel)⟩, (tb_w 639 rfl rfl), (tb_s 27 rfl rfl), ⟨_, _, rfl⟩, ⟨by decide +kernel, rfl⟩⟩, fun h => absurd h (by decide)⟩
set_option maxRecDepth 20000 in
theorem kf_53 : g_Q 53 := fun xs => ⟨fun h => absurd h (by decide), fun _ => ⟨⟨(tb_w 4 rfl rfl), (tb_w 644 rfl rfl), by decide +kernel, by decide +kernel, (show (parseMethodDescriptor (g_y 53).desc).map (fun d => d.parameters.length) = some 1 by decide +kernel)⟩, (tb_w 643 rfl rfl), (tb_s 28 rfl rfl), ⟨_, _, rfl⟩, ⟨by decide +kernel, rfl⟩⟩, fun h => absurd h (by decide)⟩
set_option maxRecDepth 20000 in
theorem kf_54 : g_Q 54 := fun xs => ⟨fun h => absurd h (by decide), fun _ => ⟨⟨(tb_w 11 rfl rfl), (tb_w 648 rfl rfl), by decide +kernel, by decide +kernel, (show (parseMethodDescriptor (g_y 54).desc).map (fun d => d.parameters.length) = some 2 by decide +kernel)⟩, (tb_w 647 rfl rfl), (tb_s 29 rfl rfl), ⟨_, _, rfl⟩, ⟨by decide +kernel, rfl⟩⟩, fun h => absurd h (by decide)⟩
set_option maxRecDepth 20000 in
theorem kf_55 : g_Q 55 := fun xs => ⟨fun h => absurd h (by decide), fun _ => ⟨⟨(tb_w 4 rfl rfl), (tb_w 652 rfl rfl), by decide +kernel, by decide +kernel, (show (parseMethodDescriptor (g_y 55).desc).map (fun d => d.parameters.length) = some 3 by decide +kernel)⟩, (tb_w 651 rfl rfl), (tb_s 30 rfl rfl), ⟨_, _, rfl⟩, ⟨by decide +kernel, rfl⟩⟩, fun h => absurd h (by decide)⟩
set_option maxRecDepth 20000 in
theorem kf_56 : g_Q 56 := fun xs => ⟨fun h => absurd h (by decide), fun _ => ⟨⟨(tb_w 10 rfl rfl), (tb_w 656 rfl rfl), by decide +kernel, by decide +kernel, (show (parseMethodDescriptor (g_y 56).desc).map (fun d => d.parameters.length) = some 1 by decide +kernel)⟩, (tb_w 655 rfl rfl), (tb_s 31 rfl rfl), ⟨_, _, rfl⟩, ⟨by decide +kernel, rfl⟩⟩, fun h => absurd h (by decide)⟩
set_option maxRecDepth 20000 in
theorem kf_57 : g_Q 57 := fun xs => ⟨fun h => absurd h (by decide), fun _ => ⟨⟨(tb_w 10 rfl rfl), (tb_w 660 rfl rfl), by decide +kernel, by decide +kernel, (show (parseMethodDescriptor (g_y 57).desc).map (fun d => d.parameters.length) = some 1 by decide +kernel)⟩, (tb_w 659 rfl rfl), (tb_s 32 rfl rfl), ⟨_, _, rfl⟩, ⟨by decide +kernel, rfl⟩⟩, fun h => absurd h (by decide)⟩
set_option maxRecDepth 20000 in
theorem kf_58 : g_Q 58 := fun xs => ⟨fun h => absurd h (by decide), fun _ => ⟨⟨(tb_w 4 rfl rfl), (tb_w 664 rfl rfl), by decide +kernel, by decide +kernel, (show (parseMethodDescriptor (g_y 58).desc).map (fun d => d.parameters.length) = some 0 by decide +kernel)⟩, (tb_w 663 rfl rfl), (tb_s 33 rfl rfl), ⟨_, _, rfl⟩, ⟨by decide +kernel, rfl⟩⟩, fun h => absurd h (by decide)⟩
set_option maxRecDepth 20000 in
theorem kf_59 : g_Q 59 := fun xs => ⟨fun h => absurd h (by decide), fun _ => ⟨⟨(tb_w 4 rfl rfl), (tb_w 668 rfl rfl), by decide +kernel, by decide +kernel, (show (parseMethodDescriptor (g_y 59).desc).map (fun d => d.parameters.length) = some 2 by decide +kernel)⟩, (tb_w 667 rfl rfl), (tb_s 34 rfl rfl), ⟨_, _, rfl⟩, ⟨by decide +kernel, rfl⟩⟩, fun h => absurd h (by decide)⟩
set_option maxRecDepth 20000 in
theorem kf_60 : g_Q 60 := fun xs => ⟨fun h => absurd h (by decide), fun _ => ⟨⟨(tb_w 11 rfl rfl), (tb_w 672 rfl rfl), by decide +kernel, by decide +kernel, (show (parseMethodDescriptor (g_y 60).desc).map (fun d => d.parameters.length) = some 1 by decide +kernel)⟩, (tb_w 671 rfl rfl), (tb_s 35 rfl rfl), ⟨_, _, rfl⟩, ⟨by decide +kernel, rfl⟩⟩, fun h => absurd h (by decide)⟩
set_option maxRecDepth 20000 in
theorem kf_61 : g_Q 61 := fun xs => ⟨fun _ => ⟨⟨(tb_w 1 rfl rfl), (tb_w 676 rfl rfl), by decide +kernel, by decide +kernel, (show (parseMethodDescriptor (g_y 61).desc).map (fun d => d.parameters.length) = some 2 by decide +kernel)⟩, (tb_w 675 rfl rfl), ⟨by decide +kernel, rfl⟩⟩, fun h => absurd h (by decide), fun h => absurd h (by decide)⟩
set_option maxRecDepth 20000 in
theorem kf_62 : g_Q 62 := fun xs => ⟨fun h => absurd h (by decide), fun _ => ⟨⟨(tb_w 11 rfl rfl), (tb_w 680 rfl rfl), by decide +kernel, by decide +kernel, (show (parseMethodDescriptor (g_y 62).desc).map (fun d => d.parameters.length) = some 0 by decide +kernel)⟩, (tb_w 679 rfl rfl), (tb_s 36 rfl rfl), ⟨_, _, rfl⟩, ⟨by decide +kernel, rfl⟩⟩, fun h => absurd h (by decide)⟩
set_option maxRecDepth 20000 in
theorem kf_63 : g_Q 63 := fun xs => ⟨fun h => absurd h (by decide), fun _ => ⟨⟨(tb_w 11 rfl rfl), (tb_w 684 rfl rfl), by decide +kernel, by decide +kernel, (show (parseMethodDescriptor (g_y 63).desc).map (fun d => d.parameters.length) = some 1 by decide +kernel)⟩, (tb_w 683 rfl rfl), (tb_s 37 rfl rfl), ⟨_, _, rfl⟩, ⟨by decide +kernel, rfl⟩⟩, fun h => absurd h (by decide)⟩
set_option maxRecDepth 20000 in
theorem kf_64 : g_Q 64 := fun xs => ⟨fun h => absurd h (by decide), fun _ => ⟨⟨(tb_w 11 rfl rfl), (tb_w 688 rfl rfl), by decide +kernel, by decide +kernel, (show (parseMethodDescriptor (g_y 64).desc).map (fun d => d.parameters.length) = some 3 by decide +kernel)⟩, (tb_w 687 rfl rfl), (tb_s 38 rfl rfl), ⟨_, _, rfl⟩, ⟨by decide +kernel, rfl⟩⟩, fun h => absurd h (by decide)⟩
set_option maxRecDepth 20000 in
theorem kf_65 : g_Q 65 := fun xs => ⟨fun h => absurd h (by decide), fun _ => ⟨⟨(tb_w 11 rfl rfl), (tb_w 692 rfl rfl), by decide +kernel, by decide +kernel, (show (parseMethodDescriptor (g_y 65).desc).map (fun d => d.parameters.length) = some 5 by decide +kernel)⟩, (tb_w 691 rfl rfl), (tb_s 39 rfl rfl), ⟨_, _, rfl⟩, ⟨by decide +kernel, rfl⟩⟩, fun h => absurd h (by decide)⟩
set_option maxRecDepth 20000 in
theorem kf_66 : g_Q 66 := fun xs => ⟨fun _ => ⟨⟨(tb_w 3 rfl rfl), (tb_w 695 rfl rfl), by decide +kernel, by decide +kernel, (show (parseMethodDescriptor (g_y 66).desc).map (fun d => d.parameters.length) = some 2 by decide +kernel)⟩, (tb_w 694 rfl rfl), ⟨by decide +kernel, rfl⟩⟩, fun h => absurd h (by decide), fun h => absurd h (by decide)⟩
set_option maxRecDepth 20000 in
theorem kf_67 : g_Q 67 := fun xs => ⟨fun h => absurd h (by decide), fun _ => ⟨⟨(tb_w 11 rfl rfl), (tb_w 699 rfl rfl), by decide +kernel, by decide +kernel, (show (parseMethodDescriptor (g_y 67).desc).map (fun d => d.parameters.length) = some 1 by decide +kernel)⟩, (tb_w 698 rfl rfl), (tb_s 40 rfl rfl), ⟨_, _, rfl⟩, ⟨by decide +kernel, rfl⟩⟩, fun h => absurd h (by decide)⟩
set_option maxRecDepth 20000 in
theorem kf_68 : g_Q 68 := fun xs => ⟨fun h => absurd h (by decide), fun _ => ⟨⟨(tb_w 11 rfl rfl), (tb_w 703 rfl rfl), by decide +kernel, by decide +kernel, (show (parseMethodDescriptor (g_y 68).desc).map (fun d => d.parameters.length) = some 2 by decide +kernel)⟩, (tb_w 702 rfl rfl), (tb_s 41 rfl rfl), ⟨_, _, rfl⟩, ⟨by decide +kernel, rfl⟩⟩, fun h => absurd h (by decide)⟩
set_option maxRecDepth 20000 in
theorem kf_69 : g_Q 69 := fun xs => ⟨fun h => absurd h (by decide), fun _ => ⟨⟨(tb_w 11 rfl rfl), (tb_w 707 rfl rfl), by decide +kernel, by decide +kernel, (show (parseMethodDescriptor (g_y 69).desc).map (fun d => d.parameters.length) = some 1 by decide +kernel)⟩, (tb_w 706 rfl rfl), (tb_s 42 rfl rfl), ⟨_, _, rfl⟩, ⟨by decide +kernel, rfl⟩⟩, fun h => absurd h (by decide)⟩
set_option maxRecDepth 20000 in
theorem kf_70 : g_Q 70 := fun xs => ⟨fun h => absurd h (by decide), fun _ => ⟨⟨(tb_w 11 rfl rfl), (tb_w 711 rfl rfl), by decide +kernel, by decide +kernel, (show (parseMethodDescriptor (g_y 70).desc).map (fun d => d.parameters.length) = some 1 by decide +kernel)⟩, (tb_w 710 rfl rfl), (tb_s 43 rfl rfl), ⟨_, _, rfl⟩, ⟨by decide +kernel, rfl⟩⟩, fun h => absurd h (by decide)⟩
set_option maxRecDepth 20000 in
theorem kf_71 : g_Q 71 := fun xs => ⟨fun h => absurd h (by decide), fun _ => ⟨⟨(tb_w 11 rfl rfl), (tb_w 716 rfl rfl), by decide +kernel, by decide +kernel, (show (parseMethodDescriptor (g_y 71).desc).map (fun d => d.parameters.length) = some 0 by decide +kernel)⟩, (tb_w 715 rfl rfl), (tb_s 44 rfl rfl), ⟨_, _, rfl⟩, ⟨by decide +kernel, rfl⟩⟩, fun h => absurd h (by decide)⟩
set_option maxRecDepth 20000 in
theorem kf_72 : g_Q 72 := fun xs => ⟨fun _ => ⟨⟨(tb_w 1 rfl rfl), (tb_w 719 rfl rfl), by decide +kernel, by decide +kernel, (show (parseMethodDescriptor (g_y 72).desc).map (fun d => d.parameters.length) = some 3 by decide +kernel)⟩, (tb_w 718 rfl rfl), ⟨by decide +kernel, rfl⟩⟩, fun h => absurd h (by decide), fun h => absurd h (by decide)⟩
set_option maxRecDepth 20000 in
theorem kf_73 : g_Q 73 := fun xs => ⟨fun h => absurd h (by decide), fun _ => ⟨⟨(tb_w 4 rfl rfl), (tb_w 723 rfl rfl), by decide +kernel, by decide +kernel, (show (parseMethodDescriptor (g_y 73).desc).map (fun d => d.parameters.length) = some 3 by decide +kernel)⟩, (tb_w 722 rfl rfl), (tb_s 45 rfl rfl), ⟨_, _, rfl⟩, ⟨by decide +kernel, rfl⟩⟩, fun h => absurd h (by decide)⟩
set_option maxRecDepth 20000 in
theorem kf_74 : g_Q 74 := fun xs => ⟨fun h => absurd h (by decide), fun _ => ⟨⟨(tb_w 2 rfl rfl), (tb_w 727 rfl rfl), by decide +kernel, by decide +kernel, (show (parseMethodDescriptor (g_y 74).desc).map (fun d => d.parameters.length) = some 0 by decide +kernel)⟩, (tb_w 726 rfl rfl), (tb_s 46 rfl rfl), ⟨_, _, rfl⟩, ⟨by decide +kernel, rfl⟩⟩, fun h => absurd h (by decide)⟩
set_option maxRecDepth 20000 in
theorem kf_75 : g_Q 75 := fun xs => ⟨fun h => absurd h (by decide), fun _ => ⟨⟨(tb_w 4 rfl rfl), (tb_w 732 rfl rfl), by decide +kernel, by decide +kernel, (show (parseMethodDescriptor (g_y 75).desc).map (fun d => d.parameters.length) = some 2 by decide +kernel)⟩, (tb_w 731 rfl rfl), (tb_s 47 rfl rfl), ⟨_, _, rfl⟩, ⟨by decide +kernel, rfl⟩⟩, fun h => absurd h (by decide)⟩
set_option maxRecDepth 20000 in
theorem kf_76 : g_Q 76 := fun xs => ⟨fun h => absurd h (by decide), fun _ => ⟨⟨(tb_w 8 rfl rfl), (tb_w 736 rfl rfl), by decide +kernel, by decide +kernel, (show (parseMethodDescriptor (g_y 76).desc).map (fun d => d.parameters.length) = some 3 by decide +kernel)⟩, (tb_w 735 rfl rfl), (tb_s 48 rfl rfl), ⟨_, _, rfl⟩, ⟨by decide +kernel, rfl⟩⟩, fun h => absurd h (by decide)⟩
set_option maxRecDepth 20000 in
theorem kf_77 : g_Q 77 := fun xs => ⟨fun h => absurd h (by decide), fun _ => ⟨⟨(tb_w 6 rfl rfl), (tb_w 742 rfl rfl), by decide +kernel, by decide +kernel, (show (parseMethodDescriptor (g_y 77).desc).map (fun d => d.parameters.length) = some 0 by decide +kernel)⟩, (tb_w 741 rfl rfl), (tb_s 49 rfl rfl), ⟨_, _, rfl⟩, ⟨by decide +kernel, rfl⟩⟩, fun h => absurd h (by decide)⟩
set_option maxRecDepth 20000 in
theorem kf_78 : g_Q 78 := fun xs => ⟨fun h => absurd h (by decide), fun _ => ⟨⟨(tb_w 9 rfl rfl), (tb_w 746 rfl rfl), by decide +kernel, by decide +kernel, (show (parseMethodDescriptor (g_y 78).desc).map (fun d => d.parameters.length) = some 0 by decide +kernel)⟩, (tb_w 745 rfl rfl), (tb_s 50 rfl rfl), ⟨_, _, rfl⟩, ⟨by decide +kernel, rfl⟩⟩, fun h => absurd h (by decide)⟩
set_option maxRecDepth 20000 in
theorem kf_79 : g_Q 79 := fun xs => ⟨fun h => absurd h (by decide), fun _ => ⟨⟨(tb_w 12 rfl rfl), (tb_w 750 rfl rfl), by decide +kernel, by decide +kernel, (show (parseMethodDescriptor (g_y 79).desc).map (fun d => d.parameters.length) = some 0 by decide +kernel)⟩, (tb_w 749 rfl rfl), (tb_s 51 rfl rfl), ⟨_, _, rfl⟩, ⟨by decide +kernel, rfl⟩⟩, fun h => absurd h (by decide)⟩
set_option maxRecDepth 20000 in
theorem kf_80 : g_Q 80 := fun xs => ⟨fun h => absurd h (by decide), fun _ => ⟨⟨(tb_w 1 rfl rfl), (tb_w 754 rfl rfl), by decide +kernel, by decide +kernel, (show (parseMethodDescriptor (g_y 80).desc).map (fun d => d.parameters.length) = some 1 by decide +kernel)⟩, (tb_w 753 rfl rfl), (tb_s 52 rfl rfl), ⟨_, _, rfl⟩, ⟨by decide +kernel, rfl⟩⟩, fun h => absurd h (by decide)⟩
set_option maxRecDepth 20000 in
theorem kf_81 : g_Q 81 := fun xs => ⟨fun h => absurd h (by decide), fun _ => ⟨⟨(tb_w 1 rfl rfl), (tb_w 759 rfl rfl), by decide +kernel, by decide +kernel, (show (parseMethodDescriptor (g_y 81).desc).map (fun d => d.parameters.length) = some 1 by decide +kernel)⟩, (tb_w 757 rfl rfl), (tb_w 758 rfl rfl), ⟨_, _, rfl⟩, ⟨by decide +kernel, rfl⟩⟩, fun h => absurd h (by decide)⟩
set_option maxRecDepth 20000 in
theorem kf_82 : g_Q 82 := fun xs => ⟨fun h => absurd h (by decide), fun _ => ⟨⟨(tb_w 1 rfl rfl), (tb_w 763 rfl rfl), by decide +kernel, by decide +kernel, (show (parseMethodDescriptor (g_y 82).desc).map (fun d => d.parameters.length) = some 1 by decide +kernel)⟩, (tb_w 761 rfl rfl), (tb_w 762 rfl rfl), ⟨_, _, rfl⟩, ⟨by decide +kernel, rfl⟩⟩, fun h => absurd h (by decide)⟩
set_option maxRecDepth 20000 in
theorem kf_83 : g_Q 83 := fun xs => ⟨fun h => absurd h (by decide), fun _ => ⟨⟨(tb_w 1 rfl rfl), (tb_w 767 rfl rfl), by decide +kernel, by decide +kernel, (show (parseMethodDescriptor (g_y 83).desc).map (fun d => d.parameters.length) = some 2 by decide +kernel)⟩, (tb_w 765 rfl rfl), (tb_w 766 rfl rfl), ⟨_, _, rfl⟩, ⟨by decide +kernel, rfl⟩⟩, fun h => absurd h (by decide)⟩
set_option maxRecDepth 20000 in
theorem kf_84 : g_Q 84 := fun xs => ⟨fun h => absurd h (by decide), fun _ => ⟨⟨(tb_w 11 rfl rfl), (tb_w 772 rfl rfl), by decide +kernel, by decide +kernel, (show (parseMethodDescriptor (g_y 84).desc).map (fun d => d.parameters.length) = some 1 by decide +kernel)⟩, (tb_w 771 rfl rfl), (tb_s 53 rfl rfl), ⟨_, _, rfl⟩, ⟨by decide +kernel, rfl⟩⟩, fun h => absurd h (by decide)⟩
set_option maxRecDepth 20000 in
theorem kf_85 : g_Q 85 := fun xs => ⟨fun h => absurd h (by decide), fun _ => ⟨⟨(tb_w 11 rfl rfl), (tb_w 776 rfl rfl), by decide +kernel, by decide +kernel, (show (parseMethodDescriptor (g_y 85).desc).map (fun d => d.parameters.length) = some 0 by decide +kernel)⟩, (tb_w 775 rfl rfl), (tb_s 54 rfl rfl), ⟨_, _, rfl⟩, ⟨by decide +kernel, rfl⟩⟩, fun h => absurd h (by decide)⟩
set_option maxRecDepth 20000 in
theorem kf_86 : g_Q 86 := fun xs => ⟨fun h => absurd h (by decide), fun _ => ⟨⟨(tb_w 11 rfl rfl), (tb_w 780 rfl rfl), by decide +kernel, by decide +kernel, (show (parseMethodDescriptor (g_y 86).desc).map (fun d => d.parameters.length) = some 2 by decide +kernel)⟩, (tb_w 779 rfl rfl), (tb_s 55 rfl rfl), ⟨_, _, rfl⟩, ⟨by decide +kernel, rfl⟩⟩, fun h => absurd h (by decide)⟩
set_option maxRecDepth 20000 in
theorem kf_87 : g_Q 87 := fun xs => ⟨fun h => absurd h (by decide), fun _ => ⟨⟨(tb_w 11 rfl rfl), (tb_w 784 rfl rfl), by decide +kernel, by decide +kernel, (show (parseMethodDescriptor (g_y 87).desc).map (fun d => d.parameters.length) = some 1 by decide +kernel)⟩, (tb_w 783 rfl rfl), (tb_s 56 rfl rfl), ⟨_, _, rfl⟩, ⟨by decide +kernel, rfl⟩⟩, fun h => absurd h (by decide)⟩
set_option maxRecDepth 20000 in
theorem kf_88 : g_Q 88 := fun xs => ⟨fun h => absurd h (by decide), fun _ => ⟨⟨(tb_w 11 rfl rfl), (tb_w 789 rfl rfl), by decide +kernel, by decide +kernel, (show (parseMethodDescriptor (g_y 88).desc).map (fun d => d.parameters.length) = some 1 by decide +kernel)⟩, (tb_w 788 rfl rfl), (tb_s 57 rfl rfl), ⟨_, _, rfl⟩, ⟨by decide +kernel, rfl⟩⟩, fun h => absurd h (by decide)⟩
set_option maxRecDepth 20000 in
theorem kf_89 : g_Q 89 := fun xs => ⟨fun h => absurd h (by decide), fun _ => ⟨⟨(tb_w 1 rfl rfl), (tb_w 794 rfl rfl), by decide +kernel, by decide +kernel, (show (parseMethodDescriptor (g_y 89).desc).map (fun d => d.parameters.length) = some 4 by decide +kernel)⟩, (tb_w 792 rfl rfl), (tb_w 793 rfl rfl), ⟨_, _, rfl⟩, ⟨by decide +kernel, rfl⟩⟩, fun h => absurd h (by decide)⟩
set_option maxRecDepth 20000 in
theorem kf_90 : g_Q 90 := fun xs => ⟨fun h => absurd h (by decide), fun _ => ⟨⟨(tb_w 1 rfl rfl), (tb_w 800 rfl rfl), by decide +kernel, by decide +kernel, (show (parseMethodDescriptor (g_y 90).desc).map (fun d => d.parameters.length) = some 2 by decide +kernel)⟩, (tb_w 798 rfl rfl), (tb_w 799 rfl rfl), ⟨_, _, rfl⟩, ⟨by decide +kernel, rfl⟩⟩, fun h => absurd h (by decide)⟩
set_option maxRecDepth 20000 in
theorem kf_91 : g_Q 91 := fun xs => ⟨fun h => absurd h (by decide), fun _ => ⟨⟨(tb_w 11 rfl rfl), (tb_w 807 rfl rfl), by decide +kernel, by decide +kernel, (show (parseMethodDescriptor (g_y 91).desc).map (fun d => d.parameters.length) = some 2 by decide +kernel)⟩, (tb_w 806 rfl rfl), (tb_s 58 rfl rfl), ⟨_, _, rfl⟩, ⟨by decide +kernel, rfl⟩⟩, fun h => absurd h (by decide)⟩
set_option maxRecDepth 20000 in
theorem kf_92 : g_Q 92 := fun xs => ⟨fun h => absurd h (by decide), fun _ => ⟨⟨(tb_w 1 rfl rfl), (tb_w 811 rfl rfl), by decide +kernel, by decide +kernel, (show (parseMethodDescriptor (g_y 92).desc).map (fun d => d.parameters.length) = some 5 by decide +kernel)⟩, (tb_w 809 rfl rfl), (tb_w 810 rfl rfl), ⟨_, _, rfl⟩, ⟨by decide +kernel, rfl⟩⟩, fun h => absurd h (by decide)⟩
set_option maxRecDepth 20000 in
theorem kf_93 : g_Q 93 := fun xs => ⟨fun h => absurd h (by decide), fun _ => ⟨⟨(tb_w 11 rfl rfl), (tb_w 815 rfl rfl), by decide +kernel, by decide +kernel, (show (parseMethodDescriptor (g_y 93).desc).map (fun d => d.parameters.length) = some 2 by decide +kernel)⟩, (tb_w 814 rfl rfl), (tb_s 59 rfl rfl), ⟨_, _, rfl⟩, ⟨by decide +kernel, rfl⟩⟩, fun h => absurd h (by decide)⟩
set_option maxRecDepth 20000 in
theorem kf_94 : g_Q 94 := fun xs => ⟨fun h => absurd h (by decide), fun _ => ⟨⟨(tb_w 1 rfl rfl), (tb_w 819 rfl rfl), by decide +kernel, by decide +kernel, (show (parseMethodDescriptor (g_y 94).desc).map (fun d => d.parameters.length) = some 2 by decide +kernel)⟩, (tb_w 817 rfl rfl), (tb_w 818 rfl rfl), ⟨_, _, rfl⟩, ⟨by decide +kernel, rfl⟩⟩, fun h => absurd h (by decide)⟩
set_option maxRecDepth 20000 in
theorem kf_95 : g_Q 95 := fun xs => ⟨fun h => absurd h (by decide), fun _ => ⟨⟨(tb_w 11 rfl rfl), (tb_w 823 rfl rfl), by decide +kernel, by decide +kernel, (show (parseMethodDescriptor (g_y 95).desc).map (fun d => d.parameters.length) = some 1 by decide +kernel)⟩, (tb_w 822 rfl rfl), (tb_s 60 rfl rfl), ⟨_, _, rfl⟩, ⟨by decide +kernel, rfl⟩⟩, fun h => absurd h (by decide)⟩
set_option maxRecDepth 20000 in
theorem kf_96 : g_Q 96 := fun xs => ⟨fun h => absurd h (by decide), fun _ => ⟨⟨(tb_w 11 rfl rfl), (tb_w 827 rfl rfl), by decide +kernel, by decide +kernel, (show (parseMethodDescriptor (g_y 96).desc).map (fun d => d.parameters.length) = some 3 by decide +kernel)⟩, (tb_w 826 rfl rfl), (tb_s 61 rfl rfl), ⟨_, _, rfl⟩, ⟨by decide +kernel, rfl⟩⟩, fun h => absurd h (by decide)⟩
set_option maxRecDepth 20000 in
theorem kf_97 : g_Q 97 := fun xs => ⟨fun h => absurd h (by decide), fun _ => ⟨⟨(tb_w 1 rfl rfl), (tb_w 832 rfl rfl), by decide +kernel, by decide +kernel, (show (parseMethodDescriptor (g_y 97).desc).map (fun d => d.parameters.length) = some 2 by decide +kernel)⟩, (tb_w 830 rfl rfl), (tb_w 831 rfl rfl), ⟨_, _, rfl⟩, ⟨by decide +kernel, rfl⟩⟩, fun h => absurd h (by decide)⟩
set_option maxRecDepth 20000 in
theorem kf_98 : g_Q 98 := fun xs => ⟨fun h => absurd h (by decide), fun _ => ⟨⟨(tb_w 1 rfl rfl), (tb_w 838 rfl rfl), by decide +kernel, by decide +kernel, (show (parseMethodDescriptor (g_y 98).desc).map (fun d => d.parameters.length) = some 3 by decide +kernel)⟩, (tb_w 836 rfl rfl), (tb_w 837 rfl rfl), ⟨_, _, rfl⟩, ⟨by decide +kernel, rfl⟩⟩, fun h => absurd h (by decide)⟩
set_option maxRecDepth 20000 in
theorem kf_99 : g_Q 99 := fun xs => ⟨fun h => absurd h (by decide), fun _ => ⟨⟨(tb_w 7 rfl rfl), (tb_w 842 rfl rfl), by decide +kernel, by decide +kernel, (show (parseMethodDescriptor (g_y 99).desc).map (fun d => d.parameters.length) = some 1 by decide +kernel)⟩, (tb_w 841 rfl rfl), (tb_s 62 rfl rfl), ⟨_, _, rfl⟩, ⟨by decide +kernel, rfl⟩⟩, fun h => absurd h (by decide)⟩
set_option maxRecDepth 20000 in
theorem kf_100 : g_Q 100 := fun xs => ⟨fun h => absurd h (by decide), fun _ => ⟨⟨(tb_w 8 rfl rfl), (tb_w 846 rfl rfl), by decide +kernel, by decide +kernel, (show (parseMethodDescriptor (g_y 100).desc).map (fun d => d.parameters.length) = some 1 by decide +kernel)⟩, (tb_w 845 rfl rfl), (tb_s 63 rfl rfl), ⟨_, _, rfl⟩, ⟨by decide +kernel, rfl⟩⟩, fun h => absurd h (by decide)⟩
set_option maxRecDepth 20000 in
theorem kf_101 : g_Q 101 := fun xs => ⟨fun h => absurd h (by decide), fun _ => ⟨⟨(tb_w 1 rfl rfl), (tb_w 850 rfl rfl), by decide +kernel, by decide +kernel, (show (parseMethodDescriptor (g_y 101).desc).map (fun d => d.parameters.length) = some 4 by decide +kernel)⟩, (tb_w 848 rfl rfl), (tb_w 849 rfl rfl), ⟨_, _, rfl⟩, ⟨by decide +kernel, rfl⟩⟩, fun h => absurd h (by decide)⟩
set_option maxRecDepth 20000 in
theorem kf_102 : g_Q 102 := fun xs => ⟨fun _ => ⟨⟨(tb_w 1 rfl rfl), (tb_w 853 rfl rfl), by decide +kernel, by decide +kernel, (show (parseMethodDescriptor (g_y 102).desc).map (fun d => d.parameters.length) = some 1 by decide +kernel)⟩, (tb_w 852 rfl rfl), ⟨by decide +kernel, rfl⟩⟩, fun h => absurd h (by decide), fun h => absurd h (by decide)⟩
set_option maxRecDepth 20000 in
theorem kf_103 : g_Q 103 := fun xs => ⟨fun _ => ⟨⟨(tb_w 1 rfl rfl), (tb_w 856 rfl rfl), by decide +kernel, by decide +kernel, (show (parseMethodDescriptor (g_y 103).desc).map (fun d => d.parameters.length) = some 2 by decide +kernel)⟩, (tb_w 855 rfl rfl), ⟨by decide +kernel, rfl⟩⟩, fun h => absurd h (by decide), fun h => absurd h (by decide)⟩
set_option maxRecDepth 20000 in
theorem kf_104 : g_Q 104 := fun xs => ⟨fun h => absurd h (by decide), fun _ => ⟨⟨(tb_w 1 rfl rfl), (tb_w 861 rfl rfl), by decide +kernel, by decide +kernel, (show (parseMethodDescriptor (g_y 104).desc).map (fun d => d.parameters.length) = some 0 by decide +kernel)⟩, (tb_w 860 rfl rfl), (tb_s 64 rfl rfl), ⟨_, _, rfl⟩, ⟨by decide +kernel, rfl⟩⟩, fun h => absurd h (by decide)⟩
set_option maxRecDepth 20000 in
theorem kf_105 : g_Q 105 := fun xs => ⟨fun h => absurd h (by decide), fun _ => ⟨⟨(tb_w 6 rfl rfl), (tb_w 865 rfl rfl), by decide +kernel, by decide +kernel, (show (parseMethodDescriptor (g_y 105).desc).map (fun d => d.parameters.length) = some 1 by decide +kernel)⟩, (tb_w 864 rfl rfl), (tb_s 65 rfl rfl), ⟨_, _, rfl⟩, ⟨by decide +kernel, rfl⟩⟩, fun h => absurd h (by decide)⟩
set_option maxRecDepth 20000 in
theorem kf_106 : g_Q 106 := fun xs => ⟨fun h => absurd h (by decide), fun _ => ⟨⟨(tb_w 7 rfl rfl), (tb_w 869 rfl rfl), by decide +kernel, by decide +kernel, (show (parseMethodDescriptor (g_y 106).desc).map (fun d => d.parameters.length) = some 1 by decide +kernel)⟩, (tb_w 868 rfl rfl), (tb_s 66 rfl rfl), ⟨_, _, rfl⟩, ⟨by decide +kernel, rfl⟩⟩, fun h => absurd h (by decide)⟩
set_option maxRecDepth 20000 in
theorem kf_107 : g_Q 107 := fun xs => ⟨fun h => absurd h (by decide), fun _ => ⟨⟨(tb_w 8 rfl rfl), (tb_w 873 rfl rfl), by decide +kernel, by decide +kernel, (show (parseMethodDescriptor (g_y 107).desc).map (fun d => d.parameters.length) = some 1 by decide +kernel)⟩, (tb_w 872 rfl rfl), (tb_s 67 rfl rfl), ⟨_, _, rfl⟩, ⟨by decide +kernel, rfl⟩⟩, fun h => absurd h (by decide)⟩
set_option maxRecDepth 20000 in
theorem kf_108 : g_Q 108 := fun xs => ⟨fun h => absurd h (by decide), fun _ => ⟨⟨(tb_w 1 rfl rfl), (tb_w 879 rfl rfl), by decide +kernel, by decide +kernel, (show (parseMethodDescriptor (g_y 108).desc).map (fun d => d.parameters.length) = some 2 by decide +kernel)⟩, (tb_w 877 rfl rfl), (tb_w 878 rfl rfl), ⟨_, _, rfl⟩, ⟨by decide +kernel, rfl⟩⟩, fun h => absurd h (by decide)⟩
set_option maxRecDepth 20000 in
theorem kf_109 : g_Q 109 := fun xs => ⟨fun h => absurd h (by decide), fun _ => ⟨⟨(tb_w 1 rfl rfl), (tb_w 883 rfl rfl), by decide +kernel, by decide +kernel, (show (parseMethodDescriptor (g_y 109).desc).map (fun d => d.parameters.length) = some 2 by decide +kernel)⟩, (tb_w 882 rfl rfl), (tb_s 68 rfl rfl), ⟨_, _, rfl⟩, ⟨by decide +kernel, rfl⟩⟩, fun h => absurd h (by decide)⟩
set_option maxRecDepth 20000 in
theorem kf_110 : g_Q 110 := fun xs => ⟨fun h => absurd h (by decide), fun _ => ⟨⟨(tb_w 8 rfl rfl), (tb_w 887 rfl rfl), by decide +kernel, by decide +kernel, (show (parseMethodDescriptor (g_y 110).desc).map (fun d => d.parameters.length) = some 1 by decide +kernel)⟩, (tb_w 886 rfl rfl), (tb_s 69 rfl rfl), ⟨_, _, rfl⟩, ⟨by decide +kernel, rfl⟩⟩, fun h => absurd h (by decide)⟩
set_option maxRecDepth 20000 in
theorem kf_111 : g_Q 111 := fun xs => ⟨fun h => absurd h (by decide), fun _ => ⟨⟨(tb_w 1 rfl rfl), (tb_w 892 rfl rfl), by decide +kernel, by decide +kernel, (show (parseMethodDescriptor (g_y 111).desc).map (fun d => d.parameters.length) = some 2 by decide +kernel)⟩, (tb_w 890 rfl rfl), (tb_w 891 rfl rfl), ⟨_, _, rfl⟩, ⟨by decide +kernel, rfl⟩⟩, fun h => absurd h (by decide)⟩
set_option maxRecDepth 20000 in
theorem kf_112 : g_Q 112 := fun xs => ⟨fun h => absurd h (by decide), fun _ => ⟨⟨(tb_w 8 rfl rfl), (tb_w 896 rfl rfl), by decide +kernel, by decide +kernel, (show (parseMethodDescriptor (g_y 112).desc).map (fun d => d.parameters.length) = some 2 by decide +kernel)⟩, (tb_w 895 rfl rfl), (tb_s 70 rfl rfl), ⟨_, _, rfl⟩, ⟨by decide +kernel, rfl⟩⟩, fun h => absurd h (by decide)⟩
set_option maxRecDepth 20000 in
theorem kf_113 : g_Q 113 := fun xs => ⟨fun h => absurd h (by decide), fun _ => ⟨⟨(tb_w 1 rfl rfl), (tb_w 900 rfl rfl), by decide +kernel, by decide +kernel, (show (parseMethodDescriptor (g_y 113).desc).map (fun d => d.parameters.length) = some 1 by decide +kernel)⟩, (tb_w 898 rfl rfl), (tb_w 899 rfl rfl), ⟨_, _, rfl⟩, ⟨by decide +kernel, rfl⟩⟩, fun h => absurd h (by decide)⟩
set_option maxRecDepth 20000 in
theorem kf_114 : g_Q 114 := fun xs => ⟨fun h => absurd h (by decide), fun _ => ⟨⟨(tb_w 1 rfl rfl), (tb_w 904 rfl rfl), by decide +kernel, by decide +kernel, (show (parseMethodDescriptor (g_y 114).desc).map (fun d => d.parameters.length) = some 1 by decide +kernel)⟩, (tb_w 902 rfl rfl), (tb_w 903 rfl rfl), ⟨_, _, rfl⟩, ⟨by decide +kernel, rfl⟩⟩, fun h => absurd h (by decide)⟩
set_option maxRecDepth 20000 in
theorem kf_115 : g_Q 115 := fun xs => ⟨fun h => absurd h (by decide), fun _ => ⟨⟨(tb_w 1 rfl rfl), (tb_w 908 rfl rfl), by decide +kernel, by decide +kernel, (show (parseMethodDescriptor (g_y 115).desc).map (fun d => d.parameters.length) = some 1 by decide +kernel)⟩, (tb_w 906 rfl rfl), (tb_w 907 rfl rfl), ⟨_, _, rfl⟩, ⟨by decide +kernel, rfl⟩⟩, fun h => absurd h (by decide)⟩
set_option maxRecDepth 20000 in
theorem kf_116 : g_Q 116 := fun xs => ⟨fun h => absurd h (by decide), fun _ => ⟨⟨(tb_w 1 rfl rfl), (tb_w 912 rfl rfl), by decide +kernel, by decide +kernel, (show (parseMethodDescriptor (g_y 116).desc).map (fun d => d.parameters.length) = some 2 by decide +kernel)⟩, (tb_w 910 rfl rfl), (tb_w 911 rfl rfl), ⟨_, _, rfl⟩, ⟨by decide +kernel, rfl⟩⟩, fun h => absurd h (by decide)⟩
set_option maxRecDepth 20000 in
theorem kf_117 : g_Q 117 := fun xs => ⟨fun h => absurd h (by decide), fun _ => ⟨⟨(tb_w 8 rfl rfl), (tb_w 916 rfl rfl), by decide +kernel, by decide +kernel, (show (parseMethodDescriptor (g_y 117).desc).map (fun d => d.parameters.length) = some 2 by decide +kernel)⟩, (tb_w 915 rfl rfl), (tb_s 71 rfl rfl), ⟨_, _, rfl⟩, ⟨by decide +kernel, rfl⟩⟩, fun h => absurd h (by decide)⟩
set_option maxRecDepth 20000 in
theorem kf_118 : g_Q 118 := fun xs => ⟨fun h => absurd h (by decide), fun _ => ⟨⟨(tb_w 1 rfl rfl), (tb_w 920 rfl rfl), by decide +kernel, by decide +kernel, (show (parseMethodDescriptor (g_y 118).desc).map (fun d => d.parameters.length) = some 0 by decide +kernel)⟩, (tb_w 918 rfl rfl), (tb_w 919 rfl rfl), ⟨_, _, rfl⟩, ⟨by decide +kernel, rfl⟩⟩, fun h => absurd h (by decide)⟩
set_option maxRecDepth 20000 in
theorem kf_119 : g_Q 119 := fun xs => ⟨fun h => absurd h (by decide), fun _ => ⟨⟨(tb_w 6 rfl rfl), (tb_w 924 rfl rfl), by decide +kernel, by decide +kernel, (show (parseMethodDescriptor (g_y 119).desc).map (fun d => d.parameters.length) = some 1 by decide +kernel)⟩, (tb_w 923 rfl rfl), (tb_s 72 rfl rfl), ⟨_, _, rfl⟩, ⟨by decide +kernel, rfl⟩⟩, fun h => absurd h (by decide)⟩
set_option maxRecDepth 20000 in
theorem kf_120 : g_Q 120 := fun xs => ⟨fun h => absurd h (by decide), fun _ => ⟨⟨(tb_w 1 rfl rfl), (tb_w 928 rfl rfl), by decide +kernel, by decide +kernel, (show (parseMethodDescriptor (g_y 120).desc).map (fun d => d.parameters.length) = some 3 by decide +kernel)⟩, (tb_w 926 rfl rfl), (tb_w 927 rfl rfl), ⟨_, _, rfl⟩, ⟨by decide +kernel, rfl⟩⟩, fun h => absurd h (by decide)⟩
set_option maxRecDepth 20000 in
theorem kf_121 : g_Q 121 := fun xs => ⟨fun h => absurd h (by decide), fun _ => ⟨⟨(tb_w 1 rfl rfl), (tb_w 932 rfl rfl), by decide +kernel, by decide +kernel, (show (parseMethodDescriptor (g_y 121).desc).map (fun d => d.parameters.length) = some 2 by decide +kernel)⟩, (tb_w 931 rfl rfl), (tb_s 73 rfl rfl), ⟨_, _, rfl⟩, ⟨by decide +kernel, rfl⟩⟩, fun h => absurd h (by decide)⟩
set_option maxRecDepth 20000 in
theorem kf_122 : g_Q 122 := fun xs => ⟨fun h => absurd h (by decide), fun _ => ⟨⟨(tb_w 1 rfl rfl), (tb_w 936 rfl rfl), by decide +kernel, by decide +kernel, (show (parseMethodDescriptor (g_y 122).desc).map (fun d => d.parameters.length) = some 0 by decide +kernel)⟩, (tb_w 935 rfl rfl), (tb_s 74 rfl rfl), ⟨_, _, rfl⟩, ⟨by decide +kernel, rfl⟩⟩, fun h => absurd h (by decide)⟩
set_option maxRecDepth 20000 in
theorem kf_123 : g_Q 123 := fun xs => ⟨fun h => absurd h (by decide), fun _ => ⟨⟨(tb_w 10 rfl rfl), (tb_w 940 rfl rfl), by decide +kernel, by decide +kernel, (show (parseMethodDescriptor (g_y 123).desc).map (fun d => d.parameters.length) = some 0 by decide +kernel)⟩, (tb_w 939 rfl rfl), (tb_s 75 rfl rfl), ⟨_, _, rfl⟩, ⟨by decide +kernel, rfl⟩⟩, fun h => absurd h (by decide)⟩
set_option maxRecDepth 20000 in
theorem kf_124 : g_Q 124 := fun xs => ⟨fun h => absurd h (by decide), fun _ => ⟨⟨(tb_w 12 rfl rfl), (tb_w 945 rfl rfl), by decide +kernel, by decide +kernel, (show (parseMethodDescriptor (g_y 124).desc).map (fun d => d.parameters.length) = some 2 by decide +kernel)⟩, (tb_w 944 rfl rfl), (tb_s 76 rfl rfl), ⟨_, _, rfl⟩, ⟨by decide +kernel, rfl⟩⟩, fun h => absurd h (by decide)⟩
set_option maxRecDepth 20000 in
theorem kf_125 : g_Q 125 := fun xs => ⟨fun h => absurd h (by decide), fun _ => ⟨⟨(tb_w 12 rfl rfl), (tb_w 949 rfl rfl), by decide +kernel, by decide +kernel, (show (parseMethodDescriptor (g_y 125).desc).map (fun d => d.parameters.length) = some 0 by decide +kernel)⟩, (tb_w 948 rfl rfl), (tb_s 77 rfl rfl), ⟨_, _, rfl⟩, ⟨by decide +kernel, rfl⟩⟩, fun h => absurd h (by decide)⟩
set_option maxRecDepth 20000 in
theorem kf_126 : g_Q 126 := fun xs => ⟨fun h => absurd h (by decide), fun _ => ⟨⟨(tb_w 12 rfl rfl), (tb_w 956 rfl rfl), by decide +kernel, by decide +kernel, (show (parseMethodDescriptor (g_y 126).desc).map (fun d => d.parameters.length) = some 2 by decide +kernel)⟩, (tb_w 955 rfl rfl), (tb_s 78 rfl rfl), ⟨_, _, rfl⟩, ⟨by decide +kernel, rfl⟩⟩, fun h => absurd h (by decide)⟩
set_option maxRecDepth 20000 in
theorem kf_127 : g_Q 127 := fun xs => ⟨fun h => absurd h (by decide), fun _ => ⟨⟨(tb_w 12 rfl rfl), (tb_w 960 rfl rfl), by decide +kernel, by decide +kernel, (show (parseMethodDescriptor (g_y 127).desc).map (fun d => d.parameters.length) = some 2 by decide +kernel)⟩, (tb_w 959 rfl rfl), (tb_s 79 rfl rfl), ⟨_, _, rfl⟩, ⟨by decide +kernel, rfl⟩⟩, fun h => absurd h (by decide)⟩
set_option maxRecDepth 20000 in
theorem kf_128 : g_Q 128 := fun xs => ⟨fun h => absurd h (by decide), fun _ => ⟨⟨(tb_w 1 rfl rfl), (tb_w 965 rfl rfl), by decide +kernel, by decide +kernel, (show (parseMethodDescriptor (g_y 128).desc).map (fun d => d.parameters.length) = some 0 by decide +kernel)⟩, (tb_w 964 rfl rfl), (tb_s 80 rfl rfl), ⟨_, _, rfl⟩, ⟨by decide +kernel, rfl⟩⟩, fun h => absurd h (by decide)⟩
set_option maxRecDepth 20000 in
theorem kf_129 : g_Q 129 := fun xs => ⟨fun h => absurd h (by decide), fun _ => ⟨⟨(tb_w 11 rfl rfl), (tb_w 969 rfl rfl), by decide +kernel, by decide +kernel, (show (parseMethodDescriptor (g_y 129).desc).map (fun d => d.parameters.length) = some 0 by decide +kernel)⟩, (tb_w 968 rfl rfl), (tb_s 81 rfl rfl), ⟨_, _, rfl⟩, ⟨by decide +kernel, rfl⟩⟩, fun h => absurd h (by decide)⟩
set_option maxRecDepth 20000 in
theorem kf_130 : g_Q 130 := fun xs => ⟨fun h => absurd h (by decide), fun _ => ⟨⟨(tb_w 12 rfl rfl), (tb_w 973 rfl rfl), by decide +kernel, by decide +kernel, (show (parseMethodDescriptor (g_y 130).desc).map (fun d => d.parameters.length) = some 2 by decide +kernel)⟩, (tb_w 972 rfl rfl), (tb_s 82 rfl rfl), ⟨_, _, rfl⟩, ⟨by decide +kernel, rfl⟩⟩, fun h => absurd h (by decide)⟩
set_option maxRecDepth 20000 in
theorem kf_131 : g_Q 131 := fun xs => ⟨fun h => absurd h (by decide), fun _ => ⟨⟨(tb_w 12 rfl rfl), (tb_w 977 rfl rfl), by decide +kernel, by decide +kernel, (show (parseMethodDescriptor (g_y 131).desc).map (fun d => d.parameters.length) = some 0 by decide +kernel)⟩, (tb_w 976 rfl rfl), (tb_s 83 rfl rfl), ⟨_, _, rfl⟩, ⟨by decide +kernel, rfl⟩⟩, fun h => absurd h (by decide)⟩
set_option maxRecDepth 20000 in
theorem kf_132 : g_Q 132 := fun xs => ⟨fun h => absurd h (by decide), fun _ => ⟨⟨(tb_w 11 rfl rfl), (tb_w 981 rfl rfl), by decide +kernel, by decide +kernel, (show (parseMethodDescriptor (g_y 132).desc).map (fun d => d.parameters.length) = some 2 by decide +kernel)⟩, (tb_w 980 rfl rfl), (tb_s 84 rfl rfl), ⟨_, _, rfl⟩, ⟨by decide +kernel, rfl⟩⟩, fun h => absurd h (by decide)⟩
set_option maxRecDepth 20000 in
theorem kf_133 : g_Q 133 := fun xs => ⟨fun h => absurd h (by decide), fun _ => ⟨⟨(tb_w 11 rfl rfl), (tb_w 985 rfl rfl), by decide +kernel, by decide +kernel, (show (parseMethodDescriptor (g_y 133).desc).map (fun d => d.parameters.length) = some 4 by decide +kernel)⟩, (tb_w 984 rfl rfl), (tb_s 85 rfl rfl), ⟨_, _, rfl⟩, ⟨by decide +kernel, rfl⟩⟩, fun h => absurd h (by decide)⟩
set_option maxRecDepth 20000 in
theorem kf_134 : g_Q 134 := fun xs => ⟨fun h => absurd h (by decide), fun _ => ⟨⟨(tb_w 12 rfl rfl), (tb_w 989 rfl rfl), by decide +kernel, by decide +kernel, (show (parseMethodDescriptor (g_y 134).desc).map (fun d => d.parameters.length) = some 0 by decide +kernel)⟩, (tb_w 988 rfl rfl), (tb_s 86 rfl rfl), ⟨_, _, rfl⟩, ⟨by decide +kernel, rfl⟩⟩, fun h => absurd h (by decide)⟩
set_option maxRecDepth 20000 in
theorem kf_135 : g_Q 135 := fun xs => ⟨fun h => absurd h (by decide), fun _ => ⟨⟨(tb_w 12 rfl rfl), (tb_w 993 rfl rfl), by decide +kernel, by decide +kernel, (show (parseMethodDescriptor (g_y 135).desc).map (fun d => d.parameters.length) = some 0 by decide +kernel)⟩, (tb_w 992 rfl rfl), (tb_s 87 rfl rfl), ⟨_, _, rfl⟩, ⟨by decide +kernel, rfl⟩⟩, fun h => absurd h (by decide)⟩
set_option maxRecDepth 20000 in
theorem kf_136 : g_Q 136 := fun xs => ⟨fun h => absurd h (by decide), fun _ => ⟨⟨(tb_w 12 rfl rfl), (tb_w 997 rfl rfl), by decide +kernel, by decide +kernel, (show (parseMethodDescriptor (g_y 136).desc).map (fun d => d.parameters.length) = some 1 by decide +kernel)⟩, (tb_w 996 rfl rfl), (tb_s 88 rfl rfl), ⟨_, _, rfl⟩, ⟨by decide +kernel, rfl⟩⟩, fun h => absurd h (by decide)⟩
set_option maxRecDepth 20000 in
theorem kf_137 : g_Q 137 := fun xs => ⟨fun h => absurd h (by decide), fun _ => ⟨⟨(tb_w 12 rfl rfl), (tb_w 1001 rfl rfl), by decide +kernel, by decide +kernel, (show (parseMethodDescriptor (g_y 137).desc).map (fun d => d.parameters.length) = some 1 by decide +kernel)⟩, (tb_w 1000 rfl rfl), (tb_s 89 rfl rfl), ⟨_, _, rfl⟩, ⟨by decide +kernel, rfl⟩⟩, fun h => absurd h (by decide)⟩
set_option maxRecDepth 20000 in
theorem kf_138 : g_Q 138 := fun xs => ⟨fun _ => ⟨⟨(tb_w 3 rfl rfl), (tb_w 1004 rfl rfl), by decide +kernel, by decide +kernel, (show (parseMethodDescriptor (g_y 138).desc).map (fun d => d.parameters.length) = some 2 by decide +kernel)⟩, (tb_w 1003 rfl rfl), ⟨by decide +kernel, rfl⟩⟩, fun h => absurd h (by decide), fun h => absurd h (by decide)⟩
set_option maxRecDepth 20000 in
theorem kf_139 : g_Q 139 := fun xs => ⟨fun h => absurd h (by decide), fun _ => ⟨⟨(tb_w 12 rfl rfl), (tb_w 1008 rfl rfl), by decide +kernel, by decide +kernel, (show (parseMethodDescriptor (g_y 139).desc).map (fun d => d.parameters.length) = some 2 by decide +kernel)⟩, (tb_w 1007 rfl rfl), (tb_s 90 rfl rfl), ⟨_, _, rfl⟩, ⟨by decide +kernel, rfl⟩⟩, fun h => absurd h (by decide)⟩
set_option maxRecDepth 20000 in
theorem kf_140 : g_Q 140 := fun xs => ⟨fun h => absurd h (by decide), fun _ => ⟨⟨(tb_w 1 rfl rfl), (tb_w 1012 rfl rfl), by decide +kernel, by decide +kernel, (show (parseMethodDescriptor (g_y 140).desc).map (fun d => d.parameters.length) = some 1 by decide +kernel)⟩, (tb_w 1010 rfl rfl), (tb_w 1011 rfl rfl), ⟨_, _, rfl⟩, ⟨by decide +kernel, rfl⟩⟩, fun h => absurd h (by decide)⟩
set_option maxRecDepth 20000 in
theorem kf_141 : g_Q 141 := fun xs => ⟨fun h => absurd h (by decide), fun _ => ⟨⟨(tb_w 12 rfl rfl), (tb_w 1016 rfl rfl), by decide +kernel, by decide +kernel, (show (parseMethodDescriptor (g_y 141).desc).map (fun d => d.parameters.length) = some 1 by decide +kernel)⟩, (tb_w 1015 rfl rfl), (tb_s 91 rfl rfl), ⟨_, _, rfl⟩, ⟨by decide +kernel, rfl⟩⟩, fun h => absurd h (by decide)⟩
set_option maxRecDepth 20000 in
theorem kf_142 : g_Q 142 := fun xs => ⟨fun h => absurd h (by decide), fun _ => ⟨⟨(tb_w 12 rfl rfl), (tb_w 1020 rfl rfl), by decide +kernel, by decide +kernel, (show (parseMethodDescriptor (g_y 142).desc).map (fun d => d.parameters.length) = some 2 by decide +kernel)⟩, (tb_w 1019 rfl rfl), (tb_s 92 rfl rfl), ⟨_, _, rfl⟩, ⟨by decide +kernel, rfl⟩⟩, fun h => absurd h (by decide)⟩
set_option maxRecDepth 20000 in
theorem kf_143 : g_Q 143 := fun xs => ⟨fun _ => ⟨⟨(tb_w 3 rfl rfl), (tb_w 1023 rfl rfl), by decide +kernel, by decide +kernel, (show (parseMethodDescriptor (g_y 143).desc).map (fun d => d.parameters.length) = some 1 by decide +kernel)⟩, (tb_w 1022 rfl rfl), ⟨by decide +kernel, rfl⟩⟩, fun h => absurd h (by decide), fun h => absurd h (by decide)⟩
set_option maxRecDepth 20000 in
theorem kf_144 : g_Q 144 := fun xs => ⟨fun h => absurd h (by decide), fun _ => ⟨⟨(tb_w 12 rfl rfl), (tb_w 1027 rfl rfl), by decide +kernel, by decide +kernel, (show (parseMethodDescriptor (g_y 144).desc).map (fun d => d.parameters.length) = some 0 by decide +kernel)⟩, (tb_w 1026 rfl rfl), (tb_s 93 rfl rfl), ⟨_, _, rfl⟩, ⟨by decide +kernel, rfl⟩⟩, fun h => absurd h (by decide)⟩
set_option maxRecDepth 20000 in
theorem kf_145 : g_Q 145 := fun xs => ⟨fun h => absurd h (by decide), fun _ => ⟨⟨(tb_w 12 rfl rfl), (tb_w 1031 rfl rfl), by decide +kernel, by decide +kernel, (show (parseMethodDescriptor (g_y 145).desc).map (fun d => d.parameters.length) = some 0 by decide +kernel)⟩, (tb_w 1030 rfl rfl), (tb_s 94 rfl rfl), ⟨_, _, rfl⟩, ⟨by decide +kernel, rfl⟩⟩, fun h => absurd h (by decide)⟩
set_option maxRecDepth 20000 in
theorem kf_146 : g_Q 146 := fun xs => ⟨fun h => absurd h (by decide), fun _ => ⟨⟨(tb_w 1 rfl rfl), (tb_w 1036 rfl rfl), by decide +kernel, by decide +kernel, (show (parseMethodDescriptor (g_y 146).desc).map (fun d => d.parameters.length) = some 1 by decide +kernel)⟩, (tb_w 1034 rfl rfl), (tb_w 1035 rfl rfl), ⟨_, _, rfl⟩, ⟨by decide +kernel, rfl⟩⟩, fun h => absurd h (by decide)⟩
set_option maxRecDepth 20000 in
theorem kf_147 : g_Q 147 := fun xs => ⟨fun h => absurd h (by decide), fun _ => ⟨⟨(tb_w 12 rfl rfl), (tb_w 1041 rfl rfl), by decide +kernel, by decide +kernel, (show (parseMethodDescriptor (g_y 147).desc).map (fun d => d.parameters.length) = some 1 by decide +kernel)⟩, (tb_w 1040 rfl rfl), (tb_s 95 rfl rfl), ⟨_, _, rfl⟩, ⟨by decide +kernel, rfl⟩⟩, fun h => absurd h (by decide)⟩
set_option maxRecDepth 20000 in
theorem kf_148 : g_Q 148 := fun xs => ⟨fun h => absurd h (by decide), fun _ => ⟨⟨(tb_w 12 rfl rfl), (tb_w 1045 rfl rfl), by decide +kernel, by decide +kernel, (show (parseMethodDescriptor (g_y 148).desc).map (fun d => d.parameters.length) = some 1 by decide +kernel)⟩, (tb_w 1044 rfl rfl), (tb_s 96 rfl rfl), ⟨_, _, rfl⟩, ⟨by decide +kernel, rfl⟩⟩, fun h => absurd h (by decide)⟩
set_option maxRecDepth 20000 in
theorem kf_149 : g_Q 149 := fun xs => ⟨fun h => absurd h (by decide), fun _ => ⟨⟨(tb_w 12 rfl rfl), (tb_w 1049 rfl rfl), by decide +kernel, by decide +kernel, (show (parseMethodDescriptor (g_y 149).desc).map (fun d => d.parameters.length) = some 2 by decide +kernel)⟩, (tb_w 1048 rfl rfl), (tb_s 97 rfl rfl), ⟨_, _, rfl⟩, ⟨by decide +kernel, rfl⟩⟩, fun h => absurd h (by decide)⟩
set_option maxRecDepth 20000 in
theorem kf_150 : g_Q 150 := fun xs => ⟨fun h => absurd h (by decide), fun _ => ⟨⟨(tb_w 11 rfl rfl), (tb_w 1053 rfl rfl), by decide +kernel, by decide +kernel, (show (parseMethodDescriptor (g_y 150).desc).map (fun d => d.parameters.length) = some 2 by decide +kernel)⟩, (tb_w 1052 rfl rfl), (tb_s 98 rfl rfl), ⟨_, _, rfl⟩, ⟨by decide +kernel, rfl⟩⟩, fun h => absurd h (by decide)⟩
set_option maxRecDepth 20000 in
theorem kf_151 : g_Q 151 := fun xs => ⟨fun h => absurd h (by decide), fun _ => ⟨⟨(tb_w 1 rfl rfl), (tb_w 1057 rfl rfl), by decide +kernel, by decide +kernel, (show (parseMethodDescriptor (g_y 151).desc).map (fun d => d.parameters.length) = some 2 by decide +kernel)⟩, (tb_w 1055 rfl rfl), (tb_w 1056 rfl rfl), ⟨_, _, rfl⟩, ⟨by decide +kernel, rfl⟩⟩, fun h => absurd h (by decide)⟩
set_option maxRecDepth 20000 in
theorem kf_152 : g_Q 152 := fun xs => ⟨fun h => absurd h (by decide), fun _ => ⟨⟨(tb_w 12 rfl rfl), (tb_w 1061 rfl rfl), by decide +kernel, by decide +kernel, (show (parseMethodDescriptor (g_y 152).desc).map (fun d => d.parameters.length) = some 0 by decide +kernel)⟩, (tb_w 1060 rfl rfl), (tb_s 99 rfl rfl), ⟨_, _, rfl⟩, ⟨by decide +kernel, rfl⟩⟩, fun h => absurd h (by decide)⟩
set_option maxRecDepth 20000 in
theorem kf_153 : g_Q 153 := fun xs => ⟨fun h => absurd h (by decide), fun _ => ⟨⟨(tb_w 12 rfl rfl), (tb_w 1068 rfl rfl), by decide +kernel, by decide +kernel, (show (parseMethodDescriptor (g_y 153).desc).map (fun d => d.parameters.length) = some 2 by decide +kernel)⟩, (tb_w 1067 rfl rfl), (tb_s 100 rfl rfl), ⟨_, _, rfl⟩, ⟨by decide +kernel, rfl⟩⟩, fun h => absurd h (by decide)⟩
set_option maxRecDepth 20000 in
theorem kf_154 : g_Q 154 := fun xs => ⟨fun h => absurd h (by decide), fun _ => ⟨⟨(tb_w 12 rfl rfl), (tb_w 1073 rfl rfl), by decide +kernel, by decide +kernel, (show (parseMethodDescriptor (g_y 154).desc).map (fun d => d.parameters.length) = some 2 by decide +kernel)⟩, (tb_w 1072 rfl rfl), (tb_s 101 rfl rfl), ⟨_, _, rfl⟩, ⟨by decide +kernel, rfl⟩⟩, fun h => absurd h (by decide)⟩
set_option maxRecDepth 20000 in
theorem kf_155 : g_Q 155 := fun xs => ⟨fun h => absurd h (by decide), fun _ => ⟨⟨(tb_w 1 rfl rfl), (tb_w 1080 rfl rfl), by decide +kernel, by decide +kernel, (show (parseMethodDescriptor (g_y 155).desc).map (fun d => d.parameters.length) = some 4 by decide +kernel)⟩, (tb_w 1078 rfl rfl), (tb_w 1079 rfl rfl), ⟨_, _, rfl⟩, ⟨by decide +kernel, rfl⟩⟩, fun h => absurd h (by decide)⟩
set_option maxRecDepth 20000 in
theorem kf_156 : g_Q 156 := fun xs => ⟨fun h => absurd h (by decide), fun _ => ⟨⟨(tb_w 12 rfl rfl), (tb_w 1084 rfl rfl), by decide +kernel, by decide +kernel, (show (parseMethodDescriptor (g_y 156).desc).map (fun d => d.parameters.length) = some 3 by decide +kernel)⟩, (tb_w 1083 rfl rfl), (tb_s 102 rfl rfl), ⟨_, _, rfl⟩, ⟨by decide +kernel, rfl⟩⟩, fun h => absurd h (by decide)⟩
set_option maxRecDepth 20000 in
theorem kf_157 : g_Q 157 := fun xs => ⟨fun h => absurd h (by decide), fun _ => ⟨⟨(tb_w 12 rfl rfl), (tb_w 1088 rfl rfl), by decide +kernel, by decide +kernel, (show (parseMethodDescriptor (g_y 157).desc).map (fun d => d.parameters.length) = some 1 by decide +kernel)⟩, (tb_w 1087 rfl rfl), (tb_s 103 rfl rfl), ⟨_, _, rfl⟩, ⟨by decide +kernel, rfl⟩⟩, fun h => absurd h (by decide)⟩
set_option maxRecDepth 20000 in
theorem kf_158 : g_Q 158 := fun xs => ⟨fun h => absurd h (by decide), fun _ => ⟨⟨(tb_w 11 rfl rfl), (tb_w 1092 rfl rfl), by decide +kernel, by decide +kernel, (show (parseMethodDescriptor (g_y 158).desc).map (fun d => d.parameters.length) = some 3 by decide +kernel)⟩, (tb_w 1091 rfl rfl), (tb_s 104 rfl rfl), ⟨_, _, rfl⟩, ⟨by decide +kernel, rfl⟩⟩, fun h => absurd h (by decide)⟩
set_option maxRecDepth 20000 in
theorem kf_159 : g_Q 159 := fun xs => ⟨fun h => absurd h (by decide), fun _ => ⟨⟨(tb_w 1 rfl rfl), (tb_w 1096 rfl rfl), by decide +kernel, by decide +kernel, (show (parseMethodDescriptor (g_y 159).desc).map (fun d => d.parameters.length) = some 1 by decide +kernel)⟩, (tb_w 1094 rfl rfl), (tb_w 1095 rfl rfl), ⟨_, _, rfl⟩, ⟨by decide +kernel, rfl⟩⟩, fun h => absurd h (by decide)⟩
set_option maxRecDepth 20000 in
theorem kf_160 : g_Q 160 := fun xs => ⟨fun h => absurd h (by decide), fun _ => ⟨⟨(tb_w 12 rfl rfl), (tb_w 1100 rfl rfl), by decide +kernel, by decide +kernel, (show (parseMethodDescriptor (g_y 160).desc).map (fun d => d.parameters.length) = some 0 by decide +kernel)⟩, (tb_w 1099 rfl rfl), (tb_s 105 rfl rfl), ⟨_, _, rfl⟩, ⟨by decide +kernel, rfl⟩⟩, fun h => absurd h (by decide)⟩
set_option maxRecDepth 20000 in
theorem kf_161 : g_Q 161 := fun xs => ⟨fun h => absurd h (by decide), fun _ => ⟨⟨(tb_w 12 rfl rfl), (tb_w 1105 rfl rfl), by decide +kernel, by decide +kernel, (show (parseMethodDescriptor (g_y 161).desc).map (fun d => d.parameters.length) = some 1 by decide +kernel)⟩, (tb_w 1104 rfl rfl), (tb_s 106 rfl rfl), ⟨_, _, rfl⟩, ⟨by decide +kernel, rfl⟩⟩, fun h => absurd h (by decide)⟩
set_option maxRecDepth 20000 in
theorem kf_162 : g_Q 162 := fun xs => ⟨fun h => absurd h (by decide), fun _ => ⟨⟨(tb_w 12 rfl rfl), (tb_w 1109 rfl rfl), by decide +kernel, by decide +kernel, (show (parseMethodDescriptor (g_y 162).desc).map (fun d => d.parameters.length) = some 0 by decide +kernel)⟩, (tb_w 1108 rfl rfl), (tb_s 107 rfl rfl), ⟨_, _, rfl⟩, ⟨by decide +kernel, rfl⟩⟩, fun h => absurd h (by decide)⟩
set_option maxRecDepth 20000 in
theorem kf_163 : g_Q 163 := fun xs => ⟨fun h => absurd h (by decide), fun _ => ⟨⟨(tb_w 12 rfl rfl), (tb_w 1113 rfl rfl), by decide +kernel, by decide +kernel, (show (parseMethodDescriptor (g_y 163).desc).map (fun d => d.parameters.length) = some 0 by decide +kernel)⟩, (tb_w 1112 rfl rfl), (tb_s 108 rfl rfl), ⟨_, _, rfl⟩, ⟨by decide +kernel, rfl⟩⟩, fun h => absurd h (by decide)⟩
set_option maxRecDepth 20000 in
theorem kf_164 : g_Q 164 := fun xs => ⟨fun h => absurd h (by decide), fun _ => ⟨⟨(tb_w 1 rfl rfl), (tb_w 1117 rfl rfl), by decide +kernel, by decide +kernel, (show (parseMethodDescriptor (g_y 164).desc).map (fun d => d.parameters.length) = some 2 by decide +kernel)⟩, (tb_w 1115 rfl rfl), (tb_w 1116 rfl rfl), ⟨_, _, rfl⟩, ⟨by decide +kernel, rfl⟩⟩, fun h => absurd h (by decide)⟩
set_option maxRecDepth 20000 in
theorem kf_165 : g_Q 165 := fun xs => ⟨fun h => absurd h (by decide), fun _ => ⟨⟨(tb_w 1 rfl rfl), (tb_w 1122 rfl rfl), by decide +kernel, by decide +kernel, (show (parseMethodDescriptor (g_y 165).desc).map (fun d => d.parameters.length) = some 2 by decide +kernel)⟩, (tb_w 1120 rfl rfl), (tb_w 1121 rfl rfl), ⟨_, _, rfl⟩, ⟨by decide +kernel, rfl⟩⟩, fun h => absurd h (by decide)⟩
set_option maxRecDepth 20000 in
theorem kf_166 : g_Q 166 := fun xs => ⟨fun h => absurd h (by decide), fun _ => ⟨⟨(tb_w 12 rfl rfl), (tb_w 1126 rfl rfl), by decide +kernel, by decide +kernel, (show (parseMethodDescriptor (g_y 166).desc).map (fun d => d.parameters.length) = some 2 by decide +kernel)⟩, (tb_w 1125 rfl rfl), (tb_s 109 rfl rfl), ⟨_, _, rfl⟩, ⟨by decide +kernel, rfl⟩⟩, fun h => absurd h (by decide)⟩
set_option maxRecDepth 20000 in
theorem kf_167 : g_Q 167 := fun xs => ⟨fun h => absurd h (by decide), fun _ => ⟨⟨(tb_w 1 rfl rfl), (tb_w 1130 rfl rfl), by decide +kernel, by decide +kernel, (show (parseMethodDescriptor (g_y 167).desc).map (fun d => d.parameters.length) = some 0 by decide +kernel)⟩, (tb_w 1128 rfl rfl), (tb_w 1129 rfl rfl), ⟨_, _, rfl⟩, ⟨by decide +kernel, rfl⟩⟩, fun h => absurd h (by decide)⟩
set_option maxRecDepth 20000 in
theorem kf_168 : g_Q 168 := fun xs => ⟨fun h => absurd h (by decide), fun _ => ⟨⟨(tb_w 9 rfl rfl), (tb_w 1134 rfl rfl), by decide +kernel, by decide +kernel, (show (parseMethodDescriptor (g_y 168).desc).map (fun d => d.parameters.length) = some 1 by decide +kernel)⟩, (tb_w 1133 rfl rfl), (tb_s 110 rfl rfl), ⟨_, _, rfl⟩, ⟨by decide +kernel, rfl⟩⟩, fun h => absurd h (by decide)⟩
set_option maxRecDepth 20000 in
theorem kf_169 : g_Q 169 := fun xs => ⟨fun h => absurd h (by decide), fun _ => ⟨⟨(tb_w 1 rfl rfl), (tb_w 1139 rfl rfl), by decide +kernel, by decide +kernel, (show (parseMethodDescriptor (g_y 169).desc).map (fun d => d.parameters.length) = some 1 by decide +kernel)⟩, (tb_w 1137 rfl rfl), (tb_w 1138 rfl rfl), ⟨_, _, rfl⟩, ⟨by decide +kernel, rfl⟩⟩, fun h => absurd h (by decide)⟩
set_option maxRecDepth 20000 in
theorem kf_170 : g_Q 170 := fun xs => ⟨fun h => absurd h (by decide), fun _ => ⟨⟨(tb_w 9 rfl rfl), (tb_w 1143 rfl rfl), by decide +kernel, by decide +kernel, (show (parseMethodDescriptor (g_y 170).desc).map (fun d => d.parameters.length) = some 1 by decide +kernel)⟩, (tb_w 1142 rfl rfl), (tb_s 111 rfl rfl), ⟨_, _, rfl⟩, ⟨by decide +kernel, rfl⟩⟩, fun h => absurd h (by decide)⟩
set_option maxRecDepth 20000 in
theorem kf_171 : g_Q 171 := fun xs => ⟨fun h => absurd h (by decide), fun _ => ⟨⟨(tb_w 9 rfl rfl), (tb_w 1147 rfl rfl), by decide +kernel, by decide +kernel, (show (parseMethodDescriptor (g_y 171).desc).map (fun d => d.parameters.length) = some 1 by decide +kernel)⟩, (tb_w 1146 rfl rfl), (tb_s 112 rfl rfl), ⟨_, _, rfl⟩, ⟨by decide +kernel, rfl⟩⟩, fun h => absurd h (by decide)⟩
set_option maxRecDepth 20000 in
theorem kf_172 : g_Q 172 := fun xs => ⟨fun h => absurd h (by decide), fun _ => ⟨⟨(tb_w 9 rfl rfl), (tb_w 1151 rfl rfl), by decide +kernel, by decide +kernel, (show (parseMethodDescriptor (g_y 172).desc).map (fun d => d.parameters.length) = some 3 by decide +kernel)⟩, (tb_w 1150 rfl rfl), (tb_s 113 rfl rfl), ⟨_, _, rfl⟩, ⟨by decide +kernel, rfl⟩⟩, fun h => absurd h (by decide)⟩
set_option maxRecDepth 20000 in
theorem kf_173 : g_Q 173 := fun xs => ⟨fun h => absurd h (by decide), fun _ => ⟨⟨(tb_w 1 rfl rfl), (tb_w 1157 rfl rfl), by decide +kernel, by decide +kernel, (show (parseMethodDescriptor (g_y 173).desc).map (fun d => d.parameters.length) = some 2 by decide +kernel)⟩, (tb_w 1155 rfl rfl), (tb_w 1156 rfl rfl), ⟨_, _, rfl⟩, ⟨by decide +kernel, rfl⟩⟩, fun h => absurd h (by decide)⟩
set_option maxRecDepth 20000 in
theorem kf_174 : g_Q 174 := fun xs => ⟨fun h => absurd h (by decide), fun _ => ⟨⟨(tb_w 1 rfl rfl), (tb_w 1162 rfl rfl), by decide +kernel, by decide +kernel, (show (parseMethodDescriptor (g_y 174).desc).map (fun d => d.parameters.length) = some 3 by decide +kernel)⟩, (tb_w 1160 rfl rfl), (tb_w 1161 rfl rfl), ⟨_, _, rfl⟩, ⟨by decide +kernel, rfl⟩⟩, fun h => absurd h (by decide)⟩
set_option maxRecDepth 20000 in
theorem kf_175 : g_Q 175 := fun xs => ⟨fun h => absurd h (by decide), fun _ => ⟨⟨(tb_w 12 rfl rfl), (tb_w 1167 rfl rfl), by decide +kernel, by decide +kernel, (show (parseMethodDescriptor (g_y 175).desc).map (fun d => d.parameters.length) = some 3 by decide +kernel)⟩, (tb_w 1166 rfl rfl), (tb_s 114 rfl rfl), ⟨_, _, rfl⟩, ⟨by decide +kernel, rfl⟩⟩, fun h => absurd h (by decide)⟩
set_option maxRecDepth 20000 in
theorem kf_176 : g_Q 176 := fun xs => ⟨fun h => absurd h (by decide), fun _ => ⟨⟨(tb_w 12 rfl rfl), (tb_w 1173 rfl rfl), by decide +kernel, by decide +kernel, (show (parseMethodDescriptor (g_y 176).desc).map (fun d => d.parameters.length) = some 1 by decide +kernel)⟩, (tb_w 1172 rfl rfl), (tb_s 115 rfl rfl), ⟨_, _, rfl⟩, ⟨by decide +kernel, rfl⟩⟩, fun h => absurd h (by decide)⟩
set_option maxRecDepth 20000 in
theorem kf_177 : g_Q 177 := fun xs => ⟨fun h => absurd h (by decide), fun _ => ⟨⟨(tb_w 12 rfl rfl), (tb_w 1177 rfl rfl), by decide +kernel, by decide +kernel, (show (parseMethodDescriptor (g_y 177).desc).map (fun d => d.parameters.length) = some 1 by decide +kernel)⟩, (tb_w 1176 rfl rfl), (tb_s 116 rfl rfl), ⟨_, _, rfl⟩, ⟨by decide +kernel, rfl⟩⟩, fun h => absurd h (by decide)⟩
set_option maxRecDepth 20000 in
theorem kf_178 : g_Q 178 := fun xs => ⟨fun h => absurd h (by decide), fun _ => ⟨⟨(tb_w 1 rfl rfl), (tb_w 1182 rfl rfl), by decide +kernel, by decide +kernel, (show (parseMethodDescriptor (g_y 178).desc).map (fun d => d.parameters.length) = some 1 by decide +kernel)⟩, (tb_w 1180 rfl rfl), (tb_w 1181 rfl rfl), ⟨_, _, rfl⟩, ⟨by decide +kernel, rfl⟩⟩, fun h => absurd h (by decide)⟩
set_option maxRecDepth 20000 in
theorem kf_179 : g_Q 179 := fun xs => ⟨fun h => absurd h (by decide), fun _ => ⟨⟨(tb_w 1 rfl rfl), (tb_w 1186 rfl rfl), by decide +kernel, by decide +kernel, (show (parseMethodDescriptor (g_y 179).desc).map (fun d => d.parameters.length) = some 1 by decide +kernel)⟩, (tb_w 1184 rfl rfl), (tb_w 1185 rfl rfl), ⟨_, _, rfl⟩, ⟨by decide +kernel, rfl⟩⟩, fun h => absurd h (by decide)⟩
set_option maxRecDepth 20000 in
theorem kf_180 : g_Q 180 := fun xs => ⟨fun h => absurd h (by decide), fun _ => ⟨⟨(tb_w 12 rfl rfl), (tb_w 1190 rfl rfl), by decide +kernel, by decide +kernel, (show (parseMethodDescriptor (g_y 180).desc).map (fun d => d.parameters.length) = some 0 by decide +kernel)⟩, (tb_w 1189 rfl rfl), (tb_s 117 rfl rfl), ⟨_, _, rfl⟩, ⟨by decide +kernel, rfl⟩⟩, fun h => absurd h (by decide)⟩
set_option maxRecDepth 20000 in
theorem kf_181 : g_Q 181 := fun xs => ⟨fun h => absurd h (by decide), fun _ => ⟨⟨(tb_w 1 rfl rfl), (tb_w 1194 rfl rfl), by decide +kernel, by decide +kernel, (show (parseMethodDescriptor (g_y 181).desc).map (fun d => d.parameters.length) = some 0 by decide +kernel)⟩, (tb_w 1192 rfl rfl), (tb_w 1193 rfl rfl), ⟨_, _, rfl⟩, ⟨by decide +kernel, rfl⟩⟩, fun h => absurd h (by decide)⟩
set_option maxRecDepth 20000 in
theorem kf_182 : g_Q 182 := fun xs => ⟨fun h => absurd h (by decide), fun _ => ⟨⟨(tb_w 2 rfl rfl), (tb_w 1198 rfl rfl), by decide +kernel, by decide +kernel, (show (parseMethodDescriptor (g_y 182).desc).map (fun d => d.parameters.length) = some 1 by decide +kernel)⟩, (tb_w 1197 rfl rfl), (tb_s 118 rfl rfl), ⟨_, _, rfl⟩, ⟨by decide +kernel, rfl⟩⟩, fun h => absurd h (by decide)⟩
set_option maxRecDepth 20000 in
theorem kf_183 : g_Q 183 := fun xs => ⟨fun h => absurd h (by decide), fun _ => ⟨⟨(tb_w 1 rfl rfl), (tb_w 1203 rfl rfl), by decide +kernel, by decide +kernel, (show (parseMethodDescriptor (g_y 183).desc).map (fun d => d.parameters.length) = some 3 by decide +kernel)⟩, (tb_w 1202 rfl rfl), (tb_s 119 rfl rfl), ⟨_, _, rfl⟩, ⟨by decide +kernel, rfl⟩⟩, fun h => absurd h (by decide)⟩
set_option maxRecDepth 20000 in
theorem kf_184 : g_Q 184 := fun xs => ⟨fun h => absurd h (by decide), fun _ => ⟨⟨(tb_w 2 rfl rfl), (tb_w 1207 rfl rfl), by decide +kernel, by decide +kernel, (show (parseMethodDescriptor (g_y 184).desc).map (fun d => d.parameters.length) = some 1 by decide +kernel)⟩, (tb_w 1206 rfl rfl), (tb_s 120 rfl rfl), ⟨_, _, rfl⟩, ⟨by decide +kernel, rfl⟩⟩, fun h => absurd h (by decide)⟩
set_option maxRecDepth 20000 in
theorem kf_185 : g_Q 185 := fun xs => ⟨fun h => absurd h (by decide), fun _ => ⟨⟨(tb_w 2 rfl rfl), (tb_w 1214 rfl rfl), by decide +kernel, by decide +kernel, (show (parseMethodDescriptor (g_y 185).desc).map (fun d => d.parameters.length) = some 1 by decide +kernel)⟩, (tb_w 1213 rfl rfl), (tb_s 121 rfl rfl), ⟨_, _, rfl⟩, ⟨by decide +kernel, rfl⟩⟩, fun h => absurd h (by decide)⟩
set_option maxRecDepth 20000 in
theorem kf_186 : g_Q 186 := fun xs => ⟨fun h => absurd h (by decide), fun _ => ⟨⟨(tb_w 2 rfl rfl), (tb_w 1223 rfl rfl), by decide +kernel, by decide +kernel, (show (parseMethodDescriptor (g_y 186).desc).map (fun d => d.parameters.length) = some 1 by decide +kernel)⟩, (tb_w 1222 rfl rfl), (tb_s 122 rfl rfl), ⟨_, _, rfl⟩, ⟨by decide +kernel, rfl⟩⟩, fun h => absurd h (by decide)⟩
set_option maxRecDepth 20000 in
theorem kf_187 : g_Q 187 := fun xs => ⟨fun h => absurd h (by decide), fun _ => ⟨⟨(tb_w 1 rfl rfl), (tb_w 1227 rfl rfl), by decide +kernel, by decide +kernel, (show (parseMethodDescriptor (g_y 187).desc).map (fun d => d.parameters.length) = some 1 by decide +kernel)⟩, (tb_w 1225 rfl rfl), (tb_w 1226 rfl rfl), ⟨_, _, rfl⟩, ⟨by decide +kernel, rfl⟩⟩, fun h => absurd h (by decide)⟩
set_option maxRecDepth 20000 in
theorem kf_188 : g_Q 188 := fun xs => ⟨fun h => absurd h (by decide), fun h => absurd h (by decide), fun _ => ⟨⟨(tb_w 13 rfl rfl), (tb_w 1232 rfl rfl), by decide +kernel, by decide +kernel, (show (parseMethodDescriptor (g_y 188).desc).map (fun d => d.parameters.length) = some 0 by decide +kernel)⟩, (tb_w 1231 rfl rfl), rfl, rfl, ⟨by decide +kernel, rfl⟩⟩⟩
set_option maxRecDepth 20000 in
theorem kf_189 : g_Q 189 := fun xs => ⟨fun h => absurd h (by decide), fun _ => ⟨⟨(tb_w 13 rfl rfl), (tb_w 1427 rfl rfl), by decide +kernel, by decide +kernel, (show (parseMethodDescriptor (g_y 189).desc).map (fun d => d.parameters.length) = some 0 by decide +kernel)⟩, (tb_w 1425 rfl rfl), (tb_w 1426 rfl rfl), ⟨_, _, rfl⟩, ⟨by decide +kernel, rfl⟩⟩, fun h => absurd h (by decide)⟩
set_option maxRecDepth 20000 in
theorem kf_190 : g_Q 190 := fun xs => ⟨fun h => absurd h (by decide), fun _ => ⟨⟨(tb_w 13 rfl rfl), (tb_w 1431 rfl rfl), by decide +kernel, by decide +kernel, (show (parseMethodDescriptor (g_y 190).desc).map (fun d => d.parameters.length) = some 1 by decide +kernel)⟩, (tb_w 1429 rfl rfl), (tb_w 1430 rfl rfl), ⟨_, _, rfl⟩, ⟨by decide +kernel, rfl⟩⟩, fun h => absurd h (by decide)⟩
set_option maxRecDepth 20000 in
theorem kf_191 : g_Q 191 := fun xs => ⟨fun _ => ⟨⟨(tb_w 13 rfl rfl), (tb_w 1435 rfl rfl), by decide +kernel, by decide +kernel, (show (parseMethodDescriptor (g_y 191).desc).map (fun d => d.parameters.length) = some 3 by decide +kernel)⟩, (tb_w 1434 rfl rfl), ⟨by decide +kernel, rfl⟩⟩, fun h => absurd h (by decide), fun h => absurd h (by decide)⟩
set_option maxRecDepth 20000 in
theorem kf_192 : g_Q 192 := fun xs => ⟨fun h => absurd h (by decide), fun _ => ⟨⟨(tb_w 13 rfl rfl), (tb_w 1439 rfl rfl), by decide +kernel, by decide +kernel, (show (parseMethodDescriptor (g_y 192).desc).map (fun d => d.parameters.length) = some 1 by decide +kernel)⟩, (tb_w 1438 rfl rfl), (tb_s 123 rfl rfl), ⟨_, _, rfl⟩, ⟨by decide +kernel, rfl⟩⟩, fun h => absurd h (by decide)⟩
set_option maxRecDepth 20000 in
theorem kf_193 : g_Q 193 := fun xs => ⟨fun h => absurd h (by decide), fun _ => ⟨⟨(tb_w 13 rfl rfl), (tb_w 1443 rfl rfl), by decide +kernel, by decide +kernel, (show (parseMethodDescriptor (g_y 193).desc).map (fun d => d.parameters.length) = some 2 by decide +kernel)⟩, (tb_w 1441 rfl rfl), (tb_w 1442 rfl rfl), ⟨_, _, rfl⟩, ⟨by decide +kernel, rfl⟩⟩, fun h => absurd h (by decide)⟩
set_option maxRecDepth 20000 in
theorem kf_194 : g_Q 194 := fun xs => ⟨fun h => absurd h (by decide), fun _ => ⟨⟨(tb_w 13 rfl rfl), (tb_w 1448 rfl rfl), by decide +kernel, by decide +kernel, (show (parseMethodDescriptor (g_y 194).desc).map (fun d => d.parameters.length) = some 1 by decide +kernel)⟩, (tb_w 1447 rfl rfl), (tb_s 124 rfl rfl), ⟨_, _, rfl⟩, ⟨by decide +kernel, rfl⟩⟩, fun h => absurd h (by decide)⟩
set_option maxRecDepth 20000 in
theorem kf_195 : g_Q 195 := fun xs => ⟨fun h => absurd h (by decide), fun _ => ⟨⟨(tb_w 13 rfl rfl), (tb_w 1452 rfl rfl), by decide +kernel, by decide +kernel, (show (parseMethodDescriptor (g_y 195).desc).map (fun d => d.parameters.length) = some 1 by decide +kernel)⟩, (tb_w 1451 rfl rfl), (tb_s 125 rfl rfl), ⟨_, _, rfl⟩, ⟨by decide +kernel, rfl⟩⟩, fun h => absurd h (by decide)⟩
set_option maxRecDepth 20000 in
theorem kf_196 : g_Q 196 := fun xs => ⟨fun h => absurd h (by decide), fun _ => ⟨⟨(tb_w 13 rfl rfl), (tb_w 1456 rfl rfl), by decide +kernel, by decide +kernel, (show (parseMethodDescriptor (g_y 196).desc).map (fun d => d.parameters.length) = some 1 by decide +kernel)⟩, (tb_w 1455 rfl rfl), (tb_s 126 rfl rfl), ⟨_, _, rfl⟩, ⟨by decide +kernel, rfl⟩⟩, fun h => absurd h (by decide)⟩
set_option maxRecDepth 20000 in
theorem kf_197 : g_Q 197 := fun xs => ⟨fun h => absurd h (by decide), fun _ => ⟨⟨(tb_w 13 rfl rfl), (tb_w 1460 rfl rfl), by decide +kernel, by decide +kernel, (show (parseMethodDescriptor (g_y 197).desc).map (fun d => d.parameters.length) = some 1 by decide +kernel)⟩, (tb_w 1459 rfl rfl), (tb_s 127 rfl rfl), ⟨_, _, rfl⟩, ⟨by decide +kernel, rfl⟩⟩, fun h => absurd h (by decide)⟩
set_option maxRecDepth 20000 in
theorem kf_198 : g_Q 198 := fun xs => ⟨fun h => absurd h (by decide), fun _ => ⟨⟨(tb_w 13 rfl rfl), (tb_w 1464 rfl rfl), by decide +kernel, by decide +kernel, (show (parseMethodDescriptor (g_y 198).desc).map (fun d => d.parameters.length) = some 1 by decide +kernel)⟩, (tb_w 1463 rfl rfl), (tb_s 128 rfl rfl), ⟨_, _, rfl⟩, ⟨by decide +kernel, rfl⟩⟩, fun h => absurd h (by decide)⟩
set_option maxRecDepth 20000 in
theorem kf_199 : g_Q 199 := fun xs => ⟨fun h => absurd h (by decide), fun _ => ⟨⟨(tb_w 13 rfl rfl), (tb_w 1468 rfl rfl), by decide +kernel, by decide +kernel, (show (parseMethodDescriptor (g_y 199).desc).map (fun d => d.parameters.length) = some 3 by decide +kernel)⟩, (tb_w 1467 rfl rfl), (tb_s 129 rfl rfl), ⟨_, _, rfl⟩, ⟨by decide +kernel, rfl⟩⟩, fun h => absurd h (by decide)⟩
set_option maxRecDepth 20000 in
theorem kf_200 : g_Q 200 := fun xs => ⟨fun h => absurd h (by decide), fun _ => ⟨⟨(tb_w 13 rfl rfl), (tb_w 1472 rfl rfl), by decide +kernel, by decide +kernel, (show (parseMethodDescriptor (g_y 200).desc).map (fun d => d.parameters.length) = some 3 by decide +kernel)⟩, (tb_w 1471 rfl rfl), (tb_s 130 rfl rfl), ⟨_, _, rfl⟩, ⟨by decide +kernel, rfl⟩⟩, fun h => absurd h (by decide)⟩
set_option maxRecDepth 20000 in
theorem kf_201 : g_Q 201 := fun xs => ⟨fun h => absurd h (by decide), fun _ => ⟨⟨(tb_w 13 rfl rfl), (tb_w 1476 rfl rfl), by decide +kernel, by decide +kernel, (show (parseMethodDescriptor (g_y 201).desc).map (fun d => d.parameters.length) = some 3 by decide +kernel)⟩, (tb_w 1475 rfl rfl), (tb_s 131 rfl rfl), ⟨_, _, rfl⟩, ⟨by decide +kernel, rfl⟩⟩, fun h => absurd h (by decide)⟩
set_option maxRecDepth 20000 in
theorem kf_202 : g_Q 202 := fun xs => ⟨fun _ => ⟨⟨(tb_w 13 rfl rfl), (tb_w 1479 rfl rfl), by decide +kernel, by decide +kernel, (show (parseMethodDescriptor (g_y 202).desc).map (fun d => d.parameters.length) = some 2 by decide +kernel)⟩, (tb_w 1478 rfl rfl), ⟨by decide +kernel, rfl⟩⟩, fun h => absurd h (by decide), fun h => absurd h (by decide)⟩
set_option maxRecDepth 20000 in
theorem kf_203 : g_Q 203 := fun xs => ⟨fun h => absurd h (by decide), fun _ => ⟨⟨(tb_w 13 rfl rfl), (tb_w 1483 rfl rfl), by decide +kernel, by decide +kernel, (show (parseMethodDescriptor (g_y 203).desc).map (fun d => d.parameters.length) = some 3 by decide +kernel)⟩, (tb_w 1482 rfl rfl), (tb_s 132 rfl rfl), ⟨_, _, rfl⟩, ⟨by decide +kernel, rfl⟩⟩, fun h => absurd h (by decide)⟩
set_option maxRecDepth 20000 in
theorem kf_204 : g_Q 204 := fun xs => ⟨fun h => absurd h (by decide), fun _ => ⟨⟨(tb_w 13 rfl rfl), (tb_w 1487 rfl rfl), by decide +kernel, by decide +kernel, (show (parseMethodDescriptor (g_y 204).desc).map (fun d => d.parameters.length) = some 1 by decide +kernel)⟩, (tb_w 1486 rfl rfl), (tb_s 133 rfl rfl), ⟨_, _, rfl⟩, ⟨by decide +kernel, rfl⟩⟩, fun h => absurd h (by decide)⟩
set_option maxRecDepth 20000 in
theorem kf_205 : g_Q 205 := fun xs => ⟨fun h => absurd h (by decide), fun _ => ⟨⟨(tb_w 13 rfl rfl), (tb_w 1491 rfl rfl), by decide +kernel, by decide +kernel, (show (parseMethodDescriptor (g_y 205).desc).map (fun d => d.parameters.length) = some 1 by decide +kernel)⟩, (tb_w 1490 rfl rfl), (tb_s 134 rfl rfl), ⟨_, _, rfl⟩, ⟨by decide +kernel, rfl⟩⟩, fun h => absurd h (by decide)⟩
set_option maxRecDepth 20000 in
theorem kf_206 : g_Q 206 := fun xs => ⟨fun h => absurd h (by decide), fun _ => ⟨⟨(tb_w 13 rfl rfl), (tb_w 1495 rfl rfl), by decide +kernel, by decide +kernel, (show (parseMethodDescriptor (g_y 206).desc).map (fun d => d.parameters.length) = some 1 by decide +kernel)⟩, (tb_w 1494 rfl rfl), (tb_s 135 rfl rfl), ⟨_, _, rfl⟩, ⟨by decide +kernel, rfl⟩⟩, fun h => absurd h (by decide)⟩
set_option maxRecDepth 20000 in
theorem kf_207 : g_Q 207 := fun xs => ⟨fun h => absurd h (by decide), fun _ => ⟨⟨(tb_w 13 rfl rfl), (tb_w 1499 rfl rfl), by decide +kernel, by decide +kernel, (show (parseMethodDescriptor (g_y 207).desc).map (fun d => d.parameters.length) = some 4 by decide +kernel)⟩, (tb_w 1497 rfl rfl), (tb_w 1498 rfl rfl), ⟨_, _, rfl⟩, ⟨by decide +kernel, rfl⟩⟩, fun h => absurd h (by decide)⟩
set_option maxRecDepth 20000 in
theorem kf_208 : g_Q 208 := fun xs => ⟨fun h => absurd h (by decide), fun _ => ⟨⟨(tb_w 13 rfl rfl), (tb_w 1504 rfl rfl), by decide +kernel, by decide +kernel, (show (parseMethodDescriptor (g_y 208).desc).map (fun d => d.parameters.length) = some 3 by decide +kernel)⟩, (tb_w 1503 rfl rfl), (tb_s 136 rfl rfl), ⟨_, _, rfl⟩, ⟨by decide +kernel, rfl⟩⟩, fun h => absurd h (by decide)⟩
set_option maxRecDepth 20000 in
theorem kf_209 : g_Q 209 := fun xs => ⟨fun h => absurd h (by decide), fun _ => ⟨⟨(tb_w 13 rfl rfl), (tb_w 1508 rfl rfl), by decide +kernel, by decide +kernel, (show (parseMethodDescriptor (g_y 209).desc).map (fun d => d.parameters.length) = some 2 by decide +kernel)⟩, (tb_w 1506 rfl rfl), (tb_w 1507 rfl rfl), ⟨_, _, rfl⟩, ⟨by decide +kernel, rfl⟩⟩, fun h => absurd h (by decide)⟩
set_option maxRecDepth 20000 in
theorem kf_210 : g_Q 210 := fun xs => ⟨fun h => absurd h (by decide), fun _ => ⟨⟨(tb_w 13 rfl rfl), (tb_w 1512 rfl rfl), by decide +kernel, by decide +kernel, (show (parseMethodDescriptor (g_y 210).desc).map (fun d => d.parameters.length) = some 4 by decide +kernel)⟩, (tb_w 1511 rfl rfl), (tb_s 137 rfl rfl), ⟨_, _, rfl⟩, ⟨by decide +kernel, rfl⟩⟩, fun h => absurd h (by decide)⟩
set_option maxRecDepth 20000 in
theorem kf_211 : g_Q 211 := fun xs => ⟨fun h => absurd h (by decide), fun _ => ⟨⟨(tb_w 13 rfl rfl), (tb_w 1516 rfl rfl), by decide +kernel, by decide +kernel, (show (parseMethodDescriptor (g_y 211).desc).map (fun d => d.parameters.length) = some 2 by decide +kernel)⟩, (tb_w 1514 rfl rfl), (tb_w 1515 rfl rfl), ⟨_, _, rfl⟩, ⟨by decide +kernel, rfl⟩⟩, fun h => absurd h (by decide)⟩
set_option maxRecDepth 20000 in
theorem kf_212 : g_Q 212 := fun xs => ⟨fun _ => ⟨⟨(tb_w 13 rfl rfl), (tb_w 1519 rfl rfl), by decide +kernel, by decide +kernel, (show (parseMethodDescriptor (g_y 212).desc).map (fun d => d.parameters.length) = some 1 by decide +kernel)⟩, (tb_w 1518 rfl rfl), ⟨by decide +kernel, rfl⟩⟩, fun h => absurd h (by decide), fun h => absurd h (by decide)⟩
set_option maxRecDepth 20000 in
theorem kf_213 : g_Q 213 := fun xs => ⟨fun _ => ⟨⟨(tb_w 13 rfl rfl), (tb_w 1524 rfl rfl), by decide +kernel, by decide +kernel, (show (parseMethodDescriptor (g_y 213).desc).map (fun d => d.parameters.length) = some 2 by decide +kernel)⟩, (tb_w 1523 rfl rfl), ⟨by decide +kernel, rfl⟩⟩, fun h => absurd h (by decide), fun h => absurd h (by decide)⟩
set_option maxRecDepth 20000 in
theorem kf_214 : g_Q 214 := fun xs => ⟨fun h => absurd h (by decide), fun _ => ⟨⟨(tb_w 13 rfl rfl), (tb_w 1528 rfl rfl), by decide +kernel, by decide +kernel, (show (parseMethodDescriptor (g_y 214).desc).map (fun d => d.parameters.length) = some 2 by decide +kernel)⟩, (tb_w 1526 rfl rfl), (tb_w 1527 rfl rfl), ⟨_, _, rfl⟩, ⟨by decide +kernel, rfl⟩⟩, fun h => absurd h (by decide)⟩
set_option maxRecDepth 20000 in
theorem kf_215 : g_Q 215 := fun xs => ⟨fun h => absurd h (by decide), fun _ => ⟨⟨(tb_w 13 rfl rfl), (tb_w 1532 rfl rfl), by decide +kernel, by decide +kernel, (show (parseMethodDescriptor (g_y 215).desc).map (fun d => d.parameters.length) = some 3 by decide +kernel)⟩, (tb_w 1531 rfl rfl), (tb_s 138 rfl rfl), ⟨_, _, rfl⟩, ⟨by decide +kernel, rfl⟩⟩, fun h => absurd h (by decide)⟩
set_option maxRecDepth 20000 in
theorem kf_216 : g_Q 216 := fun xs => ⟨fun h => absurd h (by decide), fun _ => ⟨⟨(tb_w 13 rfl rfl), (tb_w 1536 rfl rfl), by decide +kernel, by decide +kernel, (show (parseMethodDescriptor (g_y 216).desc).map (fun d => d.parameters.length) = some 5 by decide +kernel)⟩, (tb_w 1534 rfl rfl), (tb_w 1535 rfl rfl), ⟨_, _, rfl⟩, ⟨by decide +kernel, rfl⟩⟩, fun h => absurd h (by decide)⟩
set_option maxRecDepth 20000 in
theorem kf_217 : g_Q 217 := fun xs => ⟨fun h => absurd h (by decide), fun _ => ⟨⟨(tb_w 13 rfl rfl), (tb_w 1541 rfl rfl), by decide +kernel, by decide +kernel, (show (parseMethodDescriptor (g_y 217).desc).map (fun d => d.parameters.length) = some 3 by decide +kernel)⟩, (tb_w 1539 rfl rfl), (tb_w 1540 rfl rfl), ⟨_, _, rfl⟩, ⟨by decide +kernel, rfl⟩⟩, fun h => absurd h (by decide)⟩
set_option maxRecDepth 20000 in
theorem kf_218 : g_Q 218 := fun xs => ⟨fun h => absurd h (by decide), fun _ => ⟨⟨(tb_w 13 rfl rfl), (tb_w 1545 rfl rfl), by decide +kernel, by decide +kernel, (show (parseMethodDescriptor (g_y 218).desc).map (fun d => d.parameters.length) = some 2 by decide +kernel)⟩, (tb_w 1544 rfl rfl), (tb_s 139 rfl rfl), ⟨_, _, rfl⟩, ⟨by decide +kernel, rfl⟩⟩, fun h => absurd h (by decide)⟩
set_option maxRecDepth 20000 in
theorem kf_219 : g_Q 219 := fun xs => ⟨fun _ => ⟨⟨(tb_w 13 rfl rfl), (tb_w 1548 rfl rfl), by decide +kernel, by decide +kernel, (show (parseMethodDescriptor (g_y 219).desc).map (fun d => d.parameters.length) = some 1 by decide +kernel)⟩, (tb_w 1547 rfl rfl), ⟨by decide +kernel, rfl⟩⟩, fun h => absurd h (by decide), fun h => absurd h (by decide)⟩
set_option maxRecDepth 20000 in
theorem kf_220 : g_Q 220 := fun xs => ⟨fun _ => ⟨⟨(tb_w 13 rfl rfl), (tb_w 1551 rfl rfl), by decide +kernel, by decide +kernel, (show (parseMethodDescriptor (g_y 220).desc).map (fun d => d.parameters.length) = some 1 by decide +kernel)⟩, (tb_w 1550 rfl rfl), ⟨by decide +kernel, rfl⟩⟩, fun h => absurd h (by decide), fun h => absurd h (by decide)⟩
set_option maxRecDepth 20000 in
theorem kf_221 : g_Q 221 := fun xs => ⟨fun h => absurd h (by decide), fun _ => ⟨⟨(tb_w 13 rfl rfl), (tb_w 1555 rfl rfl), by decide +kernel, by decide +kernel, (show (parseMethodDescriptor (g_y 221).desc).map (fun d => d.parameters.length) = some 4 by decide +kernel)⟩, (tb_w 1553 rfl rfl), (tb_w 1554 rfl rfl), ⟨_, _, rfl⟩, ⟨by decide +kernel, rfl⟩⟩, fun h => absurd h (by decide)⟩
set_option maxRecDepth 20000 in
theorem kf_222 : g_Q 222 := fun xs => ⟨fun h => absurd h (by decide), fun _ => ⟨⟨(tb_w 13 rfl rfl), (tb_w 1560 rfl rfl), by decide +kernel, by decide +kernel, (show (parseMethodDescriptor (g_y 222).desc).map (fun d => d.parameters.length) = some 4 by decide +kernel)⟩, (tb_w 1559 rfl rfl), (tb_s 140 rfl rfl), ⟨_, _, rfl⟩, ⟨by decide +kernel, rfl⟩⟩, fun h => absurd h (by decide)⟩
set_option maxRecDepth 20000 in
theorem kf_223 : g_Q 223 := fun xs => ⟨fun h => absurd h (by decide), fun _ => ⟨⟨(tb_w 13 rfl rfl), (tb_w 1564 rfl rfl), by decide +kernel, by decide +kernel, (show (parseMethodDescriptor (g_y 223).desc).map (fun d => d.parameters.length) = some 0 by decide +kernel)⟩, (tb_w 1563 rfl rfl), (tb_s 141 rfl rfl), ⟨_, _, rfl⟩, ⟨by decide +kernel, rfl⟩⟩, fun h => absurd h (by decide)⟩
set_option maxRecDepth 20000 in
theorem kf_224 : g_Q 224 := fun xs => ⟨fun h => absurd h (by decide), fun _ => ⟨⟨(tb_w 13 rfl rfl), (tb_w 1568 rfl rfl), by decide +kernel, by decide +kernel, (show (parseMethodDescriptor (g_y 224).desc).map (fun d => d.parameters.length) = some 2 by decide +kernel)⟩, (tb_w 1566 rfl rfl), (tb_w 1567 rfl rfl), ⟨_, _, rfl⟩, ⟨by decide +kernel, rfl⟩⟩, fun h => absurd h (by decide)⟩
set_option maxRecDepth 20000 in
theorem kf_225 : g_Q 225 := fun xs => ⟨fun h => absurd h (by decide), fun _ => ⟨⟨(tb_w 13 rfl rfl), (tb_w 1572 rfl rfl), by decide +kernel, by decide +kernel, (show (parseMethodDescriptor (g_y 225).desc).map (fun d => d.parameters.length) = some 2 by decide +kernel)⟩, (tb_w 1571 rfl rfl), (tb_s 142 rfl rfl), ⟨_, _, rfl⟩, ⟨by decide +kernel, rfl⟩⟩, fun h => absurd h (by decide)⟩
set_option maxRecDepth 20000 in
theorem kf_226 : g_Q 226 := fun xs => ⟨fun h => absurd h (by decide), fun _ => ⟨⟨(tb_w 13 rfl rfl), (tb_w 1576 rfl rfl), by decide +kernel, by decide +kernel, (show (parseMethodDescriptor (g_y 226).desc).map (fun d => d.parameters.length) = some 2 by decide +kernel)⟩, (tb_w 1574 rfl rfl), (tb_w 1575 rfl rfl), ⟨_, _, rfl⟩, ⟨by decide +kernel, rfl⟩⟩, fun h => absurd h (by decide)⟩
set_option maxRecDepth 20000 in
theorem kf_227 : g_Q 227 := fun xs => ⟨fun h => absurd h (by decide), fun _ => ⟨⟨(tb_w 13 rfl rfl), (tb_w 1580 rfl rfl), by decide +kernel, by decide +kernel, (show (parseMethodDescriptor (g_y 227).desc).map (fun d => d.parameters.length) = some 1 by decide +kernel)⟩, (tb_w 1578 rfl rfl), (tb_w 1579 rfl rfl), ⟨_, _, rfl⟩, ⟨by decide +kernel, rfl⟩⟩, fun h => absurd h (by decide)⟩
set_option maxRecDepth 20000 in
theorem kf_228 : g_Q 228 := fun xs => ⟨fun h => absurd h (by decide), fun _ => ⟨⟨(tb_w 13 rfl rfl), (tb_w 1584 rfl rfl), by decide +kernel, by decide +kernel, (show (parseMethodDescriptor (g_y 228).desc).map (fun d => d.parameters.length) = some 1 by decide +kernel)⟩, (tb_w 1582 rfl rfl), (tb_w 1583 rfl rfl), ⟨_, _, rfl⟩, ⟨by decide +kernel, rfl⟩⟩, fun h => absurd h (by decide)⟩
set_option maxRecDepth 20000 in
theorem kf_229 : g_Q 229 := fun xs => ⟨fun h => absurd h (by decide), fun _ => ⟨⟨(tb_w 13 rfl rfl), (tb_w 1588 rfl rfl), by decide +kernel, by decide +kernel, (show (parseMethodDescriptor (g_y 229).desc).map (fun d => d.parameters.length) = some 2 by decide +kernel)⟩, (tb_w 1587 rfl rfl), (tb_s 143 rfl rfl), ⟨_, _, rfl⟩, ⟨by decide +kernel, rfl⟩⟩, fun h => absurd h (by decide)⟩
set_option maxRecDepth 20000 in
theorem kf_230 : g_Q 230 := fun xs => ⟨fun h => absurd h (by decide), fun _ => ⟨⟨(tb_w 13 rfl rfl), (tb_w 1592 rfl rfl), by decide +kernel, by decide +kernel, (show (parseMethodDescriptor (g_y 230).desc).map (fun d => d.parameters.length) = some 1 by decide +kernel)⟩, (tb_w 1590 rfl rfl), (tb_w 1591 rfl rfl), ⟨_, _, rfl⟩, ⟨by decide +kernel, rfl⟩⟩, fun h => absurd h (by decide)⟩
set_option maxRecDepth 20000 in
theorem kf_231 : g_Q 231 := fun xs => ⟨fun h => absurd h (by decide), fun _ => ⟨⟨(tb_w 13 rfl rfl), (tb_w 1596 rfl rfl), by decide +kernel, by decide +kernel, (show (parseMethodDescriptor (g_y 231).desc).map (fun d => d.parameters.length) = some 2 by decide +kernel)⟩, (tb_w 1594 rfl rfl), (tb_w 1595 rfl rfl), ⟨_, _, rfl⟩, ⟨by decide +kernel, rfl⟩⟩, fun h => absurd h (by decide)⟩
set_option maxRecDepth 20000 in
theorem kf_232 : g_Q 232 := fun xs => ⟨fun h => absurd h (by decide), fun _ => ⟨⟨(tb_w 13 rfl rfl), (tb_w 1600 rfl rfl), by decide +kernel, by decide +kernel, (show (parseMethodDescriptor (g_y 232).desc).map (fun d => d.parameters.length) = some 0 by decide +kernel)⟩, (tb_w 1598 rfl rfl), (tb_w 1599 rfl rfl), ⟨_, _, rfl⟩, ⟨by decide +kernel, rfl⟩⟩, fun h => absurd h (by decide)⟩
set_option maxRecDepth 20000 in
theorem kf_233 : g_Q 233 := fun xs => ⟨fun h => absurd h (by decide), fun _ => ⟨⟨(tb_w 13 rfl rfl), (tb_w 1604 rfl rfl), by decide +kernel, by decide +kernel, (show (parseMethodDescriptor (g_y 233).desc).map (fun d => d.parameters.length) = some 3 by decide +kernel)⟩, (tb_w 1602 rfl rfl), (tb_w 1603 rfl rfl), ⟨_, _, rfl⟩, ⟨by decide +kernel, rfl⟩⟩, fun h => absurd h (by decide)⟩
set_option maxRecDepth 20000 in
theorem kf_234 : g_Q 234 := fun xs => ⟨fun h => absurd h (by decide), fun _ => ⟨⟨(tb_w 13 rfl rfl), (tb_w 1609 rfl rfl), by decide +kernel, by decide +kernel, (show (parseMethodDescriptor (g_y 234).desc).map (fun d => d.parameters.length) = some 3 by decide +kernel)⟩, (tb_w 1608 rfl rfl), (tb_s 144 rfl rfl), ⟨_, _, rfl⟩, ⟨by decide +kernel, rfl⟩⟩, fun h => absurd h (by decide)⟩
set_option maxRecDepth 20000 in
theorem kf_235 : g_Q 235 := fun xs => ⟨fun h => absurd h (by decide), fun _ => ⟨⟨(tb_w 13 rfl rfl), (tb_w 1613 rfl rfl), by decide +kernel, by decide +kernel, (show (parseMethodDescriptor (g_y 235).desc).map (fun d => d.parameters.length) = some 1 by decide +kernel)⟩, (tb_w 1612 rfl rfl), (tb_s 145 rfl rfl), ⟨_, _, rfl⟩, ⟨by decide +kernel, rfl⟩⟩, fun h => absurd h (by decide)⟩
set_option maxRecDepth 20000 in
theorem kf_236 : g_Q 236 := fun xs => ⟨fun h => absurd h (by decide), fun _ => ⟨⟨(tb_w 13 rfl rfl), (tb_w 1617 rfl rfl), by decide +kernel, by decide +kernel, (show (parseMethodDescriptor (g_y 236).desc).map (fun d => d.parameters.length) = some 1 by decide +kernel)⟩, (tb_w 1616 rfl rfl), (tb_s 146 rfl rfl), ⟨_, _, rfl⟩, ⟨by decide +kernel, rfl⟩⟩, fun h => absurd h (by decide)⟩
set_option maxRecDepth 20000 in
theorem kf_237 : g_Q 237 := fun xs => ⟨fun h => absurd h (by decide), fun _ => ⟨⟨(tb_w 13 rfl rfl), (tb_w 1621 rfl rfl), by decide +kernel, by decide +kernel, (show (parseMethodDescriptor (g_y 237).desc).map (fun d => d.parameters.length) = some 0 by decide +kernel)⟩, (tb_w 1620 rfl rfl), (tb_s 147 rfl rfl), ⟨_, _, rfl⟩, ⟨by decide +kernel, rfl⟩⟩, fun h => absurd h (by decide)⟩
set_option maxRecDepth 20000 in
theorem kf_238 : g_Q 238 := fun xs => ⟨fun h => absurd h (by decide), fun _ => ⟨⟨(tb_w 13 rfl rfl), (tb_w 1625 rfl rfl), by decide +kernel, by decide +kernel, (show (parseMethodDescriptor (g_y 238).desc).map (fun d => d.parameters.length) = some 0 by decide +kernel)⟩, (tb_w 1624 rfl rfl), (tb_s 148 rfl rfl), ⟨_, _, rfl⟩, ⟨by decide +kernel, rfl⟩⟩, fun h => absurd h (by decide)⟩
set_option maxRecDepth 20000 in
theorem kf_239 : g_Q 239 := fun xs => ⟨fun h => absurd h (by decide), fun _ => ⟨⟨(tb_w 13 rfl rfl), (tb_w 1629 rfl rfl), by decide +kernel, by decide +kernel, (show (parseMethodDescriptor (g_y 239).desc).map (fun d => d.parameters.length) = some 2 by decide +kernel)⟩, (tb_w 1628 rfl rfl), (tb_s 149 rfl rfl), ⟨_, _, rfl⟩, ⟨by decide +kernel, rfl⟩⟩, fun h => absurd h (by decide)⟩
set_option maxRecDepth 20000 in
theorem kf_240 : g_Q 240 := fun xs => ⟨fun h => absurd h (by decide), fun _ => ⟨⟨(tb_w 13 rfl rfl), (tb_w 1633 rfl rfl), by decide +kernel, by decide +kernel, (show (parseMethodDescriptor (g_y 240).desc).map (fun d => d.parameters.length) = some 0 by decide +kernel)⟩, (tb_w 1632 rfl rfl), (tb_s 150 rfl rfl), ⟨_, _, rfl⟩, ⟨by decide +kernel, rfl⟩⟩, fun h => absurd h (by decide)⟩
set_option maxRecDepth 20000 in
theorem kf_241 : g_Q 241 := fun xs => ⟨fun h => absurd h (by decide), fun _ => ⟨⟨(tb_w 13 rfl rfl), (tb_w 1637 rfl rfl), by decide +kernel, by decide +kernel, (show (parseMethodDescriptor (g_y 241).desc).map (fun d => d.parameters.length) = some 0 by decide +kernel)⟩, (tb_w 1636 rfl rfl), (tb_s 151 rfl rfl), ⟨_, _, rfl⟩, ⟨by decide +kernel, rfl⟩⟩, fun h => absurd h (by decide)⟩
set_option maxRecDepth 20000 in
theorem kf_242 : g_Q 242 := fun xs => ⟨fun h => absurd h (by decide), fun _ => ⟨⟨(tb_w 13 rfl rfl), (tb_w 1641 rfl rfl), by decide +kernel, by decide +kernel, (show (parseMethodDescriptor (g_y 242).desc).map (fun d => d.parameters.length) = some 2 by decide +kernel)⟩, (tb_w 1640 rfl rfl), (tb_s 152 rfl rfl), ⟨_, _, rfl⟩, ⟨by decide +kernel, rfl⟩⟩, fun h => absurd h (by decide)⟩
set_option maxRecDepth 20000 in
theorem kf_243 : g_Q 243 := fun xs => ⟨fun h => absurd h (by decide), fun _ => ⟨⟨(tb_w 13 rfl rfl), (tb_w 1645 rfl rfl), by decide +kernel, by decide +kernel, (show (parseMethodDescriptor (g_y 243).desc).map (fun d => d.parameters.length) = some 2 by decide +kernel)⟩, (tb_w 1644 rfl rfl), (tb_s 153 rfl rfl), ⟨_, _, rfl⟩, ⟨by decide +kernel, rfl⟩⟩, fun h => absurd h (by decide)⟩
set_option maxRecDepth 20000 in
theorem kf_244 : g_Q 244 := fun xs => ⟨fun h => absurd h (by decide), fun _ => ⟨⟨(tb_w 13 rfl rfl), (tb_w 1649 rfl rfl), by decide +kernel, by decide +kernel, (show (parseMethodDescriptor (g_y 244).desc).map (fun d => d.parameters.length) = some 0 by decide +kernel)⟩, (tb_w 1648 rfl rfl), (tb_s 154 rfl rfl), ⟨_, _, rfl⟩, ⟨by decide +kernel, rfl⟩⟩, fun h => absurd h (by decide)⟩
set_option maxRecDepth 20000 in
theorem kf_245 : g_Q 245 := fun xs => ⟨fun h => absurd h (by decide), fun _ => ⟨⟨(tb_w 13 rfl rfl), (tb_w 1653 rfl rfl), by decide +kernel, by decide +kernel, (show (parseMethodDescriptor (g_y 245).desc).map (fun d => d.parameters.length) = some 3 by decide +kernel)⟩, (tb_w 1652 rfl rfl), (tb_s 155 rfl rfl), ⟨_, _, rfl⟩, ⟨by decide +kernel, rfl⟩⟩, fun h => absurd h (by decide)⟩
set_option maxRecDepth 20000 in
theorem kf_246 : g_Q 246 := fun xs => ⟨fun h => absurd h (by decide), fun _ => ⟨⟨(tb_w 13 rfl rfl), (tb_w 1657 rfl rfl), by decide +kernel, by decide +kernel, (show (parseMethodDescriptor (g_y 246).desc).map (fun d => d.parameters.length) = some 1 by decide +kernel)⟩, (tb_w 1656 rfl rfl), (tb_s 156 rfl rfl), ⟨_, _, rfl⟩, ⟨by decide +kernel, rfl⟩⟩, fun h => absurd h (by decide)⟩
set_option maxRecDepth 20000 in
theorem kf_247 : g_Q 247 := fun xs => ⟨fun h => absurd h (by decide), fun _ => ⟨⟨(tb_w 13 rfl rfl), (tb_w 1661 rfl rfl), by decide +kernel, by decide +kernel, (show (parseMethodDescriptor (g_y 247).desc).map (fun d => d.parameters.length) = some 0 by decide +kernel)⟩, (tb_w 1660 rfl rfl), (tb_s 157 rfl rfl), ⟨_, _, rfl⟩, ⟨by decide +kernel, rfl⟩⟩, fun h => absurd h (by decide)⟩
set_option maxRecDepth 20000 in
theorem kf_248 : g_Q 248 := fun xs => ⟨fun h => absurd h (by decide), fun _ => ⟨⟨(tb_w 13 rfl rfl), (tb_w 1665 rfl rfl), by decide +kernel, by decide +kernel, (show (parseMethodDescriptor (g_y 248).desc).map (fun d => d.parameters.length) = some 0 by decide +kernel)⟩, (tb_w 1664 rfl rfl), (tb_s 158 rfl rfl), ⟨_, _, rfl⟩, ⟨by decide +kernel, rfl⟩⟩, fun h => absurd h (by decide)⟩
set_option maxRecDepth 20000 in
theorem kf_249 : g_Q 249 := fun xs => ⟨fun _ => ⟨⟨(tb_w 13 rfl rfl), (tb_w 1668 rfl rfl), by decide +kernel, by decide +kernel, (show (parseMethodDescriptor (g_y 249).desc).map (fun d => d.parameters.length) = some 2 by decide +kernel)⟩, (tb_w 1667 rfl rfl), ⟨by decide +kernel, rfl⟩⟩, fun h => absurd h (by decide), fun h => absurd h (by decide)⟩
set_option maxRecDepth 20000 in
theorem kf_250 : g_Q 250 := fun xs => ⟨fun h => absurd h (by decide), fun _ => ⟨⟨(tb_w 13 rfl rfl), (tb_w 1672 rfl rfl), by decide +kernel, by decide +kernel, (show (parseMethodDescriptor (g_y 250).desc).map (fun d => d.parameters.length) = some 2 by decide +kernel)⟩, (tb_w 1671 rfl rfl), (tb_s 159 rfl rfl), ⟨_, _, rfl⟩, ⟨by decide +kernel, rfl⟩⟩, fun h => absurd h (by decide)⟩
set_option maxRecDepth 20000 in
theorem kf_251 : g_Q 251 := fun xs => ⟨fun h => absurd h (by decide), fun _ => ⟨⟨(tb_w 13 rfl rfl), (tb_w 1676 rfl rfl), by decide +kernel, by decide +kernel, (show (parseMethodDescriptor (g_y 251).desc).map (fun d => d.parameters.length) = some 1 by decide +kernel)⟩, (tb_w 1674 rfl rfl), (tb_w 1675 rfl rfl), ⟨_, _, rfl⟩, ⟨by decide +kernel, rfl⟩⟩, fun h => absurd h (by decide)⟩
set_option maxRecDepth 20000 in
theorem kf_252 : g_Q 252 := fun xs => ⟨fun h => absurd h (by decide), fun _ => ⟨⟨(tb_w 13 rfl rfl), (tb_w 1680 rfl rfl), by decide +kernel, by decide +kernel, (show (parseMethodDescriptor (g_y 252).desc).map (fun d => d.parameters.length) = some 1 by decide +kernel)⟩, (tb_w 1679 rfl rfl), (tb_s 160 rfl rfl), ⟨_, _, rfl⟩, ⟨by decide +kernel, rfl⟩⟩, fun h => absurd h (by decide)⟩
set_option maxRecDepth 20000 in
theorem kf_253 : g_Q 253 := fun xs => ⟨fun h => absurd h (by decide), fun _ => ⟨⟨(tb_w 13 rfl rfl), (tb_w 1684 rfl rfl), by decide +kernel, by decide +kernel, (show (parseMethodDescriptor (g_y 253).desc).map (fun d => d.parameters.length) = some 2 by decide +kernel)⟩, (tb_w 1683 rfl rfl), (tb_s 161 rfl rfl), ⟨_, _, rfl⟩, ⟨by decide +kernel, rfl⟩⟩, fun h => absurd h (by decide)⟩
set_option maxRecDepth 20000 in
theorem kf_254 : g_Q 254 := fun xs => ⟨fun h => absurd h (by decide), fun _ => ⟨⟨(tb_w 13 rfl rfl), (tb_w 1688 rfl rfl), by decide +kernel, by decide +kernel, (show (parseMethodDescriptor (g_y 254).desc).map (fun d => d.parameters.length) = some 0 by decide +kernel)⟩, (tb_w 1687 rfl rfl), (tb_s 162 rfl rfl), ⟨_, _, rfl⟩, ⟨by decide +kernel, rfl⟩⟩, fun h => absurd h (by decide)⟩
set_option maxRecDepth 20000 in
theorem kf_255 : g_Q 255 := fun xs => ⟨fun h => absurd h (by decide), fun _ => ⟨⟨(tb_w 13 rfl rfl), (tb_w 1692 rfl rfl), by decide +kernel, by decide +kernel, (show (parseMethodDescriptor (g_y 255).desc).map (fun d => d.parameters.length) = some 1 by decide +kernel)⟩, (tb_w 1691 rfl rfl), (tb_s 163 rfl rfl), ⟨_, _, rfl⟩, ⟨by decide +kernel, rfl⟩⟩, fun h => absurd h (by decide)⟩
set_option maxRecDepth 20000 in
theorem kf_256 : g_Q 256 := fun xs => ⟨fun h => absurd h (by decide), fun _ => ⟨⟨(tb_w 13 rfl rfl), (tb_w 1696 rfl rfl), by decide +kernel, by decide +kernel, (show (parseMethodDescriptor (g_y 256).desc).map (fun d => d.parameters.length) = some 1 by decide +kernel)⟩, (tb_w 1695 rfl rfl), (tb_s 164 rfl rfl), ⟨_, _, rfl⟩, ⟨by decide +kernel, rfl⟩⟩, fun h => absurd h (by decide)⟩
set_option maxRecDepth 20000 in
theorem kf_257 : g_Q 257 := fun xs => ⟨fun h => absurd h (by decide), fun _ => ⟨⟨(tb_w 13 rfl rfl), (tb_w 1700 rfl rfl), by decide +kernel, by decide +kernel, (show (parseMethodDescriptor (g_y 257).desc).map (fun d => d.parameters.length) = some 1 by decide +kernel)⟩, (tb_w 1698 rfl rfl), (tb_w 1699 rfl rfl), ⟨_, _, rfl⟩, ⟨by decide +kernel, rfl⟩⟩, fun h => absurd h (by decide)⟩
set_option maxRecDepth 20000 in
theorem kf_258 : g_Q 258 := fun xs => ⟨fun h => absurd h (by decide), fun _ => ⟨⟨(tb_w 13 rfl rfl), (tb_w 1704 rfl rfl), by decide +kernel, by decide +kernel, (show (parseMethodDescriptor (g_y 258).desc).map (fun d => d.parameters.length) = some 0 by decide +kernel)⟩, (tb_w 1703 rfl rfl), (tb_s 165 rfl rfl), ⟨_, _, rfl⟩, ⟨by decide +kernel, rfl⟩⟩, fun h => absurd h (by decide)⟩
set_option maxRecDepth 20000 in
theorem kf_259 : g_Q 259 := fun xs => ⟨fun h => absurd h (by decide), fun _ => ⟨⟨(tb_w 13 rfl rfl), (tb_w 1708 rfl rfl), by decide +kernel, by decide +kernel, (show (parseMethodDescriptor (g_y 259).desc).map (fun d => d.parameters.length) = some 2 by decide +kernel)⟩, (tb_w 1706 rfl rfl), (tb_w 1707 rfl rfl), ⟨_, _, rfl⟩, ⟨by decide +kernel, rfl⟩⟩, fun h => absurd h (by decide)⟩
set_option maxRecDepth 20000 in
theorem kf_260 : g_Q 260 := fun xs => ⟨fun h => absurd h (by decide), fun _ => ⟨⟨(tb_w 13 rfl rfl), (tb_w 1712 rfl rfl), by decide +kernel, by decide +kernel, (show (parseMethodDescriptor (g_y 260).desc).map (fun d => d.parameters.length) = some 0 by decide +kernel)⟩, (tb_w 1711 rfl rfl), (tb_s 166 rfl rfl), ⟨_, _, rfl⟩, ⟨by decide +kernel, rfl⟩⟩, fun h => absurd h (by decide)⟩
set_option maxRecDepth 20000 in
theorem kf_261 : g_Q 261 := fun xs => ⟨fun h => absurd h (by decide), fun _ => ⟨⟨(tb_w 13 rfl rfl), (tb_w 1716 rfl rfl), by decide +kernel, by decide +kernel, (show (parseMethodDescriptor (g_y 261).desc).map (fun d => d.parameters.length) = some 1 by decide +kernel)⟩, (tb_w 1715 rfl rfl), (tb_s 167 rfl rfl), ⟨_, _, rfl⟩, ⟨by decide +kernel, rfl⟩⟩, fun h => absurd h (by decide)⟩
set_option maxRecDepth 20000 in
theorem kf_262 : g_Q 262 := fun xs => ⟨fun h => absurd h (by decide), fun _ => ⟨⟨(tb_w 13 rfl rfl), (tb_w 1720 rfl rfl), by decide +kernel, by decide +kernel, (show (parseMethodDescriptor (g_y 262).desc).map (fun d => d.parameters.length) = some 1 by decide +kernel)⟩, (tb_w 1718 rfl rfl), (tb_w 1719 rfl rfl), ⟨_, _, rfl⟩, ⟨by decide +kernel, rfl⟩⟩, fun h => absurd h (by decide)⟩
set_option maxRecDepth 20000 in
theorem kf_263 : g_Q 263 := fun xs => ⟨fun h => absurd h (by decide), fun _ => ⟨⟨(tb_w 13 rfl rfl), (tb_w 1724 rfl rfl), by decide +kernel, by decide +kernel, (show (parseMethodDescriptor (g_y 263).desc).map (fun d => d.parameters.length) = some 0 by decide +kernel)⟩, (tb_w 1723 rfl rfl), (tb_s 168 rfl rfl), ⟨_, _, rfl⟩, ⟨by decide +kernel, rfl⟩⟩, fun h => absurd h (by decide)⟩
set_option maxRecDepth 20000 in
theorem kf_264 : g_Q 264 := fun xs => ⟨fun h => absurd h (by decide), fun _ => ⟨⟨(tb_w 13 rfl rfl), (tb_w 1728 rfl rfl), by decide +kernel, by decide +kernel, (show (parseMethodDescriptor (g_y 264).desc).map (fun d => d.parameters.length) = some 2 by decide +kernel)⟩, (tb_w 1726 rfl rfl), (tb_w 1727 rfl rfl), ⟨_, _, rfl⟩, ⟨by decide +kernel, rfl⟩⟩, fun h => absurd h (by decide)⟩
set_option maxRecDepth 20000 in
theorem kf_265 : g_Q 265 := fun xs => ⟨fun h => absurd h (by decide), fun _ => ⟨⟨(tb_w 13 rfl rfl), (tb_w 1732 rfl rfl), by decide +kernel, by decide +kernel, (show (parseMethodDescriptor (g_y 265).desc).map (fun d => d.parameters.length) = some 4 by decide +kernel)⟩, (tb_w 1730 rfl rfl), (tb_w 1731 rfl rfl), ⟨_, _, rfl⟩, ⟨by decide +kernel, rfl⟩⟩, fun h => absurd h (by decide)⟩
set_option maxRecDepth 20000 in
theorem kf_266 : g_Q 266 := fun xs => ⟨fun h => absurd h (by decide), fun _ => ⟨⟨(tb_w 13 rfl rfl), (tb_w 1737 rfl rfl), by decide +kernel, by decide +kernel, (show (parseMethodDescriptor (g_y 266).desc).map (fun d => d.parameters.length) = some 2 by decide +kernel)⟩, (tb_w 1735 rfl rfl), (tb_w 1736 rfl rfl), ⟨_, _, rfl⟩, ⟨by decide +kernel, rfl⟩⟩, fun h => absurd h (by decide)⟩
set_option maxRecDepth 20000 in
theorem kf_267 : g_Q 267 := fun xs => ⟨fun h => absurd h (by decide), fun _ => ⟨⟨(tb_w 13 rfl rfl), (tb_w 1741 rfl rfl), by decide +kernel, by decide +kernel, (show (parseMethodDescriptor (g_y 267).desc).map (fun d => d.parameters.length) = some 0 by decide +kernel)⟩, (tb_w 1739 rfl rfl), (tb_w 1740 rfl rfl), ⟨_, _, rfl⟩, ⟨by decide +kernel, rfl⟩⟩, fun h => absurd h (by decide)⟩
set_option maxRecDepth 20000 in
theorem kf_268 : g_Q 268 := fun xs => ⟨fun h => absurd h (by decide), fun _ => ⟨⟨(tb_w 13 rfl rfl), (tb_w 1745 rfl rfl), by decide +kernel, by decide +kernel, (show (parseMethodDescriptor (g_y 268).desc).map (fun d => d.parameters.length) = some 1 by decide +kernel)⟩, (tb_w 1743 rfl rfl), (tb_w 1744 rfl rfl), ⟨_, _, rfl⟩, ⟨by decide +kernel, rfl⟩⟩, fun h => absurd h (by decide)⟩
set_option maxRecDepth 20000 in
theorem kf_269 : g_Q 269 := fun xs => ⟨fun h => absurd h (by decide), fun _ => ⟨⟨(tb_w 13 rfl rfl), (tb_w 1749 rfl rfl), by decide +kernel, by decide +kernel, (show (parseMethodDescriptor (g_y 269).desc).map (fun d => d.parameters.length) = some 0 by decide +kernel)⟩, (tb_w 1748 rfl rfl), (tb_s 169 rfl rfl), ⟨_, _, rfl⟩, ⟨by decide +kernel, rfl⟩⟩, fun h => absurd h (by decide)⟩
set_option maxRecDepth 20000 in
theorem kf_270 : g_Q 270 := fun xs => ⟨fun h => absurd h (by decide), fun _ => ⟨⟨(tb_w 13 rfl rfl), (tb_w 1754 rfl rfl), by decide +kernel, by decide +kernel, (show (parseMethodDescriptor (g_y 270).desc).map (fun d => d.parameters.length) = some 2 by decide +kernel)⟩, (tb_w 1753 rfl rfl), (tb_s 170 rfl rfl), ⟨_, _, rfl⟩, ⟨by decide +kernel, rfl⟩⟩, fun h => absurd h (by decide)⟩
set_option maxRecDepth 20000 in
theorem kf_271 : g_Q 271 := fun xs => ⟨fun h => absurd h (by decide), fun _ => ⟨⟨(tb_w 13 rfl rfl), (tb_w 1758 rfl rfl), by decide +kernel, by decide +kernel, (show (parseMethodDescriptor (g_y 271).desc).map (fun d => d.parameters.length) = some 2 by decide +kernel)⟩, (tb_w 1756 rfl rfl), (tb_w 1757 rfl rfl), ⟨_, _, rfl⟩, ⟨by decide +kernel, rfl⟩⟩, fun h => absurd h (by decide)⟩
set_option maxRecDepth 20000 in
theorem kf_272 : g_Q 272 := fun xs => ⟨fun h => absurd h (by decide), fun _ => ⟨⟨(tb_w 13 rfl rfl), (tb_w 1762 rfl rfl), by decide +kernel, by decide +kernel, (show (parseMethodDescriptor (g_y 272).desc).map (fun d => d.parameters.length) = some 3 by decide +kernel)⟩, (tb_w 1760 rfl rfl), (tb_w 1761 rfl rfl), ⟨_, _, rfl⟩, ⟨by decide +kernel, rfl⟩⟩, fun h => absurd h (by decide)⟩
set_option maxRecDepth 20000 in
theorem kf_273 : g_Q 273 := fun xs => ⟨fun h => absurd h (by decide), fun _ => ⟨⟨(tb_w 13 rfl rfl), (tb_w 1770 rfl rfl), by decide +kernel, by decide +kernel, (show (parseMethodDescriptor (g_y 273).desc).map (fun d => d.parameters.length) = some 1 by decide +kernel)⟩, (tb_w 1769 rfl rfl), (tb_s 171 rfl rfl), ⟨_, _, rfl⟩, ⟨by decide +kernel, rfl⟩⟩, fun h => absurd h (by decide)⟩
set_option maxRecDepth 20000 in
theorem kf_274 : g_Q 274 := fun xs => ⟨fun h => absurd h (by decide), fun _ => ⟨⟨(tb_w 13 rfl rfl), (tb_w 1774 rfl rfl), by decide +kernel, by decide +kernel, (show (parseMethodDescriptor (g_y 274).desc).map (fun d => d.parameters.length) = some 1 by decide +kernel)⟩, (tb_w 1772 rfl rfl), (tb_w 1773 rfl rfl), ⟨_, _, rfl⟩, ⟨by decide +kernel, rfl⟩⟩, fun h => absurd h (by decide)⟩
set_option maxRecDepth 20000 in
theorem kf_275 : g_Q 275 := fun xs => ⟨fun h => absurd h (by decide), fun _ => ⟨⟨(tb_w 13 rfl rfl), (tb_w 1778 rfl rfl), by decide +kernel, by decide +kernel, (show (parseMethodDescriptor (g_y 275).desc).map (fun d => d.parameters.length) = some 1 by decide +kernel)⟩, (tb_w 1776 rfl rfl), (tb_w 1777 rfl rfl), ⟨_, _, rfl⟩, ⟨by decide +kernel, rfl⟩⟩, fun h => absurd h (by decide)⟩
set_option maxRecDepth 20000 in
theorem kf_276 : g_Q 276 := fun xs => ⟨fun h => absurd h (by decide), fun _ => ⟨⟨(tb_w 13 rfl rfl), (tb_w 1782 rfl rfl), by decide +kernel, by decide +kernel, (show (parseMethodDescriptor (g_y 276).desc).map (fun d => d.parameters.length) = some 5 by decide +kernel)⟩, (tb_w 1780 rfl rfl), (tb_w 1781 rfl rfl), ⟨_, _, rfl⟩, ⟨by decide +kernel, rfl⟩⟩, fun h => absurd h (by decide)⟩
set_option maxRecDepth 20000 in
theorem kf_277 : g_Q 277 := fun xs => ⟨fun h => absurd h (by decide), fun _ => ⟨⟨(tb_w 13 rfl rfl), (tb_w 1786 rfl rfl), by decide +kernel, by decide +kernel, (show (parseMethodDescriptor (g_y 277).desc).map (fun d => d.parameters.length) = some 1 by decide +kernel)⟩, (tb_w 1785 rfl rfl), (tb_s 172 rfl rfl), ⟨_, _, rfl⟩, ⟨by decide +kernel, rfl⟩⟩, fun h => absurd h (by decide)⟩
set_option maxRecDepth 20000 in
theorem kf_278 : g_Q 278 := fun xs => ⟨fun h => absurd h (by decide), fun _ => ⟨⟨(tb_w 13 rfl rfl), (tb_w 1790 rfl rfl), by decide +kernel, by decide +kernel, (show (parseMethodDescriptor (g_y 278).desc).map (fun d => d.parameters.length) = some 1 by decide +kernel)⟩, (tb_w 1788 rfl rfl), (tb_w 1789 rfl rfl), ⟨_, _, rfl⟩, ⟨by decide +kernel, rfl⟩⟩, fun h => absurd h (by decide)⟩
set_option maxRecDepth 20000 in
theorem kf_279 : g_Q 279 := fun xs => ⟨fun h => absurd h (by decide), fun _ => ⟨⟨(tb_w 13 rfl rfl), (tb_w 1794 rfl rfl), by decide +kernel, by decide +kernel, (show (parseMethodDescriptor (g_y 279).desc).map (fun d => d.parameters.length) = some 0 by decide +kernel)⟩, (tb_w 1793 rfl rfl), (tb_s 173 rfl rfl), ⟨_, _, rfl⟩, ⟨by decide +kernel, rfl⟩⟩, fun h => absurd h (by decide)⟩
set_option maxRecDepth 20000 in
theorem kf_280 : g_Q 280 := fun xs => ⟨fun h => absurd h (by decide), fun _ => ⟨⟨(tb_w 13 rfl rfl), (tb_w 1798 rfl rfl), by decide +kernel, by decide +kernel, (show (parseMethodDescriptor (g_y 280).desc).map (fun d => d.parameters.length) = some 3 by decide +kernel)⟩, (tb_w 1797 rfl rfl), (tb_s 174 rfl rfl), ⟨_, _, rfl⟩, ⟨by decide +kernel, rfl⟩⟩, fun h => absurd h (by decide)⟩
set_option maxRecDepth 20000 in
theorem kf_281 : g_Q 281 := fun xs => ⟨fun h => absurd h (by decide), fun _ => ⟨⟨(tb_w 13 rfl rfl), (tb_w 1806 rfl rfl), by decide +kernel, by decide +kernel, (show (parseMethodDescriptor (g_y 281).desc).map (fun d => d.parameters.length) = some 0 by decide +kernel)⟩, (tb_w 1805 rfl rfl), (tb_s 175 rfl rfl), ⟨_, _, rfl⟩, ⟨by decide +kernel, rfl⟩⟩, fun h => absurd h (by decide)⟩
set_option maxRecDepth 20000 in
theorem kf_282 : g_Q 282 := fun xs => ⟨fun h => absurd h (by decide), fun _ => ⟨⟨(tb_w 13 rfl rfl), (tb_w 1810 rfl rfl), by decide +kernel, by decide +kernel, (show (parseMethodDescriptor (g_y 282).desc).map (fun d => d.parameters.length) = some 0 by decide +kernel)⟩, (tb_w 1809 rfl rfl), (tb_s 176 rfl rfl), ⟨_, _, rfl⟩, ⟨by decide +kernel, rfl⟩⟩, fun h => absurd h (by decide)⟩
set_option maxRecDepth 20000 in
theorem kf_283 : g_Q 283 := fun xs => ⟨fun h => absurd h (by decide), fun _ => ⟨⟨(tb_w 13 rfl rfl), (tb_w 1814 rfl rfl), by decide +kernel, by decide +kernel, (show (parseMethodDescriptor (g_y 283).desc).map (fun d => d.parameters.length) = some 1 by decide +kernel)⟩, (tb_w 1813 rfl rfl), (tb_s 177 rfl rfl), ⟨_, _, rfl⟩, ⟨by decide +kernel, rfl⟩⟩, fun h => absurd h (by decide)⟩
set_option maxRecDepth 20000 in
theorem kf_284 : g_Q 284 := fun xs => ⟨fun h => absurd h (by decide), fun _ => ⟨⟨(tb_w 13 rfl rfl), (tb_w 1818 rfl rfl), by decide +kernel, by decide +kernel, (show (parseMethodDescriptor (g_y 284).desc).map (fun d => d.parameters.length) = some 0 by decide +kernel)⟩, (tb_w 1817 rfl rfl), (tb_s 178 rfl rfl), ⟨_, _, rfl⟩, ⟨by decide +kernel, rfl⟩⟩, fun h => absurd h (by decide)⟩
set_option maxRecDepth 20000 in
theorem kf_285 : g_Q 285 := fun xs => ⟨fun h => absurd h (by decide), fun _ => ⟨⟨(tb_w 13 rfl rfl), (tb_w 1822 rfl rfl), by decide +kernel, by decide +kernel, (show (parseMethodDescriptor (g_y 285).desc).map (fun d => d.parameters.length) = some 2 by decide +kernel)⟩, (tb_w 1821 rfl rfl), (tb_s 179 rfl rfl), ⟨_, _, rfl⟩, ⟨by decide +kernel, rfl⟩⟩, fun h => absurd h (by decide)⟩
set_option maxRecDepth 20000 in
theorem kf_286 : g_Q 286 := fun xs => ⟨fun h => absurd h (by decide), fun _ => ⟨⟨(tb_w 13 rfl rfl), (tb_w 1826 rfl rfl), by decide +kernel, by decide +kernel, (show (parseMethodDescriptor (g_y 286).desc).map (fun d => d.parameters.length) = some 2 by decide +kernel)⟩, (tb_w 1825 rfl rfl), (tb_s 180 rfl rfl), ⟨_, _, rfl⟩, ⟨by decide +kernel, rfl⟩⟩, fun h => absurd h (by decide)⟩
set_option maxRecDepth 20000 in
theorem kf_287 : g_Q 287 := fun xs => ⟨fun h => absurd h (by decide), fun _ => ⟨⟨(tb_w 13 rfl rfl), (tb_w 1830 rfl rfl), by decide +kernel, by decide +kernel, (show (parseMethodDescriptor (g_y 287).desc).map (fun d => d.parameters.length) = some 0 by decide +kernel)⟩, (tb_w 1829 rfl rfl), (tb_s 181 rfl rfl), ⟨_, _, rfl⟩, ⟨by decide +kernel, rfl⟩⟩, fun h => absurd h (by decide)⟩
set_option maxRecDepth 20000 in
theorem kf_288 : g_Q 288 := fun xs => ⟨fun h => absurd h (by decide), fun _ => ⟨⟨(tb_w 13 rfl rfl), (tb_w 1834 rfl rfl), by decide +kernel, by decide +kernel, (show (parseMethodDescriptor (g_y 288).desc).map (fun d => d.parameters.length) = some 0 by decide +kernel)⟩, (tb_w 1833 rfl rfl), (tb_s 182 rfl rfl), ⟨_, _, rfl⟩, ⟨by decide +kernel, rfl⟩⟩, fun h => absurd h (by decide)⟩
set_option maxRecDepth 20000 in
theorem kf_289 : g_Q 289 := fun xs => ⟨fun h => absurd h (by decide), fun _ => ⟨⟨(tb_w 13 rfl rfl), (tb_w 1838 rfl rfl), by decide +kernel, by decide +kernel, (show (parseMethodDescriptor (g_y 289).desc).map (fun d => d.parameters.length) = some 0 by decide +kernel)⟩, (tb_w 1837 rfl rfl), (tb_s 183 rfl rfl), ⟨_, _, rfl⟩, ⟨by decide +kernel, rfl⟩⟩, fun h => absurd h (by decide)⟩
set_option maxRecDepth 20000 in
theorem kf_290 : g_Q 290 := fun xs => ⟨fun h => absurd h (by decide), fun _ => ⟨⟨(tb_w 13 rfl rfl), (tb_w 1842 rfl rfl), by decide +kernel, by decide +kernel, (show (parseMethodDescriptor (g_y 290).desc).map (fun d => d.parameters.length) = some 0 by decide +kernel)⟩, (tb_w 1841 rfl rfl), (tb_s 184 rfl rfl), ⟨_, _, rfl⟩, ⟨by decide +kernel, rfl⟩⟩, fun h => absurd h (by decide)⟩
set_option maxRecDepth 20000 in
theorem kf_291 : g_Q 291 := fun xs => ⟨fun h => absurd h (by decide), fun _ => ⟨⟨(tb_w 13 rfl rfl), (tb_w 1846 rfl rfl), by decide +kernel, by decide +kernel, (show (parseMethodDescriptor (g_y 291).desc).map (fun d => d.parameters.length) = some 1 by decide +kernel)⟩, (tb_w 1845 rfl rfl), (tb_s 185 rfl rfl), ⟨_, _, rfl⟩, ⟨by decide +kernel, rfl⟩⟩, fun h => absurd h (by decide)⟩
set_option maxRecDepth 20000 in
theorem kf_292 : g_Q 292 := fun xs => ⟨fun h => absurd h (by decide), fun _ => ⟨⟨(tb_w 13 rfl rfl), (tb_w 1850 rfl rfl), by decide +kernel, by decide +kernel, (show (parseMethodDescriptor (g_y 292).desc).map (fun d => d.parameters.length) = some 1 by decide +kernel)⟩, (tb_w 1849 rfl rfl), (tb_s 186 rfl rfl), ⟨_, _, rfl⟩, ⟨by decide +kernel, rfl⟩⟩, fun h => absurd h (by decide)⟩
set_option maxRecDepth 20000 in
theorem kf_293 : g_Q 293 := fun xs => ⟨fun h => absurd h (by decide), fun _ => ⟨⟨(tb_w 13 rfl rfl), (tb_w 1854 rfl rfl), by decide +kernel, by decide +kernel, (show (parseMethodDescriptor (g_y 293).desc).map (fun d => d.parameters.length) = some 4 by decide +kernel)⟩, (tb_w 1853 rfl rfl), (tb_s 187 rfl rfl), ⟨_, _, rfl⟩, ⟨by decide +kernel, rfl⟩⟩, fun h => absurd h (by decide)⟩
set_option maxRecDepth 20000 in
theorem kf_294 : g_Q 294 := fun xs => ⟨fun h => absurd h (by decide), fun _ => ⟨⟨(tb_w 13 rfl rfl), (tb_w 1858 rfl rfl), by decide +kernel, by decide +kernel, (show (parseMethodDescriptor (g_y 294).desc).map (fun d => d.parameters.length) = some 2 by decide +kernel)⟩, (tb_w 1857 rfl rfl), (tb_s 188 rfl rfl), ⟨_, _, rfl⟩, ⟨by decide +kernel, rfl⟩⟩, fun h => absurd h (by decide)⟩
set_option maxRecDepth 20000 in
theorem kf_295 : g_Q 295 := fun xs => ⟨fun _ => ⟨⟨(tb_w 13 rfl rfl), (tb_w 1861 rfl rfl), by decide +kernel, by decide +kernel, (show (parseMethodDescriptor (g_y 295).desc).map (fun d => d.parameters.length) = some 2 by decide +kernel)⟩, (tb_w 1860 rfl rfl), ⟨by decide +kernel, rfl⟩⟩, fun h => absurd h (by decide), fun h => absurd h (by decide)⟩
set_option maxRecDepth 20000 in
theorem kf_296 : g_Q 296 := fun xs => ⟨fun h => absurd h (by decide), fun _ => ⟨⟨(tb_w 13 rfl rfl), (tb_w 1865 rfl rfl), by decide +kernel, by decide +kernel, (show (parseMethodDescriptor (g_y 296).desc).map (fun d => d.parameters.length) = some 3 by decide +kernel)⟩, (tb_w 1864 rfl rfl), (tb_s 189 rfl rfl), ⟨_, _, rfl⟩, ⟨by decide +kernel, rfl⟩⟩, fun h => absurd h (by decide)⟩
set_option maxRecDepth 20000 in
theorem kf_297 : g_Q 297 := fun xs => ⟨fun h => absurd h (by decide), fun _ => ⟨⟨(tb_w 13 rfl rfl), (tb_w 1869 rfl rfl), by decide +kernel, by decide +kernel, (show (parseMethodDescriptor (g_y 297).desc).map (fun d => d.parameters.length) = some 1 by decide +kernel)⟩, (tb_w 1868 rfl rfl), (tb_s 190 rfl rfl), ⟨_, _, rfl⟩, ⟨by decide +kernel, rfl⟩⟩, fun h => absurd h (by decide)⟩
set_option maxRecDepth 20000 in
theorem kf_298 : g_Q 298 := fun xs => ⟨fun h => absurd h (by decide), fun _ => ⟨⟨(tb_w 13 rfl rfl), (tb_w 1873 rfl rfl), by decide +kernel, by decide +kernel, (show (parseMethodDescriptor (g_y 298).desc).map (fun d => d.parameters.length) = some 2 by decide +kernel)⟩, (tb_w 1872 rfl rfl), (tb_s 191 rfl rfl), ⟨_, _, rfl⟩, ⟨by decide +kernel, rfl⟩⟩, fun h => absurd h (by decide)⟩
set_option maxRecDepth 20000 in
theorem kf_299 : g_Q 299 := fun xs => ⟨fun h => absurd h (by decide), fun _ => ⟨⟨(tb_w 13 rfl rfl), (tb_w 1877 rfl rfl), by decide +kernel, by decide +kernel, (show (parseMethodDescriptor (g_y 299).desc).map (fun d => d.parameters.length) = some 0 by decide +kernel)⟩, (tb_w 1876 rfl rfl), (tb_s 192 rfl rfl), ⟨_, _, rfl⟩, ⟨by decide +kernel, rfl⟩⟩, fun h => absurd h (by decide)⟩
set_option maxRecDepth 20000 in
theorem kf_300 : g_Q 300 := fun xs => ⟨fun h => absurd h (by decide), fun _ => ⟨⟨(tb_w 13 rfl rfl), (tb_w 1881 rfl rfl), by decide +kernel, by decide +kernel, (show (parseMethodDescriptor (g_y 300).desc).map (fun d => d.parameters.length) = some 2 by decide +kernel)⟩, (tb_w 1880 rfl rfl), (tb_s 193 rfl rfl), ⟨_, _, rfl⟩, ⟨by decide +kernel, rfl⟩⟩, fun h => absurd h (by decide)⟩
set_option maxRecDepth 20000 in
theorem kf_301 : g_Q 301 := fun xs => ⟨fun h => absurd h (by decide), fun _ => ⟨⟨(tb_w 13 rfl rfl), (tb_w 1885 rfl rfl), by decide +kernel, by decide +kernel, (show (parseMethodDescriptor (g_y 301).desc).map (fun d => d.parameters.length) = some 2 by decide +kernel)⟩, (tb_w 1884 rfl rfl), (tb_s 194 rfl rfl), ⟨_, _, rfl⟩, ⟨by decide +kernel, rfl⟩⟩, fun h => absurd h (by decide)⟩
set_option maxRecDepth 20000 in
theorem kf_302 : g_Q 302 := fun xs => ⟨fun h => absurd h (by decide), fun _ => ⟨⟨(tb_w 13 rfl rfl), (tb_w 1889 rfl rfl), by decide +kernel, by decide +kernel, (show (parseMethodDescriptor (g_y 302).desc).map (fun d => d.parameters.length) = some 3 by decide +kernel)⟩, (tb_w 1888 rfl rfl), (tb_s 195 rfl rfl), ⟨_, _, rfl⟩, ⟨by decide +kernel, rfl⟩⟩, fun h => absurd h (by decide)⟩
set_option maxRecDepth 20000 in
theorem kf_303 : g_Q 303 := fun xs => ⟨fun h => absurd h (by decide), fun _ => ⟨⟨(tb_w 13 rfl rfl), (tb_w 1893 rfl rfl), by decide +kernel, by decide +kernel, (show (parseMethodDescriptor (g_y 303).desc).map (fun d => d.parameters.length) = some 1 by decide +kernel)⟩, (tb_w 1892 rfl rfl), (tb_s 196 rfl rfl), ⟨_, _, rfl⟩, ⟨by decide +kernel, rfl⟩⟩, fun h => absurd h (by decide)⟩
set_option maxRecDepth 20000 in
theorem kf_304 : g_Q 304 := fun xs => ⟨fun h => absurd h (by decide), fun _ => ⟨⟨(tb_w 13 rfl rfl), (tb_w 1897 rfl rfl), by decide +kernel, by decide +kernel, (show (parseMethodDescriptor (g_y 304).desc).map (fun d => d.parameters.length) = some 2 by decide +kernel)⟩, (tb_w 1896 rfl rfl), (tb_s 197 rfl rfl), ⟨_, _, rfl⟩, ⟨by decide +kernel, rfl⟩⟩, fun h => absurd h (by decide)⟩
set_option maxRecDepth 20000 in
theorem kf_305 : g_Q 305 := fun xs => ⟨fun h => absurd h (by decide), fun _ => ⟨⟨(tb_w 13 rfl rfl), (tb_w 1901 rfl rfl), by decide +kernel, by decide +kernel, (show (parseMethodDescriptor (g_y 305).desc).map (fun d => d.parameters.length) = some 2 by decide +kernel)⟩, (tb_w 1900 rfl rfl), (tb_s 198 rfl rfl), ⟨_, _, rfl⟩, ⟨by decide +kernel, rfl⟩⟩, fun h => absurd h (by decide)⟩
set_option maxRecDepth 20000 in
theorem kf_306 : g_Q 306 := fun xs => ⟨fun h => absurd h (by decide), fun _ => ⟨⟨(tb_w 13 rfl rfl), (tb_w 1905 rfl rfl), by decide +kernel, by decide +kernel, (show (parseMethodDescriptor (g_y 306).desc).map (fun d => d.parameters.length) = some 1 by decide +kernel)⟩, (tb_w 1903 rfl rfl), (tb_w 1904 rfl rfl), ⟨_, _, rfl⟩, ⟨by decide +kernel, rfl⟩⟩, fun h => absurd h (by decide)⟩
set_option maxRecDepth 20000 in
theorem kf_307 : g_Q 307 := fun xs => ⟨fun h => absurd h (by decide), fun _ => ⟨⟨(tb_w 13 rfl rfl), (tb_w 1909 rfl rfl), by decide +kernel, by decide +kernel, (show (parseMethodDescriptor (g_y 307).desc).map (fun d => d.parameters.length) = some 0 by decide +kernel)⟩, (tb_w 1907 rfl rfl), (tb_w 1908 rfl rfl), ⟨_, _, rfl⟩, ⟨by decide +kernel, rfl⟩⟩, fun h => absurd h (by decide)⟩
set_option maxRecDepth 20000 in
theorem kf_308 : g_Q 308 := fun xs => ⟨fun h => absurd h (by decide), fun _ => ⟨⟨(tb_w 13 rfl rfl), (tb_w 1913 rfl rfl), by decide +kernel, by decide +kernel, (show (parseMethodDescriptor (g_y 308).desc).map (fun d => d.parameters.length) = some 1 by decide +kernel)⟩, (tb_w 1912 rfl rfl), (tb_s 199 rfl rfl), ⟨_, _, rfl⟩, ⟨by decide +kernel, rfl⟩⟩, fun h => absurd h (by decide)⟩
set_option maxRecDepth 20000 in
theorem kf_309 : g_Q 309 := fun xs => ⟨fun h => absurd h (by decide), fun _ => ⟨⟨(tb_w 13 rfl rfl), (tb_w 1917 rfl rfl), by decide +kernel, by decide +kernel, (show (parseMethodDescriptor (g_y 309).desc).map (fun d => d.parameters.length) = some 2 by decide +kernel)⟩, (tb_w 1916 rfl rfl), (tb_s 200 rfl rfl), ⟨_, _, rfl⟩, ⟨by decide +kernel, rfl⟩⟩, fun h => absurd h (by decide)⟩
set_option maxRecDepth 20000 in
theorem kf_310 : g_Q 310 := fun xs => ⟨fun h => absurd h (by decide), fun _ => ⟨⟨(tb_w 13 rfl rfl), (tb_w 1921 rfl rfl), by decide +kernel, by decide +kernel, (show (parseMethodDescriptor (g_y 310).desc).map (fun d => d.parameters.length) = some 1 by decide +kernel)⟩, (tb_w 1920 rfl rfl), (tb_s 201 rfl rfl), ⟨_, _, rfl⟩, ⟨by decide +kernel, rfl⟩⟩, fun h => absurd h (by decide)⟩
set_option maxRecDepth 20000 in
theorem kf_311 : g_Q 311 := fun xs => ⟨fun h => absurd h (by decide), fun _ => ⟨⟨(tb_w 13 rfl rfl), (tb_w 1925 rfl rfl), by decide +kernel, by decide +kernel, (show (parseMethodDescriptor (g_y 311).desc).map (fun d => d.parameters.length) = some 1 by decide +kernel)⟩, (tb_w 1924 rfl rfl), (tb_s 202 rfl rfl), ⟨_, _, rfl⟩, ⟨by decide +kernel, rfl⟩⟩, fun h => absurd h (by decide)⟩
set_option maxRecDepth 20000 in
theorem kf_312 : g_Q 312 := fun xs => ⟨fun h => absurd h (by decide), fun _ => ⟨⟨(tb_w 13 rfl rfl), (tb_w 1929 rfl rfl), by decide +kernel, by decide +kernel, (show (parseMethodDescriptor (g_y 312).desc).map (fun d => d.parameters.length) = some 1 by decide +kernel)⟩, (tb_w 1928 rfl rfl), (tb_s 203 rfl rfl), ⟨_, _, rfl⟩, ⟨by decide +kernel, rfl⟩⟩, fun h => absurd h (by decide)⟩
set_option maxRecDepth 20000 in
theorem kf_313 : g_Q 313 := fun xs => ⟨fun h => absurd h (by decide), fun _ => ⟨⟨(tb_w 13 rfl rfl), (tb_w 1933 rfl rfl), by decide +kernel, by decide +kernel, (show (parseMethodDescriptor (g_y 313).desc).map (fun d => d.parameters.length) = some 1 by decide +kernel)⟩, (tb_w 1932 rfl rfl), (tb_s 204 rfl rfl), ⟨_, _, rfl⟩, ⟨by decide +kernel, rfl⟩⟩, fun h => absurd h (by decide)⟩
set_option maxRecDepth 20000 in
theorem kf_314 : g_Q 314 := fun xs => ⟨fun h => absurd h (by decide), fun _ => ⟨⟨(tb_w 13 rfl rfl), (tb_w 1937 rfl rfl), by decide +kernel, by decide +kernel, (show (parseMethodDescriptor (g_y 314).desc).map (fun d => d.parameters.length) = some 1 by decide +kernel)⟩, (tb_w 1935 rfl rfl), (tb_w 1936 rfl rfl), ⟨_, _, rfl⟩, ⟨by decide +kernel, rfl⟩⟩, fun h => absurd h (by decide)⟩
theorem kfA_64 : ∀ a, a < 64 → g_Q a := (lt_s (lt_s (lt_s (lt_s (lt_s (lt_s (lt_s (lt_s (lt_s (lt_s (lt_s (lt_s (lt_s (lt_s (lt_s (lt_s (lt_s (lt_s (lt_s (lt_s (lt_s (lt_s (lt_s (lt_s (lt_s (lt_s (lt_s (lt_s (lt_s (lt_s (lt_s (lt_s (lt_s (lt_s (lt_s (lt_s (lt_s (lt_s (lt_s (lt_s (lt_s (lt_s (lt_s (lt_s (lt_s (lt_s (lt_s (lt_s (lt_s (lt_s (lt_s (lt_s (lt_s (lt_s (lt_s (lt_s (lt_s (lt_s (lt_s (lt_s (lt_s (lt_s (lt_s (lt_s lt_0 kf_0) kf_1) kf_2) kf_3) kf_4) kf_5) kf_6) kf_7) kf_8) kf_9) kf_10) kf_11) kf_12) kf_13) kf_14) kf_15) kf_16) kf_17) kf_18) kf_19) kf_20) kf_21) kf_22) kf_23) kf_24) kf_25) kf_26) kf_27) kf_28) kf_29) kf_30) kf_31) kf_32) kf_33) kf_34) kf_35) kf_36) kf_37) kf_38) kf_39) kf_40) kf_41) kf_42) kf_43) kf_44) kf_45) kf_46) kf_47) kf_48) kf_49) kf_50) kf_51) kf_52) kf_53) kf_54) kf_55) kf_56) kf_57) kf_58) kf_59) kf_60) kf_61) kf_62) kf_63)
theorem kfA_128 : ∀ a, a < 128 → g_Q a := (lt_s (lt_s (lt_s (lt_s (lt_s (lt_s (lt_s (lt_s (lt_s (lt_s (lt_s (lt_s (lt_s (lt_s (lt_s (lt_s (lt_s (lt_s (lt_s (lt_s (lt_s (lt_s (lt_s (lt_s (lt_s (lt_s (lt_s (lt_s (lt_s (lt_s (lt_s (lt_s (lt_s (lt_s (lt_s (lt_s (lt_s (lt_s (lt_s (lt_s (lt_s (lt_s (lt_s (lt_s (lt_s (lt_s (lt_s (lt_s (lt_s (lt_s (lt_s (lt_s (lt_s (lt_s (lt_s (lt_s (lt_s (lt_s (lt_s (lt_s (lt_s (lt_s (lt_s (lt_s kfA_64 kf_64) kf_65) kf_66) kf_67) kf_68) kf_69) kf_70) kf_71) kf_72) kf_73) kf_74) kf_75) kf_76) kf_77) kf_78) kf_79) kf_80) kf_81) kf_82) kf_83) kf_84) kf_85) kf_86) kf_87) kf_88) kf_89) kf_90) kf_91) kf_92) kf_93) kf_94) kf_95) kf_96) kf_97) kf_98) kf_99) kf_100) kf_101) kf_102) kf_103) kf_104) kf_105) kf_106) kf_107) kf_108) kf_109) kf_110) kf_111) kf_112) kf_113) kf_114) kf_115) kf_116) kf_117) kf_118) kf_119) kf_120) kf_121) kf_122) kf_123) kf_124) kf_125) kf_126) kf_127)
theorem kfA_192 : ∀ a, a < 192 → g_Q a := (lt_s (lt_s (lt_s (lt_s (lt_s (lt_s (lt_s (lt_s (lt_s (lt_s (lt_s (lt_s (lt_s (lt_s (lt_s (lt_s (lt_s (lt_s (lt_s (lt_s (lt_s (lt_s (lt_s (lt_s (lt_s (lt_s (lt_s (lt_s (lt_s (lt_s (lt_s (lt_s (lt_s (lt_s (lt_s (lt_s (lt_s (lt_s (lt_s (lt_s (lt_s (lt_s (lt_s (lt_s (lt_s (lt_s (lt_s (lt_s (lt_s (lt_s (lt_s (lt_s (lt_s (lt_s (lt_s (lt_s (lt_s (lt_s (lt_s (lt_s (lt_s (lt_s (lt_s (lt_s kfA_128 kf_128) kf_129) kf_130) kf_131) kf_132) kf_133) kf_134) kf_135) kf_136) kf_137) kf_138) kf_139) kf_140) kf_141) kf_142) kf_143) kf_144) kf_145) kf_146) kf_147) kf_148) kf_149) kf_150) kf_151) kf_152) kf_153) kf_154) kf_155) kf_156) kf_157) kf_158) kf_159) kf_160) kf_161) kf_162) kf_163) kf_164) kf_165) kf_166) kf_167) kf_168) kf_169) kf_170) kf_171) kf_172) kf_173) kf_174) kf_175) kf_176) kf_177) kf_178) kf_179) kf_180) kf_181) kf_182) kf_183) kf_184) kf_185) kf_186) kf_187) kf_188) kf_189) kf_190) kf_191)
theorem kfA_256 : ∀ a, a < 256 → g_Q a := (lt_s (lt_s (lt_s (lt_s (lt_s (lt_s (lt_s (lt_s (lt_s (lt_s (lt_s (lt_s (lt_s (lt_s (lt_s (lt_s (lt_s (lt_s (lt_s (lt_s (lt_s (lt_s (lt_s (lt_s (lt_s (lt_s (lt_s (lt_s (lt_s (lt_s (lt_s (lt_s (lt_s (lt_s (lt_s (lt_s (lt_s (lt_s (lt_s (lt_s (lt_s (lt_s (lt_s (lt_s (lt_s (lt_s (lt_s (lt_s (lt_s (lt_s (lt_s (lt_s (lt_s (lt_s (lt_s (lt_s (lt_s (lt_s (lt_s (lt_s (lt_s (lt_s (lt_s (lt_s kfA_192 kf_192) kf_193) kf_194) kf_195) kf_196) kf_197) kf_198) kf_199) kf_200) kf_201) kf_202) kf_203) kf_204) kf_205) kf_206) kf_207) kf_208) kf_209) kf_210) kf_211) kf_212) kf_213) kf_214) kf_215) kf_216) kf_217) kf_218) kf_219) kf_220) kf_221) kf_222) kf_223) kf_224) kf_225) kf_226) kf_227) kf_228) kf_229) kf_230) kf_231) kf_232) kf_233) kf_234) kf_235) kf_236) kf_237) kf_238) kf_239) kf_240) kf_241) kf_242) kf_243) kf_244) kf_245) kf_246) kf_247) kf_248) kf_249) kf_250) kf_251) kf_252) kf_253) kf_254) kf_255)
theorem kfA_315 : ∀ a, a < 315 → g_Q a := (lt_s (lt_s (lt_s (lt_s (lt_s (lt_s (lt_s (lt_s (lt_s (lt_s (lt_s (lt_s (lt_s (lt_s (lt_s (lt_s (lt_s (lt_s (lt_s (lt_s (lt_s (lt_s (lt_s (lt_s (lt_s (lt_s (lt_s (lt_s (lt_s (lt_s (lt_s (lt_s (lt_s (lt_s (lt_s (lt_s (lt_s (lt_s (lt_s (lt_s (lt_s (lt_s (lt_s (lt_s (lt_s (lt_s (lt_s (lt_s (lt_s (lt_s (lt_s (lt_s (lt_s (lt_s (lt_s (lt_s (lt_s (lt_s (lt_s kfA_256 kf_256) kf_257) kf_258) kf_259) kf_260) kf_261) kf_262) kf_263) kf_264) kf_265) kf_266) kf_267) kf_268) kf_269) kf_270) kf_271) kf_272) kf_273) kf_274) kf_275) kf_276) kf_277) kf_278) kf_279) kf_280) kf_281) kf_282) kf_283) kf_284) kf_285) kf_286) kf_287) kf_288) kf_289) kf_290) kf_291) kf_292) kf_293) kf_294) kf_295) kf_296) kf_297) kf_298) kf_299) kf_300) kf_301) kf_302) kf_303) kf_304) kf_305) kf_306) kf_307) kf_308) kf_309) kf_310) kf_311) kf_312) kf_313) kf_314)
theorem kfA : ∀ k, g_Q k := by
  intro k
  by_cases h : k < 315
  · exact kfA_315 k h
  · have e : gKnd k = 0 := by
      unfold gKnd
      rw [List.getD_eq_getElem?_getD, List.getElem?_eq_none_iff.mpr (by have : gKn.length = 315 := by decide +kernel
                                                                        omega)]
      rfl
    intro xs
    rw [e]
    exact ⟨fun h => absurd h (by decide), fun h => absurd h (by decide), fun h => absurd h (by decide)⟩
end
