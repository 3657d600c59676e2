section
-- ===== PART A: goes FIRST, ahead of the names: the tables' words, and 'selects' of the private methods out of them =====
/-- a private method of a class that the tables say can be made, by its rows of tables_1 -/
def lw_okq (q : MethodName × Nat) : Prop := (q.1.cls ≠ "java/lang/invoke/MethodHandle" ∧ q.1.cls ≠ "java/lang/invoke/VarHandle") ∧ Cond.instantiable q.1.cls q.2 ∈ tables_1 ∧ Cond.privateMethod q.1 ∈ tables_1 ∧ Cond.instanceMethod q.1 ∈ tables_1
theorem lw_p0 : lw_okq (⟨"LastWord$Text", "nextToken", "()V"⟩, 7) := ⟨⟨by decide +kernel, by decide +kernel⟩, List.mem_of_getElem? (i := 22) (by decide +kernel), List.mem_of_getElem? (i := 269) (by decide +kernel), List.mem_of_getElem? (i := 270) (by decide +kernel)⟩
theorem lw_p1 : lw_okq (⟨"LastWord$Text", "takeDigits", "()V"⟩, 7) := ⟨⟨by decide +kernel, by decide +kernel⟩, List.mem_of_getElem? (i := 22) (by decide +kernel), List.mem_of_getElem? (i := 276) (by decide +kernel), List.mem_of_getElem? (i := 277) (by decide +kernel)⟩
theorem lw_p2 : lw_okq (⟨"LastWord$Text", "readWriter", "(LLastWord$Page;)Z"⟩, 7) := ⟨⟨by decide +kernel, by decide +kernel⟩, List.mem_of_getElem? (i := 22) (by decide +kernel), List.mem_of_getElem? (i := 280) (by decide +kernel), List.mem_of_getElem? (i := 281) (by decide +kernel)⟩
theorem lw_p3 : lw_okq (⟨"LastWord$Text", "readNumber", "(II)Z"⟩, 7) := ⟨⟨by decide +kernel, by decide +kernel⟩, List.mem_of_getElem? (i := 22) (by decide +kernel), List.mem_of_getElem? (i := 284) (by decide +kernel), List.mem_of_getElem? (i := 285) (by decide +kernel)⟩
theorem lw_p4 : lw_okq (⟨"LastWord$Text", "readTerm", "(LLastWord$Page;)Z"⟩, 7) := ⟨⟨by decide +kernel, by decide +kernel⟩, List.mem_of_getElem? (i := 22) (by decide +kernel), List.mem_of_getElem? (i := 288) (by decide +kernel), List.mem_of_getElem? (i := 289) (by decide +kernel)⟩
theorem lw_p5 : lw_okq (⟨"LastWord$Text", "readSemicolon", "()Z"⟩, 7) := ⟨⟨by decide +kernel, by decide +kernel⟩, List.mem_of_getElem? (i := 22) (by decide +kernel), List.mem_of_getElem? (i := 292) (by decide +kernel), List.mem_of_getElem? (i := 293) (by decide +kernel)⟩
theorem lw_p6 : lw_okq (⟨"LastWord", "mayStand", "(II)Z"⟩, 10) := ⟨⟨by decide +kernel, by decide +kernel⟩, List.mem_of_getElem? (i := 14) (by decide +kernel), List.mem_of_getElem? (i := 350) (by decide +kernel), List.mem_of_getElem? (i := 351) (by decide +kernel)⟩
theorem lw_p7 : lw_okq (⟨"LastWord$Affairs", "print", "(LLastWord$Page;III)V"⟩, 11) := ⟨⟨by decide +kernel, by decide +kernel⟩, List.mem_of_getElem? (i := 89) (by decide +kernel), List.mem_of_getElem? (i := 388) (by decide +kernel), List.mem_of_getElem? (i := 389) (by decide +kernel)⟩
theorem lw_p8 : lw_okq (⟨"LastWord$Affairs", "charge", "(LLastWord$Page;I)V"⟩, 11) := ⟨⟨by decide +kernel, by decide +kernel⟩, List.mem_of_getElem? (i := 89) (by decide +kernel), List.mem_of_getElem? (i := 392) (by decide +kernel), List.mem_of_getElem? (i := 393) (by decide +kernel)⟩
theorem lw_p9 : lw_okq (⟨"LastWord$Affairs", "onDeskOf", "(I)I"⟩, 11) := ⟨⟨by decide +kernel, by decide +kernel⟩, List.mem_of_getElem? (i := 89) (by decide +kernel), List.mem_of_getElem? (i := 405) (by decide +kernel), List.mem_of_getElem? (i := 406) (by decide +kernel)⟩
theorem lw_p10 : lw_okq (⟨"LastWord$Affairs", "turnsLate", "(II)Z"⟩, 11) := ⟨⟨by decide +kernel, by decide +kernel⟩, List.mem_of_getElem? (i := 89) (by decide +kernel), List.mem_of_getElem? (i := 413) (by decide +kernel), List.mem_of_getElem? (i := 414) (by decide +kernel)⟩
theorem lw_p11 : lw_okq (⟨"LastWord", "daysTillClosed", "(I)I"⟩, 10) := ⟨⟨by decide +kernel, by decide +kernel⟩, List.mem_of_getElem? (i := 14) (by decide +kernel), List.mem_of_getElem? (i := 442) (by decide +kernel), List.mem_of_getElem? (i := 443) (by decide +kernel)⟩
theorem lw_p12 : lw_okq (⟨"LastWord", "hasLastWord", "(III)Z"⟩, 10) := ⟨⟨by decide +kernel, by decide +kernel⟩, List.mem_of_getElem? (i := 14) (by decide +kernel), List.mem_of_getElem? (i := 460) (by decide +kernel), List.mem_of_getElem? (i := 461) (by decide +kernel)⟩
theorem lw_p13 : lw_okq (⟨"LastWord$Affairs", "workUpTo", "(II)I"⟩, 11) := ⟨⟨by decide +kernel, by decide +kernel⟩, List.mem_of_getElem? (i := 89) (by decide +kernel), List.mem_of_getElem? (i := 478) (by decide +kernel), List.mem_of_getElem? (i := 479) (by decide +kernel)⟩
theorem lw_p14 : lw_okq (⟨"LastWord", "endsWithout", "(II)Z"⟩, 10) := ⟨⟨by decide +kernel, by decide +kernel⟩, List.mem_of_getElem? (i := 14) (by decide +kernel), List.mem_of_getElem? (i := 498) (by decide +kernel), List.mem_of_getElem? (i := 499) (by decide +kernel)⟩
theorem lw_p15 : lw_okq (⟨"LastWord", "rateOfWriter", "(I)I"⟩, 10) := ⟨⟨by decide +kernel, by decide +kernel⟩, List.mem_of_getElem? (i := 14) (by decide +kernel), List.mem_of_getElem? (i := 550) (by decide +kernel), List.mem_of_getElem? (i := 551) (by decide +kernel)⟩
def lw_privs_1 : List (MethodName × Nat) := [(⟨"LastWord$Text", "nextToken", "()V"⟩, 7), (⟨"LastWord$Text", "takeDigits", "()V"⟩, 7), (⟨"LastWord$Text", "readWriter", "(LLastWord$Page;)Z"⟩, 7), (⟨"LastWord$Text", "readNumber", "(II)Z"⟩, 7), (⟨"LastWord$Text", "readTerm", "(LLastWord$Page;)Z"⟩, 7), (⟨"LastWord$Text", "readSemicolon", "()Z"⟩, 7), (⟨"LastWord", "mayStand", "(II)Z"⟩, 10), (⟨"LastWord$Affairs", "print", "(LLastWord$Page;III)V"⟩, 11), (⟨"LastWord$Affairs", "charge", "(LLastWord$Page;I)V"⟩, 11), (⟨"LastWord$Affairs", "onDeskOf", "(I)I"⟩, 11), (⟨"LastWord$Affairs", "turnsLate", "(II)Z"⟩, 11), (⟨"LastWord", "daysTillClosed", "(I)I"⟩, 10), (⟨"LastWord", "hasLastWord", "(III)Z"⟩, 10), (⟨"LastWord$Affairs", "workUpTo", "(II)I"⟩, 11), (⟨"LastWord", "endsWithout", "(II)Z"⟩, 10), (⟨"LastWord", "rateOfWriter", "(I)I"⟩, 10)]
theorem lw_r1 : ∀ q ∈ lw_privs_1, lw_okq q := List.forall_mem_cons.mpr ⟨lw_p0, List.forall_mem_cons.mpr ⟨lw_p1, List.forall_mem_cons.mpr ⟨lw_p2, List.forall_mem_cons.mpr ⟨lw_p3, List.forall_mem_cons.mpr ⟨lw_p4, List.forall_mem_cons.mpr ⟨lw_p5, List.forall_mem_cons.mpr ⟨lw_p6, List.forall_mem_cons.mpr ⟨lw_p7, List.forall_mem_cons.mpr ⟨lw_p8, List.forall_mem_cons.mpr ⟨lw_p9, List.forall_mem_cons.mpr ⟨lw_p10, List.forall_mem_cons.mpr ⟨lw_p11, List.forall_mem_cons.mpr ⟨lw_p12, List.forall_mem_cons.mpr ⟨lw_p13, List.forall_mem_cons.mpr ⟨lw_p14, List.forall_mem_cons.mpr ⟨lw_p15, fun _ h => absurd h List.not_mem_nil⟩⟩⟩⟩⟩⟩⟩⟩⟩⟩⟩⟩⟩⟩⟩⟩
theorem lw_p16 : lw_okq (⟨"LastWord", "rateOfColonel", "(I)I"⟩, 10) := ⟨⟨by decide +kernel, by decide +kernel⟩, List.mem_of_getElem? (i := 14) (by decide +kernel), List.mem_of_getElem? (i := 554) (by decide +kernel), List.mem_of_getElem? (i := 555) (by decide +kernel)⟩
theorem lw_p17 : lw_okq (⟨"LastWord", "rateOfDuke", "(I)I"⟩, 10) := ⟨⟨by decide +kernel, by decide +kernel⟩, List.mem_of_getElem? (i := 14) (by decide +kernel), List.mem_of_getElem? (i := 559) (by decide +kernel), List.mem_of_getElem? (i := 560) (by decide +kernel)⟩
theorem lw_p18 : lw_okq (⟨"LastWord", "rateOfVicar", "(I)I"⟩, 10) := ⟨⟨by decide +kernel, by decide +kernel⟩, List.mem_of_getElem? (i := 14) (by decide +kernel), List.mem_of_getElem? (i := 564) (by decide +kernel), List.mem_of_getElem? (i := 565) (by decide +kernel)⟩
theorem lw_p19 : lw_okq (⟨"LastWord", "rateOfPoet", "(I)I"⟩, 10) := ⟨⟨by decide +kernel, by decide +kernel⟩, List.mem_of_getElem? (i := 14) (by decide +kernel), List.mem_of_getElem? (i := 569) (by decide +kernel), List.mem_of_getElem? (i := 570) (by decide +kernel)⟩
theorem lw_p20 : lw_okq (⟨"LastWord", "rateOfHeir", "(I)I"⟩, 10) := ⟨⟨by decide +kernel, by decide +kernel⟩, List.mem_of_getElem? (i := 14) (by decide +kernel), List.mem_of_getElem? (i := 574) (by decide +kernel), List.mem_of_getElem? (i := 575) (by decide +kernel)⟩
theorem lw_p21 : lw_okq (⟨"LastWordModel", "plain", "()V"⟩, 18) := ⟨⟨by decide +kernel, by decide +kernel⟩, List.mem_of_getElem? (i := 612) (by decide +kernel), List.mem_of_getElem? (i := 618) (by decide +kernel), List.mem_of_getElem? (i := 619) (by decide +kernel)⟩
theorem lw_p22 : lw_okq (⟨"LastWordModel", "takes", "()V"⟩, 18) := ⟨⟨by decide +kernel, by decide +kernel⟩, List.mem_of_getElem? (i := 612) (by decide +kernel), List.mem_of_getElem? (i := 622) (by decide +kernel), List.mem_of_getElem? (i := 623) (by decide +kernel)⟩
theorem lw_p23 : lw_okq (⟨"LastWordModel", "reads", "()V"⟩, 18) := ⟨⟨by decide +kernel, by decide +kernel⟩, List.mem_of_getElem? (i := 612) (by decide +kernel), List.mem_of_getElem? (i := 697) (by decide +kernel), List.mem_of_getElem? (i := 698) (by decide +kernel)⟩
theorem lw_p24 : lw_okq (⟨"LastWordModel", "readItem", "()Z"⟩, 18) := ⟨⟨by decide +kernel, by decide +kernel⟩, List.mem_of_getElem? (i := 612) (by decide +kernel), List.mem_of_getElem? (i := 706) (by decide +kernel), List.mem_of_getElem? (i := 707) (by decide +kernel)⟩
theorem lw_p25 : lw_okq (⟨"LastWordModel", "number", "(II)Z"⟩, 18) := ⟨⟨by decide +kernel, by decide +kernel⟩, List.mem_of_getElem? (i := 612) (by decide +kernel), List.mem_of_getElem? (i := 710) (by decide +kernel), List.mem_of_getElem? (i := 711) (by decide +kernel)⟩
theorem lw_p26 : lw_okq (⟨"LastWordModel", "itemEnds", "()Z"⟩, 18) := ⟨⟨by decide +kernel, by decide +kernel⟩, List.mem_of_getElem? (i := 612) (by decide +kernel), List.mem_of_getElem? (i := 714) (by decide +kernel), List.mem_of_getElem? (i := 715) (by decide +kernel)⟩
theorem lw_p27 : lw_okq (⟨"LastWordModel", "isWriter", "(I)Z"⟩, 18) := ⟨⟨by decide +kernel, by decide +kernel⟩, List.mem_of_getElem? (i := 612) (by decide +kernel), List.mem_of_getElem? (i := 722) (by decide +kernel), List.mem_of_getElem? (i := 723) (by decide +kernel)⟩
theorem lw_p28 : lw_okq (⟨"LastWordModel", "owes", "(I)I"⟩, 18) := ⟨⟨by decide +kernel, by decide +kernel⟩, List.mem_of_getElem? (i := 612) (by decide +kernel), List.mem_of_getElem? (i := 727) (by decide +kernel), List.mem_of_getElem? (i := 728) (by decide +kernel)⟩
theorem lw_p29 : lw_okq (⟨"LastWordModel", "at", "(II)I"⟩, 18) := ⟨⟨by decide +kernel, by decide +kernel⟩, List.mem_of_getElem? (i := 612) (by decide +kernel), List.mem_of_getElem? (i := 731) (by decide +kernel), List.mem_of_getElem? (i := 732) (by decide +kernel)⟩
theorem lw_p30 : lw_okq (⟨"LastWordModel", "isQuarrel", "(I)Z"⟩, 18) := ⟨⟨by decide +kernel, by decide +kernel⟩, List.mem_of_getElem? (i := 612) (by decide +kernel), List.mem_of_getElem? (i := 739) (by decide +kernel), List.mem_of_getElem? (i := 740) (by decide +kernel)⟩
theorem lw_p31 : lw_okq (⟨"LastWordModel", "meantOf", "(III)I"⟩, 18) := ⟨⟨by decide +kernel, by decide +kernel⟩, List.mem_of_getElem? (i := 612) (by decide +kernel), List.mem_of_getElem? (i := 752) (by decide +kernel), List.mem_of_getElem? (i := 753) (by decide +kernel)⟩
def lw_privs_2 : List (MethodName × Nat) := [(⟨"LastWord", "rateOfColonel", "(I)I"⟩, 10), (⟨"LastWord", "rateOfDuke", "(I)I"⟩, 10), (⟨"LastWord", "rateOfVicar", "(I)I"⟩, 10), (⟨"LastWord", "rateOfPoet", "(I)I"⟩, 10), (⟨"LastWord", "rateOfHeir", "(I)I"⟩, 10), (⟨"LastWordModel", "plain", "()V"⟩, 18), (⟨"LastWordModel", "takes", "()V"⟩, 18), (⟨"LastWordModel", "reads", "()V"⟩, 18), (⟨"LastWordModel", "readItem", "()Z"⟩, 18), (⟨"LastWordModel", "number", "(II)Z"⟩, 18), (⟨"LastWordModel", "itemEnds", "()Z"⟩, 18), (⟨"LastWordModel", "isWriter", "(I)Z"⟩, 18), (⟨"LastWordModel", "owes", "(I)I"⟩, 18), (⟨"LastWordModel", "at", "(II)I"⟩, 18), (⟨"LastWordModel", "isQuarrel", "(I)Z"⟩, 18), (⟨"LastWordModel", "meantOf", "(III)I"⟩, 18)]
theorem lw_r2 : ∀ q ∈ lw_privs_2, lw_okq q := List.forall_mem_cons.mpr ⟨lw_p16, List.forall_mem_cons.mpr ⟨lw_p17, List.forall_mem_cons.mpr ⟨lw_p18, List.forall_mem_cons.mpr ⟨lw_p19, List.forall_mem_cons.mpr ⟨lw_p20, List.forall_mem_cons.mpr ⟨lw_p21, List.forall_mem_cons.mpr ⟨lw_p22, List.forall_mem_cons.mpr ⟨lw_p23, List.forall_mem_cons.mpr ⟨lw_p24, List.forall_mem_cons.mpr ⟨lw_p25, List.forall_mem_cons.mpr ⟨lw_p26, List.forall_mem_cons.mpr ⟨lw_p27, List.forall_mem_cons.mpr ⟨lw_p28, List.forall_mem_cons.mpr ⟨lw_p29, List.forall_mem_cons.mpr ⟨lw_p30, List.forall_mem_cons.mpr ⟨lw_p31, fun _ h => absurd h List.not_mem_nil⟩⟩⟩⟩⟩⟩⟩⟩⟩⟩⟩⟩⟩⟩⟩⟩
theorem lw_p32 : lw_okq (⟨"LastWordModel", "near", "(II)I"⟩, 18) := ⟨⟨by decide +kernel, by decide +kernel⟩, List.mem_of_getElem? (i := 612) (by decide +kernel), List.mem_of_getElem? (i := 756) (by decide +kernel), List.mem_of_getElem? (i := 757) (by decide +kernel)⟩
theorem lw_p33 : lw_okq (⟨"LastWordModel", "hasLaid", "(I)Z"⟩, 18) := ⟨⟨by decide +kernel, by decide +kernel⟩, List.mem_of_getElem? (i := 612) (by decide +kernel), List.mem_of_getElem? (i := 768) (by decide +kernel), List.mem_of_getElem? (i := 769) (by decide +kernel)⟩
theorem lw_p34 : lw_okq (⟨"LastWordModel", "notes", "()V"⟩, 18) := ⟨⟨by decide +kernel, by decide +kernel⟩, List.mem_of_getElem? (i := 612) (by decide +kernel), List.mem_of_getElem? (i := 772) (by decide +kernel), List.mem_of_getElem? (i := 773) (by decide +kernel)⟩
theorem lw_p35 : lw_okq (⟨"LastWordModel", "prints", "(III)V"⟩, 18) := ⟨⟨by decide +kernel, by decide +kernel⟩, List.mem_of_getElem? (i := 612) (by decide +kernel), List.mem_of_getElem? (i := 776) (by decide +kernel), List.mem_of_getElem? (i := 777) (by decide +kernel)⟩
theorem lw_p36 : lw_okq (⟨"LastWordModel", "means", "(I)V"⟩, 18) := ⟨⟨by decide +kernel, by decide +kernel⟩, List.mem_of_getElem? (i := 612) (by decide +kernel), List.mem_of_getElem? (i := 780) (by decide +kernel), List.mem_of_getElem? (i := 781) (by decide +kernel)⟩
theorem lw_p37 : lw_okq (⟨"LastWordModel", "pen", "(I)I"⟩, 18) := ⟨⟨by decide +kernel, by decide +kernel⟩, List.mem_of_getElem? (i := 612) (by decide +kernel), List.mem_of_getElem? (i := 784) (by decide +kernel), List.mem_of_getElem? (i := 785) (by decide +kernel)⟩
theorem lw_p38 : lw_okq (⟨"LastWordModel", "goesBy", "()I"⟩, 18) := ⟨⟨by decide +kernel, by decide +kernel⟩, List.mem_of_getElem? (i := 612) (by decide +kernel), List.mem_of_getElem? (i := 792) (by decide +kernel), List.mem_of_getElem? (i := 793) (by decide +kernel)⟩
theorem lw_p39 : lw_okq (⟨"LastWordModel", "worksOn", "(I)I"⟩, 18) := ⟨⟨by decide +kernel, by decide +kernel⟩, List.mem_of_getElem? (i := 612) (by decide +kernel), List.mem_of_getElem? (i := 796) (by decide +kernel), List.mem_of_getElem? (i := 797) (by decide +kernel)⟩
theorem lw_p40 : lw_okq (⟨"LastWordModel", "answers", "(II)I"⟩, 18) := ⟨⟨by decide +kernel, by decide +kernel⟩, List.mem_of_getElem? (i := 612) (by decide +kernel), List.mem_of_getElem? (i := 800) (by decide +kernel), List.mem_of_getElem? (i := 801) (by decide +kernel)⟩
theorem lw_p41 : lw_okq (⟨"LastWordModel", "laysDown", "(I)I"⟩, 18) := ⟨⟨by decide +kernel, by decide +kernel⟩, List.mem_of_getElem? (i := 612) (by decide +kernel), List.mem_of_getElem? (i := 808) (by decide +kernel), List.mem_of_getElem? (i := 809) (by decide +kernel)⟩
theorem lw_p42 : lw_okq (⟨"LastWordModel", "asides", "()V"⟩, 18) := ⟨⟨by decide +kernel, by decide +kernel⟩, List.mem_of_getElem? (i := 612) (by decide +kernel), List.mem_of_getElem? (i := 822) (by decide +kernel), List.mem_of_getElem? (i := 823) (by decide +kernel)⟩
theorem lw_p43 : lw_okq (⟨"LastWordModel", "backs", "()V"⟩, 18) := ⟨⟨by decide +kernel, by decide +kernel⟩, List.mem_of_getElem? (i := 612) (by decide +kernel), List.mem_of_getElem? (i := 826) (by decide +kernel), List.mem_of_getElem? (i := 827) (by decide +kernel)⟩
theorem lw_p44 : lw_okq (⟨"LastWordModel", "closes", "(I)I"⟩, 18) := ⟨⟨by decide +kernel, by decide +kernel⟩, List.mem_of_getElem? (i := 612) (by decide +kernel), List.mem_of_getElem? (i := 834) (by decide +kernel), List.mem_of_getElem? (i := 835) (by decide +kernel)⟩
theorem lw_p45 : lw_okq (⟨"LastWordModel", "letters", "(III)I"⟩, 18) := ⟨⟨by decide +kernel, by decide +kernel⟩, List.mem_of_getElem? (i := 612) (by decide +kernel), List.mem_of_getElem? (i := 842) (by decide +kernel), List.mem_of_getElem? (i := 843) (by decide +kernel)⟩
theorem lw_p46 : lw_okq (⟨"LastWordModel", "isInTime", "(I)Z"⟩, 18) := ⟨⟨by decide +kernel, by decide +kernel⟩, List.mem_of_getElem? (i := 612) (by decide +kernel), List.mem_of_getElem? (i := 861) (by decide +kernel), List.mem_of_getElem? (i := 862) (by decide +kernel)⟩
theorem lw_p47 : lw_okq (⟨"LastWordModel", "words", "(I)I"⟩, 18) := ⟨⟨by decide +kernel, by decide +kernel⟩, List.mem_of_getElem? (i := 612) (by decide +kernel), List.mem_of_getElem? (i := 894) (by decide +kernel), List.mem_of_getElem? (i := 895) (by decide +kernel)⟩
def lw_privs_3 : List (MethodName × Nat) := [(⟨"LastWordModel", "near", "(II)I"⟩, 18), (⟨"LastWordModel", "hasLaid", "(I)Z"⟩, 18), (⟨"LastWordModel", "notes", "()V"⟩, 18), (⟨"LastWordModel", "prints", "(III)V"⟩, 18), (⟨"LastWordModel", "means", "(I)V"⟩, 18), (⟨"LastWordModel", "pen", "(I)I"⟩, 18), (⟨"LastWordModel", "goesBy", "()I"⟩, 18), (⟨"LastWordModel", "worksOn", "(I)I"⟩, 18), (⟨"LastWordModel", "answers", "(II)I"⟩, 18), (⟨"LastWordModel", "laysDown", "(I)I"⟩, 18), (⟨"LastWordModel", "asides", "()V"⟩, 18), (⟨"LastWordModel", "backs", "()V"⟩, 18), (⟨"LastWordModel", "closes", "(I)I"⟩, 18), (⟨"LastWordModel", "letters", "(III)I"⟩, 18), (⟨"LastWordModel", "isInTime", "(I)Z"⟩, 18), (⟨"LastWordModel", "words", "(I)I"⟩, 18)]
theorem lw_r3 : ∀ q ∈ lw_privs_3, lw_okq q := List.forall_mem_cons.mpr ⟨lw_p32, List.forall_mem_cons.mpr ⟨lw_p33, List.forall_mem_cons.mpr ⟨lw_p34, List.forall_mem_cons.mpr ⟨lw_p35, List.forall_mem_cons.mpr ⟨lw_p36, List.forall_mem_cons.mpr ⟨lw_p37, List.forall_mem_cons.mpr ⟨lw_p38, List.forall_mem_cons.mpr ⟨lw_p39, List.forall_mem_cons.mpr ⟨lw_p40, List.forall_mem_cons.mpr ⟨lw_p41, List.forall_mem_cons.mpr ⟨lw_p42, List.forall_mem_cons.mpr ⟨lw_p43, List.forall_mem_cons.mpr ⟨lw_p44, List.forall_mem_cons.mpr ⟨lw_p45, List.forall_mem_cons.mpr ⟨lw_p46, List.forall_mem_cons.mpr ⟨lw_p47, fun _ h => absurd h List.not_mem_nil⟩⟩⟩⟩⟩⟩⟩⟩⟩⟩⟩⟩⟩⟩⟩⟩
def lw_privs : List (MethodName × Nat) := lw_privs_1 ++ (lw_privs_2 ++ (lw_privs_3))
def lw_tbl : List Cond := k2_sels lw_privs ++ tables_1
theorem lw_privs_ok : ∀ q ∈ lw_privs, lw_okq q := by
  show ∀ q ∈ lw_privs_1 ++ (lw_privs_2 ++ (lw_privs_3)), lw_okq q
  exact List.forall_mem_append.mpr ⟨lw_r1, List.forall_mem_append.mpr ⟨lw_r2, lw_r3⟩⟩
end
section
/-! ===== BEGIN words of one list among another's, by their places ===== -/
theorem goodIn_r {big : List Cond} (ws : List Cond) (ps : List Nat) (hp : ws = ps.filterMap (fun i => big[i]?)) (h : ws.all goodWord = true) : GoodIn big ws := by
  intro w hw
  have h1 := List.all_eq_true.mp h w hw
  rw [hp] at hw
  obtain ⟨i, -, hi⟩ := List.mem_filterMap.mp hw
  have hm : w ∈ big := by first | exact List.mem_of_getElem? hi | exact List.getElem?_mem hi
  exact ⟨hm, good_of_word h1⟩
theorem goodIn_app {big a b : List Cond} (ha : GoodIn big a) (hb : GoodIn big b) : GoodIn big (a ++ b) := fun w h => (List.mem_append.mp h).elim (ha w) (hb w)
theorem goodIn_ca {big a b : List Cond} {c : Cond} (ha : GoodIn big (c :: a)) (hb : GoodIn big b) : GoodIn big (c :: (a ++ b)) := fun w h => (List.mem_cons.mp h).elim (fun e => ha w (List.mem_cons.mpr (Or.inl e))) (fun h => (List.mem_append.mp h).elim (fun h => ha w (List.mem_cons.mpr (Or.inr h))) (hb w))
theorem goodIn_sub {big ws : List Cond} (hm : ∀ w ∈ ws, w ∈ big) (h : ws.all goodWord = true) : GoodIn big ws := fun w hw => ⟨hm w hw, good_of_word (List.all_eq_true.mp h w hw)⟩
/-! ===== END ===== -/

/-! ===== BEGIN new T[n][m]: the outer array a place, the inner ones among the pooled ===== -/
/-- f, but v at every address of l -/
def vr_up {α : Type} (f : Nat → α) (l : List Nat) (v : α) : Nat → α := fun a => if a ∈ l then v else f a
theorem vr_up_in {α : Type} {f : Nat → α} {l : List Nat} {v : α} {a : Nat} (h : a ∈ l) : vr_up f l v a = v := if_pos h
theorem vr_up_ne {α : Type} {f : Nat → α} {l : List Nat} {v : α} {a : Nat} (h : a ∉ l) : vr_up f l v a = f a := if_neg h
theorem vr_rows {L l : List Nat} {f : Nat → va_E} {e : va_E} (h : ∀ a, a ∈ l → a ∉ L) : va_pl L f ++ l.map (fun a => (a, e)) = va_pl (L ++ l) (vr_up f l e) := by
  unfold va_pl
  rw [List.map_append]
  congr 1
  · apply List.map_congr_left
    intro a ha
    rw [vr_up_ne (fun q => h a q ha)]
  · apply List.map_congr_left
    intro a ha
    rw [vr_up_in ha]
theorem vr_lay {X rows : va_W} {x : Nat × va_E} {pl : va_W} {D : va_G} {cl : List vw_C} {H : Heap} (hP : va_P D cl (((X ++ pl) ++ [x]) ++ rows) H) : va_P D cl ((X ++ [x]) ++ (pl ++ rows)) H := by
  rw [List.append_assoc (X ++ pl)] at hP
  have h := va_P.swap hP
  rw [← List.append_assoc X] at h
  have h2 := va_P.swap h
  rw [List.append_assoc (X ++ [x])] at h2
  exact h2
theorem vr_layD {X rows : va_W} {x : Nat × va_E} {pl : va_W} {A : Nat → Prop} (hD : va_D A (((X ++ pl) ++ [x]) ++ rows)) : va_D A ((X ++ [x]) ++ (pl ++ rows)) := by
  rw [List.append_assoc (X ++ pl)] at hD
  have h := va_D.swap hD
  rw [← List.append_assoc X] at h
  have h2 := va_D.swap h
  rw [List.append_assoc (X ++ [x])] at h2
  exact h2
theorem vr_outer (c : ClassId) (N h0 : Nat) : ∀ i : Nat, Jvm.Free.Multi.outerC c N h0 i = arrV c N (fun j => va_rf (if j < i then some (h0 + 1 + j) else none))
  | 0 => by
    show ({ cls := c, slots := Array.replicate N .null, vm := .none } : Cell) = _
    rw [arrV_new]
    refine congrArg (arrV c N) (funext fun j => ?_)
    simp [va_rf]
  | i + 1 => by
    show (Jvm.Free.Multi.outerC c N h0 i).setSlot i (.ref (h0 + 1 + i)) = _
    rw [vr_outer c N h0 i, arrV_store]
    refine congrArg (arrV c N) (funext fun j => ?_)
    by_cases e : j = i
    · subst e
      simp [updV, va_rf]
    · by_cases h : j < i
      · simp [updV, e, h, Nat.lt_succ_of_lt h]
      · simp [updV, e, h, show ¬ j < i + 1 by omega]
def va_AOA (ty : FieldType) (U : State) : Prop := (Cond.arrayOver (.array ty)).before #[] U = true
theorem va_AOA.of {ty : FieldType} {A : Array Value} {U : State} (h : (Cond.arrayOver (.array ty)).before A U = true) : va_AOA ty U := h
theorem va_AOA.use {ty : FieldType} {A : Array Value} {U : State} (h : va_AOA ty U) : (Cond.arrayOver (.array ty)).before A U = true := h
section VGM
variable {p : Program} {l : Launch} {e : Env} {R : Room} {s : State} {m : MethodId} {args : Array Value} {below : List Frame} {meth : Method} {c : Code} {H : Heap} {locs : List Loc} {cells slots : Nat} {Q : State → Prop}
variable {cc : ByteArray} {pc : Nat} {ls : Array Slot} {rest : List Value} {D : va_G} {cl : List vw_C} {A : Nat → Prop} {a : Nat} {tys : List (ClassId × FieldType)} {ws : va_W} {H0 : Heap}
theorem va_mna {X : va_W} {L : List Nat} {f : Nat → va_E} {cc : ByteArray} (hexec : p.tables.exec = Jvm.exec) (hb : c.code = cc) {own : String} {index : Nat} {ty : FieldType} {cy : ClassId} (hown : s.vm.findClass own = some m.cls) (hclink : (Cond.classLink own index ("[" ++ (FieldType.array ty).toString)).before args s = true) (hover : va_AOA ty s) (harr : (Cond.arrayClass ty).before args s = true) (hcy : s.vm.findClass (FieldType.array ty).toString = some cy)
    (hK : va_K D cl tys s) (hP : va_P D cl (X ++ va_pl L f) H) (hD : va_D A (X ++ va_pl L f)) (hS : va_S A H0 H locs) (hA : ∀ q, H0.size ≤ q → A q) {n k : Int32} {N' K' : Nat} {z : vp_A} (hn : ¬ n < 0) (hk : ¬ k < 0) (hN : n.toNatClampNeg = N') (hM : k.toNatClampNeg = K')
    (hb1 : N' * 4 ≤ 536870912) (hb2 : K' * componentBytes ty ≤ 536870912) (hb3 : K' ≤ 536870912) (hdf : fits ty (defaultValue ty) = true) (hdd : (defaultValue ty).isDefault = true) (hcells : cells + (1 + N') ≤ R.cells) (hslots : slots + (N' + N' * K') ≤ R.slots) (hz : ∀ c : ClassId, Jvm.Free.Multi.innerC c K' (defaultValue ty) = vp_cell c z) (hdg : decode cc pc = .ok (.multianewarray index 2, 4))
    (kk : ∀ (q : Nat) (r : Nat → Nat) (cA : ClassId) (H1 : Heap), (∀ i j : Nat, i < N' → j < N' → r i = r j → i = j) → (∀ i : Nat, i < N' → r i ∉ L) → va_K D cl (tys ++ [(cA, .array ty)]) s →
      va_P D cl ((X ++ [(q, .inl (cA, N', .inr (.inr (.inr (.inr (fun i => if i < N' then some (r i) else none))))))]) ++ va_pl (L ++ (List.range N').map r) (vr_up f ((List.range N').map r) (.inl (cy, z)))) H1 → va_D A ((X ++ [(q, .inl (cA, N', .inr (.inr (.inr (.inr (fun i => if i < N' then some (r i) else none))))))]) ++ va_pl (L ++ (List.range N').map r) (vr_up f ((List.range N').map r) (.inl (cy, z)))) → va_S A H0 H1 locs →
      W p l e R s m args below meth c H1 locs (cells + 1 + N') (slots + N' + N' * K') Q (F0 m (pc + 4) ls (.ref q :: rest))) : W p l e R s m args below meth c H locs cells slots Q (F0 m pc ls (.int k :: .int n :: rest)) := by
  subst hN
  subst hM
  intro T hT Xs
  obtain ⟨vm₁, cA, comp, -, fA, fC, hO, -, X', step⟩ := Xs.multianewarray2F hexec hown hclink (va_AOA.use hover) harr (g := F0 m pc ls (.int k :: .int n :: rest)) rfl (by rw [hb]; exact hdg) rfl hn hk hb1 hb2 hb3 hdf hdd hcells hslots
  have ec : some cy = some comp := hcy.symm.trans fC
  cases ec
  generalize hF : Jvm.Free.Multi.fill (T.setVm vm₁) cA cy n.toNatClampNeg k.toNatClampNeg (defaultValue ty) n.toNatClampNeg = F at X' step
  have hTh : (T.setVm vm₁).heap = H := hT
  obtain ⟨f1, f2, -, -⟩ := Jvm.Free.Multi.fill_facts (T.setVm vm₁) cA cy n.toNatClampNeg k.toNatClampNeg (defaultValue ty) n.toNatClampNeg
  rw [hF, hTh] at f1 f2
  have hold : ∀ x : Nat, x < H.size → F.heap[x]? = H[x]? := fun x hx => by
    have := Jvm.Free.Multi.fill_old (T.setVm vm₁) cA cy n.toNatClampNeg k.toNatClampNeg (defaultValue ty) (a := x) (by rw [hTh]; exact hx) n.toNatClampNeg
    rw [hF, hTh] at this
    exact this
  have hrow : ∀ j : Nat, j < n.toNatClampNeg → F.heap[H.size + 1 + j]? = some (vp_cell cy z) := fun j hj => by
    have := Jvm.Free.Multi.fill_inner (T.setVm vm₁) cA cy n.toNatClampNeg k.toNatClampNeg (defaultValue ty) n.toNatClampNeg j hj
    rw [hF, hTh, hz] at this
    exact this
  have hout : Jvm.Free.Multi.outerC cA n.toNatClampNeg H.size n.toNatClampNeg = vp_cell cA (n.toNatClampNeg, .inr (.inr (.inr (.inr (fun i => if i < n.toNatClampNeg then some (H.size + 1 + i) else none))))) := by
    rw [vp_cell_q]
    exact vr_outer cA n.toNatClampNeg H.size n.toNatClampNeg
  rw [hout] at f2
  have hlt : ∀ a, a ∈ L → a < H.size := fun a ha => by
    obtain ⟨k9, hk9⟩ := va_pl_get (X := X) (f := f) ha
    exact (hP k9 _ hk9).lt
  have hnl : ∀ i : Nat, i < n.toNatClampNeg → H.size + 1 + i ∉ L := fun i _ h => by
    have := hlt _ h
    omega
  have hnm : ∀ a, a ∈ (List.range n.toNatClampNeg).map (fun i => H.size + 1 + i) → a ∉ L := fun a ha h => by
    obtain ⟨i, -, rfl⟩ := List.mem_map.mp ha
    have := hlt _ h
    omega
  have hP0 : va_P D cl (X ++ va_pl L f) F.heap := hP.kept (fun k9 x hx => hold x.1 ((hP k9 x hx).lt))
  have hP1 : va_P D cl ((X ++ va_pl L f) ++ [(H.size, .inl (cA, n.toNatClampNeg, .inr (.inr (.inr (.inr (fun i => if i < n.toNatClampNeg then some (H.size + 1 + i) else none))))))]) F.heap := hP0.app (fun k9 x hx => by
    have h0 : k9 < 1 := (List.getElem?_eq_some_iff.mp hx).1
    rw [show k9 = 0 by omega] at hx
    cases hx
    exact f2)
  have hP2 : va_P D cl (((X ++ va_pl L f) ++ [(H.size, .inl (cA, n.toNatClampNeg, .inr (.inr (.inr (.inr (fun i => if i < n.toNatClampNeg then some (H.size + 1 + i) else none))))))]) ++ ((List.range n.toNatClampNeg).map (fun i => H.size + 1 + i)).map (fun a => (a, .inl (cy, z)))) F.heap := hP1.app (fun k9 x hx => by
    obtain ⟨a, ha, rfl⟩ := List.mem_map.mp (List.mem_of_getElem? hx)
    obtain ⟨i, hi, rfl⟩ := List.mem_map.mp ha
    exact hrow i (List.mem_range.mp hi))
  have hD2 : va_D A (((X ++ va_pl L f) ++ [(H.size, .inl (cA, n.toNatClampNeg, .inr (.inr (.inr (.inr (fun i => if i < n.toNatClampNeg then some (H.size + 1 + i) else none))))))]) ++ ((List.range n.toNatClampNeg).map (fun i => H.size + 1 + i)).map (fun a => (a, .inl (cy, z)))) := by
    have hD1 := hD.push (e := .inl (cA, n.toNatClampNeg, .inr (.inr (.inr (.inr (fun i => if i < n.toNatClampNeg then some (H.size + 1 + i) else none)))))) hP rfl (hA _ hS.1)
    generalize hW1 : (X ++ va_pl L f) ++ [(H.size, .inl (cA, n.toNatClampNeg, .inr (.inr (.inr (.inr (fun i => if i < n.toNatClampNeg then some (H.size + 1 + i) else none))))))] = W1 at hD1 hP1 ⊢
    have hle : ∀ (k9 : Nat) (x : Nat × va_E), W1[k9]? = some x → x.1 ≤ H.size := fun k9 x hx => by
      rw [← hW1] at hx
      by_cases hl : k9 < (X ++ va_pl L f).length
      · rw [List.getElem?_append_left hl] at hx
        exact Nat.le_of_lt ((hP k9 x hx).lt)
      · rw [List.getElem?_append_right (by omega)] at hx
        have h0 : k9 - (X ++ va_pl L f).length < 1 := (List.getElem?_eq_some_iff.mp hx).1
        rw [show k9 - (X ++ va_pl L f).length = 0 by omega] at hx
        cases hx
        exact Nat.le_refl _
    have hr : ∀ (k9 : Nat) (x : Nat × va_E), (((List.range n.toNatClampNeg).map (fun i => H.size + 1 + i)).map (fun a => ((a, .inl (cy, z)) : Nat × va_E)))[k9]? = some x → x.1 = H.size + 1 + k9 := fun k9 x hx => by
      rw [List.getElem?_map, List.getElem?_map] at hx
      by_cases h9 : k9 < n.toNatClampNeg
      · rw [List.getElem?_range h9] at hx
        cases hx
        rfl
      · have hn0 : (List.range n.toNatClampNeg)[k9]? = none := List.getElem?_eq_none (by rw [List.length_range]; omega)
        rw [hn0] at hx
        cases hx
    refine ⟨fun i j x y hi hj hxy => ?_, fun k9 x hx => ?_⟩
    · by_cases h1 : i < W1.length <;> by_cases h2 : j < W1.length
      · rw [List.getElem?_append_left h1] at hi
        rw [List.getElem?_append_left h2] at hj
        exact hD1.1 i j x y hi hj hxy
      · rw [List.getElem?_append_left h1] at hi
        rw [List.getElem?_append_right (by omega)] at hj
        have := hle _ _ hi
        have := hr _ _ hj
        omega
      · rw [List.getElem?_append_right (by omega)] at hi
        rw [List.getElem?_append_left h2] at hj
        have := hle _ _ hj
        have := hr _ _ hi
        omega
      · rw [List.getElem?_append_right (by omega)] at hi hj
        have := hr _ _ hi
        have := hr _ _ hj
        omega
    · by_cases h1 : k9 < W1.length
      · rw [List.getElem?_append_left h1] at hx
        exact hD1.2 k9 x hx
      · rw [List.getElem?_append_right (by omega)] at hx
        have := hr _ _ hx
        exact hA _ (by have := hS.1; omega)
  have hAr : ArrOfT s cA (.array ty) := fun N9 z9 => by
    obtain ⟨-, k9, hk9, cm9, hkk9⟩ := (hO 0 0 0).1
    exact ⟨(fun q hq => by cases hq), k9, hk9, cm9, hkk9⟩
  have hK2 : va_K D cl (tys ++ [(cA, .array ty)]) s := ⟨hK.1, fun k9 x hx => by
    by_cases hl : k9 < tys.length
    · rw [List.getElem?_append_left hl] at hx
      exact hK.2 k9 x hx
    · rw [List.getElem?_append_right (by omega)] at hx
      have h0 : k9 - tys.length < 1 := (List.getElem?_eq_some_iff.mp hx).1
      rw [show k9 - tys.length = 0 by omega] at hx
      cases hx
      exact ⟨hAr, fA⟩⟩
  obtain ⟨t, a1, b1⟩ := kk H.size (fun i => H.size + 1 + i) cA F.heap (fun i j _ _ h => by have h9 : H.size + 1 + i = H.size + 1 + j := h; omega) hnl hK2 (by rw [← vr_rows hnm]; exact vr_lay hP2) (by rw [← vr_rows hnm]; exact vr_layD hD2) ⟨by rw [f1]; have := hS.1; omega, fun x h1 h2 => (hold x (Nat.lt_of_lt_of_le h1 hS.1)).trans (hS.2.1 x h1 h2), hS.2.2⟩ F rfl X'
  refine ⟨t, step t ?_, b1⟩
  have e : T.heap.size = H.size := by rw [hT]
  rw [e]
  exact a1
end VGM
/-! ===== END ===== -/

/-! ===== BEGIN printed: names, fields, word lists, decode rows ===== -/
def RX0 : String := "LastWord$Affairs"
def TX0 : u_T := fun k => match k with
  | 0 => ("LastWord$Affairs", "today", "I", false)
  | 1 => ("LastWord$Affairs", "letters", "I", false)
  | 2 => ("LastWord$Affairs", "quarrels", "I", false)
  | 3 => ("LastWord$Affairs", "laid", "I", false)
  | 4 => ("LastWord$Affairs", "lateTimes", "[I", true)
  | 5 => ("LastWord$Affairs", "author", "[I", true)
  | 6 => ("LastWord$Affairs", "subject", "[I", true)
  | 7 => ("LastWord$Affairs", "printedOn", "[I", true)
  | 8 => ("LastWord$Affairs", "owes", "[I", true)
  | 9 => ("LastWord$Affairs", "work", "[I", true)
  | _ => ("LastWord$Affairs", "late", "[I", true)
def tyX0 : Nat → FieldType := fun k => match k with
  | 0 => .int
  | 1 => .int
  | 2 => .int
  | 3 => .int
  | 4 => .array .int
  | 5 => .array .int
  | 6 => .array .int
  | 7 => .array .int
  | 8 => .array .int
  | 9 => .array .int
  | _ => .array .int
abbrev wsX00 : List Cond := u_ws RX0 TX0 11
theorem nmX0 : ∀ a, a < 11 → ∀ b, b < 11 → a ≠ b → (TX0 a).2.1 ≠ (TX0 b).2.1 := by decide +kernel
theorem tyX0_ok : ∀ k, k < 11 → parseFieldDescriptor (TX0 k).2.2.1 = some (tyX0 k) := by decide +kernel
abbrev cX0_init : ByteArray := prog_2_method_1_code
def yX0_init : MethodName := ⟨RX0, "<init>", "()V"⟩
abbrev cX0_copy : ByteArray := prog_2_method_2_code
def yX0_copy : MethodName := ⟨RX0, "copy", "(LLastWord$Affairs;)V"⟩
abbrev cX0_beginAnew : ByteArray := prog_2_method_3_code
def yX0_beginAnew : MethodName := ⟨RX0, "beginAnew", "()V"⟩
abbrev cX0_hasQuarrel : ByteArray := prog_2_method_4_code
def yX0_hasQuarrel : MethodName := ⟨RX0, "hasQuarrel", "(I)Z"⟩
abbrev cX0_hasLaid : ByteArray := prog_2_method_5_code
def yX0_hasLaid : MethodName := ⟨RX0, "hasLaid", "(I)Z"⟩
abbrev cX0_owedBits : ByteArray := prog_2_method_6_code
def yX0_owedBits : MethodName := ⟨RX0, "owedBits", "(I)I"⟩
abbrev cX0_owedBy : ByteArray := prog_2_method_7_code
def yX0_owedBy : MethodName := ⟨RX0, "owedBy", "(I)I"⟩
abbrev cX0_closedBits : ByteArray := prog_2_method_8_code
def yX0_closedBits : MethodName := ⟨RX0, "closedBits", "()I"⟩
abbrev cX0_lastWordsOf : ByteArray := prog_2_method_9_code
def yX0_lastWordsOf : MethodName := ⟨RX0, "lastWordsOf", "(I)I"⟩
abbrev cX0_begin : ByteArray := prog_2_method_10_code
def yX0_begin : MethodName := ⟨RX0, "begin", "(LLastWord$Page;II)I"⟩
abbrev cX0_layDown : ByteArray := prog_2_method_11_code
def yX0_layDown : MethodName := ⟨RX0, "layDown", "(LLastWord$Page;I)I"⟩
abbrev cX0_passDay : ByteArray := prog_2_method_12_code
def yX0_passDay : MethodName := ⟨RX0, "passDay", "(LLastWord$Page;)I"⟩
abbrev cX0_firstNewlyLate : ByteArray := prog_2_method_13_code
def yX0_firstNewlyLate : MethodName := ⟨RX0, "firstNewlyLate", "(I)I"⟩
abbrev cX0_canKeep : ByteArray := prog_2_method_14_code
def yX0_canKeep : MethodName := ⟨RX0, "canKeep", "(II)Z"⟩
abbrev cX0_workUpTo : ByteArray := prog_2_method_15_code
def yX0_workUpTo : MethodName := ⟨RX0, "workUpTo", "(II)I"⟩
abbrev cX0_turnsLate : ByteArray := prog_2_method_16_code
def yX0_turnsLate : MethodName := ⟨RX0, "turnsLate", "(II)Z"⟩
abbrev cX0_onDeskOf : ByteArray := prog_2_method_17_code
def yX0_onDeskOf : MethodName := ⟨RX0, "onDeskOf", "(I)I"⟩
abbrev cX0_print : ByteArray := prog_2_method_18_code
def yX0_print : MethodName := ⟨RX0, "print", "(LLastWord$Page;III)V"⟩
abbrev cX0_charge : ByteArray := prog_2_method_19_code
def yX0_charge : MethodName := ⟨RX0, "charge", "(LLastWord$Page;I)V"⟩
def RX1 : String := "LastWord$Album"
def TX1 : u_T := fun k => match k with
  | 0 => ("LastWord$Album", "images", "[LLastWord$Affairs;", true)
  | _ => ("LastWord$Album", "kept", "I", false)
def tyX1 : Nat → FieldType := fun k => match k with
  | 0 => .array (.object "LastWord$Affairs")
  | _ => .int
abbrev wsX10 : List Cond := u_ws RX1 TX1 2
theorem nmX1 : ∀ a, a < 2 → ∀ b, b < 2 → a ≠ b → (TX1 a).2.1 ≠ (TX1 b).2.1 := by decide +kernel
theorem tyX1_ok : ∀ k, k < 2 → parseFieldDescriptor (TX1 k).2.2.1 = some (tyX1 k) := by decide +kernel
abbrev cX1_init : ByteArray := prog_3_method_1_code
def yX1_init : MethodName := ⟨RX1, "<init>", "()V"⟩
abbrev cX1_hasPlace : ByteArray := prog_3_method_2_code
def yX1_hasPlace : MethodName := ⟨RX1, "hasPlace", "(I)Z"⟩
abbrev cX1_isKept : ByteArray := prog_3_method_3_code
def yX1_isKept : MethodName := ⟨RX1, "isKept", "(I)Z"⟩
abbrev cX1_put : ByteArray := prog_3_method_4_code
def yX1_put : MethodName := ⟨RX1, "put", "(ILLastWord$Affairs;)V"⟩
abbrev cX1_take : ByteArray := prog_3_method_5_code
def yX1_take : MethodName := ⟨RX1, "take", "(ILLastWord$Affairs;)V"⟩
abbrev cX1_drop : ByteArray := prog_3_method_6_code
def yX1_drop : MethodName := ⟨RX1, "drop", "()V"⟩
def RX2 : String := "LastWord$Course"
def TX2 : u_T := fun k => match k with
  | 0 => ("LastWord$Course", "length", "I", false)
  | _ => ("LastWord$Course", "lastAuthor", "I", false)
def tyX2 : Nat → FieldType := fun k => match k with
  | 0 => .int
  | _ => .int
abbrev wsX20 : List Cond := u_ws RX2 TX2 2
theorem nmX2 : ∀ a, a < 2 → ∀ b, b < 2 → a ≠ b → (TX2 a).2.1 ≠ (TX2 b).2.1 := by decide +kernel
theorem tyX2_ok : ∀ k, k < 2 → parseFieldDescriptor (TX2 k).2.2.1 = some (tyX2 k) := by decide +kernel
abbrev cX2_init : ByteArray := prog_4_method_1_code
def yX2_init : MethodName := ⟨RX2, "<init>", "()V"⟩
abbrev cX2_follow : ByteArray := prog_4_method_2_code
def yX2_follow : MethodName := ⟨RX2, "follow", "(LLastWord$Page;III)V"⟩
def RX3 : String := "LastWord$Findings"
def TX3 : u_T := fun k => match k with
  | 0 => ("LastWord$Findings", "many", "I", false)
  | 1 => ("LastWord$Findings", "author", "[I", true)
  | 2 => ("LastWord$Findings", "subject", "[I", true)
  | _ => ("LastWord$Findings", "answerer", "[I", true)
def tyX3 : Nat → FieldType := fun k => match k with
  | 0 => .int
  | 1 => .array .int
  | 2 => .array .int
  | _ => .array .int
abbrev wsX30 : List Cond := u_ws RX3 TX3 4
theorem nmX3 : ∀ a, a < 4 → ∀ b, b < 4 → a ≠ b → (TX3 a).2.1 ≠ (TX3 b).2.1 := by decide +kernel
theorem tyX3_ok : ∀ k, k < 4 → parseFieldDescriptor (TX3 k).2.2.1 = some (tyX3 k) := by decide +kernel
abbrev cX3_init : ByteArray := prog_5_method_1_code
def yX3_init : MethodName := ⟨RX3, "<init>", "()V"⟩
abbrev cX3_add : ByteArray := prog_5_method_2_code
def yX3_add : MethodName := ⟨RX3, "add", "(III)I"⟩
abbrev cX3_drop : ByteArray := prog_5_method_3_code
def yX3_drop : MethodName := ⟨RX3, "drop", "()I"⟩
abbrev cX3_areSo : ByteArray := prog_5_method_4_code
def yX3_areSo : MethodName := ⟨RX3, "areSo", "(LLastWord$Page;)Z"⟩
def RX4 : String := "LastWord$History"
def TX4 : u_T := fun k => match k with
  | 0 => ("LastWord$History", "ring", "[LLastWord$Affairs;", true)
  | 1 => ("LastWord$History", "known", "I", false)
  | _ => ("LastWord$History", "next", "I", false)
def tyX4 : Nat → FieldType := fun k => match k with
  | 0 => .array (.object "LastWord$Affairs")
  | 1 => .int
  | _ => .int
abbrev wsX40 : List Cond := u_ws RX4 TX4 3
theorem nmX4 : ∀ a, a < 3 → ∀ b, b < 3 → a ≠ b → (TX4 a).2.1 ≠ (TX4 b).2.1 := by decide +kernel
theorem tyX4_ok : ∀ k, k < 3 → parseFieldDescriptor (TX4 k).2.2.1 = some (tyX4 k) := by decide +kernel
abbrev cX4_init : ByteArray := prog_6_method_1_code
def yX4_init : MethodName := ⟨RX4, "<init>", "()V"⟩
abbrev cX4_remember : ByteArray := prog_6_method_2_code
def yX4_remember : MethodName := ⟨RX4, "remember", "(LLastWord$Affairs;)V"⟩
abbrev cX4_recall : ByteArray := prog_6_method_3_code
def yX4_recall : MethodName := ⟨RX4, "recall", "(LLastWord$Affairs;)V"⟩
abbrev cX4_drop : ByteArray := prog_6_method_4_code
def yX4_drop : MethodName := ⟨RX4, "drop", "()V"⟩
def RX5 : String := "LastWord$Page"
def TX5 : u_T := fun k => match k with
  | 0 => ("LastWord$Page", "writers", "I", false)
  | 1 => ("LastWord$Page", "term", "I", false)
  | 2 => ("LastWord$Page", "pen", "[I", true)
  | 3 => ("LastWord$Page", "hobby", "[I", true)
  | _ => ("LastWord$Page", "near", "[[I", true)
def tyX5 : Nat → FieldType := fun k => match k with
  | 0 => .int
  | 1 => .int
  | 2 => .array .int
  | 3 => .array .int
  | _ => .array (.array .int)
abbrev wsX50 : List Cond := u_ws RX5 TX5 5
theorem nmX5 : ∀ a, a < 5 → ∀ b, b < 5 → a ≠ b → (TX5 a).2.1 ≠ (TX5 b).2.1 := by decide +kernel
theorem tyX5_ok : ∀ k, k < 5 → parseFieldDescriptor (TX5 k).2.2.1 = some (tyX5 k) := by decide +kernel
abbrev cX5_init : ByteArray := prog_7_method_1_code
def yX5_init : MethodName := ⟨RX5, "<init>", "()V"⟩
abbrev cX5_blank : ByteArray := prog_7_method_2_code
def yX5_blank : MethodName := ⟨RX5, "blank", "()V"⟩
abbrev cX5_hasWriter : ByteArray := prog_7_method_3_code
def yX5_hasWriter : MethodName := ⟨RX5, "hasWriter", "(I)Z"⟩
abbrev cX5_everybody : ByteArray := prog_7_method_4_code
def yX5_everybody : MethodName := ⟨RX5, "everybody", "()I"⟩
abbrev cX5_answerer : ByteArray := prog_7_method_5_code
def yX5_answerer : MethodName := ⟨RX5, "answerer", "(III)I"⟩
abbrev cX5_answerOn : ByteArray := prog_7_method_6_code
def yX5_answerOn : MethodName := ⟨RX5, "answerOn", "(II)I"⟩
def RX6 : String := "LastWord$Text"
def TX6 : u_T := fun k => match k with
  | 0 => ("LastWord$Text", "letters", "[I", true)
  | 1 => ("LastWord$Text", "length", "I", false)
  | 2 => ("LastWord$Text", "place", "I", false)
  | 3 => ("LastWord$Text", "termTold", "Z", false)
  | 4 => ("LastWord$Text", "start", "I", false)
  | 5 => ("LastWord$Text", "token", "I", false)
  | _ => ("LastWord$Text", "value", "I", false)
def tyX6 : Nat → FieldType := fun k => match k with
  | 0 => .array .int
  | 1 => .int
  | 2 => .int
  | 3 => .boolean
  | 4 => .int
  | 5 => .int
  | _ => .int
abbrev wsX60 : List Cond := u_ws RX6 TX6 7
theorem nmX6 : ∀ a, a < 7 → ∀ b, b < 7 → a ≠ b → (TX6 a).2.1 ≠ (TX6 b).2.1 := by decide +kernel
theorem tyX6_ok : ∀ k, k < 7 → parseFieldDescriptor (TX6 k).2.2.1 = some (tyX6 k) := by decide +kernel
abbrev cX6_init : ByteArray := prog_8_method_1_code
def yX6_init : MethodName := ⟨RX6, "<init>", "()V"⟩
abbrev cX6_add : ByteArray := prog_8_method_2_code
def yX6_add : MethodName := ⟨RX6, "add", "(I)I"⟩
abbrev cX6_empty : ByteArray := prog_8_method_3_code
def yX6_empty : MethodName := ⟨RX6, "empty", "()I"⟩
abbrev cX6_readInto : ByteArray := prog_8_method_4_code
def yX6_readInto : MethodName := ⟨RX6, "readInto", "(LLastWord$Page;)I"⟩
abbrev cX6_readWriter : ByteArray := prog_8_method_5_code
def yX6_readWriter : MethodName := ⟨RX6, "readWriter", "(LLastWord$Page;)Z"⟩
abbrev cX6_readTerm : ByteArray := prog_8_method_6_code
def yX6_readTerm : MethodName := ⟨RX6, "readTerm", "(LLastWord$Page;)Z"⟩
abbrev cX6_readSemicolon : ByteArray := prog_8_method_7_code
def yX6_readSemicolon : MethodName := ⟨RX6, "readSemicolon", "()Z"⟩
abbrev cX6_readNumber : ByteArray := prog_8_method_8_code
def yX6_readNumber : MethodName := ⟨RX6, "readNumber", "(II)Z"⟩
abbrev cX6_nextToken : ByteArray := prog_8_method_9_code
def yX6_nextToken : MethodName := ⟨RX6, "nextToken", "()V"⟩
abbrev cX6_takeDigits : ByteArray := prog_8_method_10_code
def yX6_takeDigits : MethodName := ⟨RX6, "takeDigits", "()V"⟩
abbrev cX6_isDigit : ByteArray := prog_8_method_11_code
def yX6_isDigit : MethodName := ⟨RX6, "isDigit", "(I)Z"⟩
def RX7 : String := "LastWord"
def TX7 : u_T := fun k => match k with
  | 0 => ("LastWord", "text", "LLastWord$Text;", true)
  | 1 => ("LastWord", "page", "LLastWord$Page;", false)
  | 2 => ("LastWord", "spare", "LLastWord$Page;", false)
  | 3 => ("LastWord", "affairs", "LLastWord$Affairs;", true)
  | 4 => ("LastWord", "ahead", "LLastWord$Affairs;", true)
  | 5 => ("LastWord", "history", "LLastWord$History;", true)
  | 6 => ("LastWord", "album", "LLastWord$Album;", true)
  | 7 => ("LastWord", "findings", "LLastWord$Findings;", true)
  | 8 => ("LastWord", "course", "LLastWord$Course;", true)
  | _ => ("LastWord", "asked", "J", false)
def tyX7 : Nat → FieldType := fun k => match k with
  | 0 => .object "LastWord$Text"
  | 1 => .object "LastWord$Page"
  | 2 => .object "LastWord$Page"
  | 3 => .object "LastWord$Affairs"
  | 4 => .object "LastWord$Affairs"
  | 5 => .object "LastWord$History"
  | 6 => .object "LastWord$Album"
  | 7 => .object "LastWord$Findings"
  | 8 => .object "LastWord$Course"
  | _ => .long
abbrev wsX70 : List Cond := u_ws RX7 TX7 10
theorem nmX7 : ∀ a, a < 10 → ∀ b, b < 10 → a ≠ b → (TX7 a).2.1 ≠ (TX7 b).2.1 := by decide +kernel
theorem tyX7_ok : ∀ k, k < 10 → parseFieldDescriptor (TX7 k).2.2.1 = some (tyX7 k) := by decide +kernel
abbrev cX7_init : ByteArray := prog_1_method_1_code
def yX7_init : MethodName := ⟨RX7, "<init>", "()V"⟩
abbrev cX7_type : ByteArray := prog_1_method_2_code
def yX7_type : MethodName := ⟨RX7, "type", "(I)I"⟩
abbrev cX7_clear : ByteArray := prog_1_method_3_code
def yX7_clear : MethodName := ⟨RX7, "clear", "()I"⟩
abbrev cX7_paper : ByteArray := prog_1_method_4_code
def yX7_paper : MethodName := ⟨RX7, "paper", "()I"⟩
abbrev cX7_writer : ByteArray := prog_1_method_5_code
def yX7_writer : MethodName := ⟨RX7, "writer", "(II)I"⟩
abbrev cX7_quarrel : ByteArray := prog_1_method_6_code
def yX7_quarrel : MethodName := ⟨RX7, "quarrel", "(II)I"⟩
abbrev cX7_meant : ByteArray := prog_1_method_7_code
def yX7_meant : MethodName := ⟨RX7, "meant", "(II)I"⟩
abbrev cX7_now : ByteArray := prog_1_method_8_code
def yX7_now : MethodName := ⟨RX7, "now", "(I)I"⟩
abbrev cX7_writes : ByteArray := prog_1_method_9_code
def yX7_writes : MethodName := ⟨RX7, "writes", "(II)I"⟩
abbrev cX7_day : ByteArray := prog_1_method_10_code
def yX7_day : MethodName := ⟨RX7, "day", "()I"⟩
abbrev cX7_lays : ByteArray := prog_1_method_11_code
def yX7_lays : MethodName := ⟨RX7, "lays", "(I)I"⟩
abbrev cX7_undo : ByteArray := prog_1_method_12_code
def yX7_undo : MethodName := ⟨RX7, "undo", "()I"⟩
abbrev cX7_inDays : ByteArray := prog_1_method_13_code
def yX7_inDays : MethodName := ⟨RX7, "inDays", "(III)I"⟩
abbrev cX7_ends : ByteArray := prog_1_method_14_code
def yX7_ends : MethodName := ⟨RX7, "ends", "(I)I"⟩
abbrev cX7_round : ByteArray := prog_1_method_15_code
def yX7_round : MethodName := ⟨RX7, "round", "(III)I"⟩
abbrev cX7_last : ByteArray := prog_1_method_16_code
def yX7_last : MethodName := ⟨RX7, "last", "(I)I"⟩
abbrev cX7_bindsNobody : ByteArray := prog_1_method_17_code
def yX7_bindsNobody : MethodName := ⟨RX7, "bindsNobody", "(I)I"⟩
abbrev cX7_keeps : ByteArray := prog_1_method_18_code
def yX7_keeps : MethodName := ⟨RX7, "keeps", "(I)I"⟩
abbrev cX7_lateFirst : ByteArray := prog_1_method_19_code
def yX7_lateFirst : MethodName := ⟨RX7, "lateFirst", "(I)I"⟩
abbrev cX7_peace : ByteArray := prog_1_method_20_code
def yX7_peace : MethodName := ⟨RX7, "peace", "(I)I"⟩
abbrev cX7_found : ByteArray := prog_1_method_21_code
def yX7_found : MethodName := ⟨RX7, "found", "(III)I"⟩
abbrev cX7_forget : ByteArray := prog_1_method_22_code
def yX7_forget : MethodName := ⟨RX7, "forget", "()I"⟩
abbrev cX7_mayBe : ByteArray := prog_1_method_23_code
def yX7_mayBe : MethodName := ⟨RX7, "mayBe", "(II)I"⟩
abbrev cX7_odds : ByteArray := prog_1_method_24_code
def yX7_odds : MethodName := ⟨RX7, "odds", "(IIII)I"⟩
abbrev cX7_most : ByteArray := prog_1_method_25_code
def yX7_most : MethodName := ⟨RX7, "most", "()I"⟩
abbrev cX7_titles : ByteArray := prog_1_method_26_code
def yX7_titles : MethodName := ⟨RX7, "titles", "(II)I"⟩
abbrev cX7_rate : ByteArray := prog_1_method_27_code
def yX7_rate : MethodName := ⟨RX7, "rate", "(II)I"⟩
abbrev cX7_keep : ByteArray := prog_1_method_28_code
def yX7_keep : MethodName := ⟨RX7, "keep", "(I)I"⟩
abbrev cX7_back : ByteArray := prog_1_method_29_code
def yX7_back : MethodName := ⟨RX7, "back", "(I)I"⟩
abbrev cX7_count : ByteArray := prog_1_method_30_code
def yX7_count : MethodName := ⟨RX7, "count", "(I)I"⟩
abbrev cX7_trace : ByteArray := prog_1_method_31_code
def yX7_trace : MethodName := ⟨RX7, "trace", "()J"⟩
abbrev cX7_mayStand : ByteArray := prog_1_method_32_code
def yX7_mayStand : MethodName := ⟨RX7, "mayStand", "(II)Z"⟩
abbrev cX7_hasLastWord : ByteArray := prog_1_method_33_code
def yX7_hasLastWord : MethodName := ⟨RX7, "hasLastWord", "(III)Z"⟩
abbrev cX7_daysTillClosed : ByteArray := prog_1_method_34_code
def yX7_daysTillClosed : MethodName := ⟨RX7, "daysTillClosed", "(I)I"⟩
abbrev cX7_endsWithout : ByteArray := prog_1_method_35_code
def yX7_endsWithout : MethodName := ⟨RX7, "endsWithout", "(II)Z"⟩
abbrev cX7_rateOfWriter : ByteArray := prog_1_method_36_code
def yX7_rateOfWriter : MethodName := ⟨RX7, "rateOfWriter", "(I)I"⟩
abbrev cX7_rateOfColonel : ByteArray := prog_1_method_37_code
def yX7_rateOfColonel : MethodName := ⟨RX7, "rateOfColonel", "(I)I"⟩
abbrev cX7_rateOfDuke : ByteArray := prog_1_method_38_code
def yX7_rateOfDuke : MethodName := ⟨RX7, "rateOfDuke", "(I)I"⟩
abbrev cX7_rateOfVicar : ByteArray := prog_1_method_39_code
def yX7_rateOfVicar : MethodName := ⟨RX7, "rateOfVicar", "(I)I"⟩
abbrev cX7_rateOfPoet : ByteArray := prog_1_method_40_code
def yX7_rateOfPoet : MethodName := ⟨RX7, "rateOfPoet", "(I)I"⟩
abbrev cX7_rateOfHeir : ByteArray := prog_1_method_41_code
def yX7_rateOfHeir : MethodName := ⟨RX7, "rateOfHeir", "(I)I"⟩
abbrev cX7_power : ByteArray := prog_1_method_42_code
def yX7_power : MethodName := ⟨RX7, "power", "(II)I"⟩
abbrev cX7_commonDivisor : ByteArray := prog_1_method_43_code
def yX7_commonDivisor : MethodName := ⟨RX7, "commonDivisor", "(II)I"⟩
def RX8 : String := "LastWordModel"
def TX8 : u_T := fun k => match k with
  | 0 => ("LastWordModel", "text", "[I", true)
  | 1 => ("LastWordModel", "size", "I", false)
  | 2 => ("LastWordModel", "at", "I", false)
  | 3 => ("LastWordModel", "begin", "I", false)
  | 4 => ("LastWordModel", "token", "I", false)
  | 5 => ("LastWordModel", "told", "I", false)
  | 6 => ("LastWordModel", "read", "[I", true)
  | 7 => ("LastWordModel", "paper", "[I", true)
  | 8 => ("LastWordModel", "now", "[I", true)
  | 9 => ("LastWordModel", "undone", "[I", true)
  | 10 => ("LastWordModel", "undos", "I", false)
  | 11 => ("LastWordModel", "newly", "I", false)
  | 12 => ("LastWordModel", "aside", "[I", true)
  | 13 => ("LastWordModel", "lastWriter", "I", false)
  | 14 => ("LastWordModel", "founds", "I", false)
  | 15 => ("LastWordModel", "finds", "[I", true)
  | 16 => ("LastWordModel", "trace", "J", false)
  | _ => ("LastWordModel", "kept", "[I", true)
def tyX8 : Nat → FieldType := fun k => match k with
  | 0 => .array .int
  | 1 => .int
  | 2 => .int
  | 3 => .int
  | 4 => .int
  | 5 => .int
  | 6 => .array .int
  | 7 => .array .int
  | 8 => .array .int
  | 9 => .array .int
  | 10 => .int
  | 11 => .int
  | 12 => .array .int
  | 13 => .int
  | 14 => .int
  | 15 => .array .int
  | 16 => .long
  | _ => .array .int
abbrev wsX80 : List Cond := u_ws RX8 TX8 18
theorem nmX8 : ∀ a, a < 18 → ∀ b, b < 18 → a ≠ b → (TX8 a).2.1 ≠ (TX8 b).2.1 := by decide +kernel
theorem tyX8_ok : ∀ k, k < 18 → parseFieldDescriptor (TX8 k).2.2.1 = some (tyX8 k) := by decide +kernel
abbrev cX8_in : ByteArray := prog_10_method_2_code
def yX8_in : MethodName := ⟨RX8, "in", "(JJJ)Z"⟩
abbrev cX8_init : ByteArray := prog_10_method_3_code
def yX8_init : MethodName := ⟨RX8, "<init>", "()V"⟩
abbrev cX8_type : ByteArray := prog_10_method_4_code
def yX8_type : MethodName := ⟨RX8, "type", "(I)I"⟩
abbrev cX8_clear : ByteArray := prog_10_method_5_code
def yX8_clear : MethodName := ⟨RX8, "clear", "()I"⟩
abbrev cX8_isFigure : ByteArray := prog_10_method_6_code
def yX8_isFigure : MethodName := ⟨RX8, "isFigure", "(I)Z"⟩
abbrev cX8_reads : ByteArray := prog_10_method_7_code
def yX8_reads : MethodName := ⟨RX8, "reads", "()V"⟩
abbrev cX8_number : ByteArray := prog_10_method_8_code
def yX8_number : MethodName := ⟨RX8, "number", "(II)Z"⟩
abbrev cX8_itemEnds : ByteArray := prog_10_method_9_code
def yX8_itemEnds : MethodName := ⟨RX8, "itemEnds", "()Z"⟩
abbrev cX8_plain : ByteArray := prog_10_method_10_code
def yX8_plain : MethodName := ⟨RX8, "plain", "()V"⟩
abbrev cX8_readItem : ByteArray := prog_10_method_11_code
def yX8_readItem : MethodName := ⟨RX8, "readItem", "()Z"⟩
abbrev cX8_paper : ByteArray := prog_10_method_12_code
def yX8_paper : MethodName := ⟨RX8, "paper", "()I"⟩
abbrev cX8_takes : ByteArray := prog_10_method_13_code
def yX8_takes : MethodName := ⟨RX8, "takes", "()V"⟩
abbrev cX8_isWriter : ByteArray := prog_10_method_14_code
def yX8_isWriter : MethodName := ⟨RX8, "isWriter", "(I)Z"⟩
abbrev cX8_isQuarrel : ByteArray := prog_10_method_15_code
def yX8_isQuarrel : MethodName := ⟨RX8, "isQuarrel", "(I)Z"⟩
abbrev cX8_isSubject : ByteArray := prog_10_method_16_code
def yX8_isSubject : MethodName := ⟨RX8, "isSubject", "(I)Z"⟩
abbrev cX8_pen : ByteArray := prog_10_method_17_code
def yX8_pen : MethodName := ⟨RX8, "pen", "(I)I"⟩
abbrev cX8_near : ByteArray := prog_10_method_18_code
def yX8_near : MethodName := ⟨RX8, "near", "(II)I"⟩
abbrev cX8_hasLaid : ByteArray := prog_10_method_19_code
def yX8_hasLaid : MethodName := ⟨RX8, "hasLaid", "(I)Z"⟩
abbrev cX8_meantOf : ByteArray := prog_10_method_20_code
def yX8_meantOf : MethodName := ⟨RX8, "meantOf", "(III)I"⟩
abbrev cX8_answers : ByteArray := prog_10_method_21_code
def yX8_answers : MethodName := ⟨RX8, "answers", "(II)I"⟩
abbrev cX8_at : ByteArray := prog_10_method_22_code
def yX8_at : MethodName := ⟨RX8, "at", "(II)I"⟩
abbrev cX8_owes : ByteArray := prog_10_method_23_code
def yX8_owes : MethodName := ⟨RX8, "owes", "(I)I"⟩
abbrev cX8_words : ByteArray := prog_10_method_24_code
def yX8_words : MethodName := ⟨RX8, "words", "(I)I"⟩
abbrev cX8_writer : ByteArray := prog_10_method_25_code
def yX8_writer : MethodName := ⟨RX8, "writer", "(II)I"⟩
abbrev cX8_quarrel : ByteArray := prog_10_method_26_code
def yX8_quarrel : MethodName := ⟨RX8, "quarrel", "(II)I"⟩
abbrev cX8_meant : ByteArray := prog_10_method_27_code
def yX8_meant : MethodName := ⟨RX8, "meant", "(II)I"⟩
abbrev cX8_now : ByteArray := prog_10_method_28_code
def yX8_now : MethodName := ⟨RX8, "now", "(I)I"⟩
abbrev cX8_notes : ByteArray := prog_10_method_29_code
def yX8_notes : MethodName := ⟨RX8, "notes", "()V"⟩
abbrev cX8_means : ByteArray := prog_10_method_30_code
def yX8_means : MethodName := ⟨RX8, "means", "(I)V"⟩
abbrev cX8_prints : ByteArray := prog_10_method_31_code
def yX8_prints : MethodName := ⟨RX8, "prints", "(III)V"⟩
abbrev cX8_writes : ByteArray := prog_10_method_32_code
def yX8_writes : MethodName := ⟨RX8, "writes", "(II)I"⟩
abbrev cX8_worksOn : ByteArray := prog_10_method_33_code
def yX8_worksOn : MethodName := ⟨RX8, "worksOn", "(I)I"⟩
abbrev cX8_goesBy : ByteArray := prog_10_method_34_code
def yX8_goesBy : MethodName := ⟨RX8, "goesBy", "()I"⟩
abbrev cX8_day : ByteArray := prog_10_method_35_code
def yX8_day : MethodName := ⟨RX8, "day", "()I"⟩
abbrev cX8_laysDown : ByteArray := prog_10_method_36_code
def yX8_laysDown : MethodName := ⟨RX8, "laysDown", "(I)I"⟩
abbrev cX8_lays : ByteArray := prog_10_method_37_code
def yX8_lays : MethodName := ⟨RX8, "lays", "(I)I"⟩
abbrev cX8_undo : ByteArray := prog_10_method_38_code
def yX8_undo : MethodName := ⟨RX8, "undo", "()I"⟩
abbrev cX8_asides : ByteArray := prog_10_method_39_code
def yX8_asides : MethodName := ⟨RX8, "asides", "()V"⟩
abbrev cX8_backs : ByteArray := prog_10_method_40_code
def yX8_backs : MethodName := ⟨RX8, "backs", "()V"⟩
abbrev cX8_inDays : ByteArray := prog_10_method_41_code
def yX8_inDays : MethodName := ⟨RX8, "inDays", "(III)I"⟩
abbrev cX8_closes : ByteArray := prog_10_method_42_code
def yX8_closes : MethodName := ⟨RX8, "closes", "(I)I"⟩
abbrev cX8_ends : ByteArray := prog_10_method_43_code
def yX8_ends : MethodName := ⟨RX8, "ends", "(I)I"⟩
abbrev cX8_letters : ByteArray := prog_10_method_44_code
def yX8_letters : MethodName := ⟨RX8, "letters", "(III)I"⟩
abbrev cX8_round : ByteArray := prog_10_method_45_code
def yX8_round : MethodName := ⟨RX8, "round", "(III)I"⟩
abbrev cX8_last : ByteArray := prog_10_method_46_code
def yX8_last : MethodName := ⟨RX8, "last", "(I)I"⟩
abbrev cX8_bindsNobody : ByteArray := prog_10_method_47_code
def yX8_bindsNobody : MethodName := ⟨RX8, "bindsNobody", "(I)I"⟩
abbrev cX8_isInTime : ByteArray := prog_10_method_48_code
def yX8_isInTime : MethodName := ⟨RX8, "isInTime", "(I)Z"⟩
abbrev cX8_many : ByteArray := prog_10_method_49_code
def yX8_many : MethodName := ⟨RX8, "many", "(I)I"⟩
abbrev cX8_keeps : ByteArray := prog_10_method_50_code
def yX8_keeps : MethodName := ⟨RX8, "keeps", "(I)I"⟩
abbrev cX8_lateFirst : ByteArray := prog_10_method_51_code
def yX8_lateFirst : MethodName := ⟨RX8, "lateFirst", "(I)I"⟩
abbrev cX8_peace : ByteArray := prog_10_method_52_code
def yX8_peace : MethodName := ⟨RX8, "peace", "(I)I"⟩
abbrev cX8_found : ByteArray := prog_10_method_53_code
def yX8_found : MethodName := ⟨RX8, "found", "(III)I"⟩
abbrev cX8_forget : ByteArray := prog_10_method_54_code
def yX8_forget : MethodName := ⟨RX8, "forget", "()I"⟩
abbrev cX8_mayBe : ByteArray := prog_10_method_55_code
def yX8_mayBe : MethodName := ⟨RX8, "mayBe", "(II)I"⟩
abbrev cX8_odds : ByteArray := prog_10_method_56_code
def yX8_odds : MethodName := ⟨RX8, "odds", "(IIII)I"⟩
abbrev cX8_most : ByteArray := prog_10_method_57_code
def yX8_most : MethodName := ⟨RX8, "most", "()I"⟩
abbrev cX8_titles : ByteArray := prog_10_method_58_code
def yX8_titles : MethodName := ⟨RX8, "titles", "(II)I"⟩
abbrev cX8_rate : ByteArray := prog_10_method_59_code
def yX8_rate : MethodName := ⟨RX8, "rate", "(II)I"⟩
abbrev cX8_trace : ByteArray := prog_10_method_60_code
def yX8_trace : MethodName := ⟨RX8, "trace", "()J"⟩
abbrev cX8_keep : ByteArray := prog_10_method_61_code
def yX8_keep : MethodName := ⟨RX8, "keep", "(I)I"⟩
abbrev cX8_back : ByteArray := prog_10_method_62_code
def yX8_back : MethodName := ⟨RX8, "back", "(I)I"⟩
abbrev cX8_count : ByteArray := prog_10_method_63_code
def yX8_count : MethodName := ⟨RX8, "count", "(I)I"⟩
def RJ6 : String := "java/lang/Integer"
def TJ6 : u_T := fun k => match k with
  | _ => ("", "", "", false)
def tyJ6 : Nat → FieldType := fun k => match k with
  | _ => .int
abbrev wsJ60 : List Cond := u_ws RJ6 TJ6 0
theorem nmJ6 : ∀ a, a < 0 → ∀ b, b < 0 → a ≠ b → (TJ6 a).2.1 ≠ (TJ6 b).2.1 := by decide +kernel
theorem tyJ6_ok : ∀ k, k < 0 → parseFieldDescriptor (TJ6 k).2.2.1 = some (tyJ6 k) := by decide +kernel
abbrev cJ6_bitCount_0f7a4 : ByteArray := prog_11_method_49_code
def yJ6_bitCount_0f7a4 : MethodName := ⟨RJ6, "bitCount", "(I)I"⟩
def RJ9 : String := "java/lang/Math"
def TJ9 : u_T := fun k => match k with
  | _ => ("", "", "", false)
def tyJ9 : Nat → FieldType := fun k => match k with
  | _ => .int
abbrev wsJ90 : List Cond := u_ws RJ9 TJ9 0
theorem nmJ9 : ∀ a, a < 0 → ∀ b, b < 0 → a ≠ b → (TJ9 a).2.1 ≠ (TJ9 b).2.1 := by decide +kernel
theorem tyJ9_ok : ∀ k, k < 0 → parseFieldDescriptor (TJ9 k).2.2.1 = some (tyJ9 k) := by decide +kernel
abbrev cJ9_min_7cf53 : ByteArray := prog_12_method_69_code
def yJ9_min_7cf53 : MethodName := ⟨RJ9, "min", "(II)I"⟩
def RJ10 : String := "java/lang/System"
def TJ10 : u_T := fun k => match k with
  | _ => ("", "", "", false)
def tyJ10 : Nat → FieldType := fun k => match k with
  | _ => .int
abbrev wsJ100 : List Cond := u_ws RJ10 TJ10 0
theorem nmJ10 : ∀ a, a < 0 → ∀ b, b < 0 → a ≠ b → (TJ10 a).2.1 ≠ (TJ10 b).2.1 := by decide +kernel
theorem tyJ10_ok : ∀ k, k < 0 → parseFieldDescriptor (TJ10 k).2.2.1 = some (tyJ10 k) := by decide +kernel
def RL : String := "LastWordLaw"
abbrev cL_law : ByteArray := code
def yL_law : MethodName := ⟨RL, "law", "([I)Z"⟩
abbrev vwCl : List vw_C := [(RX0, TX0, 11), (RX1, TX1, 2), (RX2, TX2, 2), (RX3, TX3, 4), (RX4, TX4, 3), (RX5, TX5, 5), (RX6, TX6, 7), (RX7, TX7, 10), (RX8, TX8, 18)]
end
section
def wsX0_init : List Cond := .code yX0_init cX0_init 1 none :: ([.methodLink RX0 3 objectInit, .instanceMethod objectInit, .code objectInit ⟨#[0xb1]⟩ 1 none, .arrayClass .int, .fieldLink RX0 9 "LastWord$Affairs" "lateTimes" "[I", .fieldLink RX0 15 "LastWord$Affairs" "author" "[I", .fieldLink RX0 18 "LastWord$Affairs" "subject" "[I", .fieldLink RX0 21 "LastWord$Affairs" "printedOn" "[I", .fieldLink RX0 24 "LastWord$Affairs" "owes" "[I", .fieldLink RX0 27 "LastWord$Affairs" "work" "[I", .fieldLink RX0 30 "LastWord$Affairs" "late" "[I"] ++ wsX00)
def wsX0_copy : List Cond := .code yX0_copy cX0_copy 2 none :: ([.fieldLink RX0 33 "LastWord$Affairs" "today" "I", .fieldLink RX0 37 "LastWord$Affairs" "letters" "I", .fieldLink RX0 40 "LastWord$Affairs" "quarrels" "I", .fieldLink RX0 43 "LastWord$Affairs" "laid" "I", .fieldLink RX0 9 "LastWord$Affairs" "lateTimes" "[I", .methodLink RX0 46 arraycopyName, .native arraycopyName, .static arraycopyName, .initialized "java/lang/System", .fieldLink RX0 15 "LastWord$Affairs" "author" "[I", .fieldLink RX0 18 "LastWord$Affairs" "subject" "[I", .fieldLink RX0 21 "LastWord$Affairs" "printedOn" "[I", .fieldLink RX0 24 "LastWord$Affairs" "owes" "[I", .fieldLink RX0 27 "LastWord$Affairs" "work" "[I", .fieldLink RX0 30 "LastWord$Affairs" "late" "[I"] ++ wsX00)
def wsX0_beginAnew : List Cond := .code yX0_beginAnew cX0_beginAnew 2 none :: ([.fieldLink RX0 33 "LastWord$Affairs" "today" "I", .fieldLink RX0 37 "LastWord$Affairs" "letters" "I", .fieldLink RX0 40 "LastWord$Affairs" "quarrels" "I", .fieldLink RX0 43 "LastWord$Affairs" "laid" "I", .fieldLink RX0 9 "LastWord$Affairs" "lateTimes" "[I"] ++ wsX00)
def wsX0_hasQuarrel : List Cond := .code yX0_hasQuarrel cX0_hasQuarrel 2 (some .boolean) :: ([.fieldLink RX0 40 "LastWord$Affairs" "quarrels" "I"] ++ wsX00)
def wsX0_hasLaid : List Cond := .code yX0_hasLaid cX0_hasLaid 2 (some .boolean) :: ([.fieldLink RX0 43 "LastWord$Affairs" "laid" "I"] ++ wsX00)
def wsX0_owedBits : List Cond := .code yX0_owedBits cX0_owedBits 4 (some .int) :: ([.fieldLink RX0 40 "LastWord$Affairs" "quarrels" "I", .fieldLink RX0 24 "LastWord$Affairs" "owes" "[I"] ++ wsX00)
def wsJ6_bitCount_0f7a4 : List Cond := .code yJ6_bitCount_0f7a4 cJ6_bitCount_0f7a4 1 (some .int) :: ([.constant RJ6 265 (1431655765), .constant RJ6 266 (858993459), .constant RJ6 267 (252645135)])
def wsX0_owedBy : List Cond := .code yX0_owedBy cX0_owedBy 2 (some .int) :: ([.methodLink RX0 52 yX0_owedBits, .instanceMethod yX0_owedBits, .selects RX0 yX0_owedBits yX0_owedBits, .initialized RX0, .code yX0_owedBits cX0_owedBits 4 (some .int), .fieldLink RX0 40 "LastWord$Affairs" "quarrels" "I", .fieldLink RX0 24 "LastWord$Affairs" "owes" "[I", .methodLink RX0 56 yJ6_bitCount_0f7a4, .static yJ6_bitCount_0f7a4, .initialized RJ6, .code yJ6_bitCount_0f7a4 cJ6_bitCount_0f7a4 1 (some .int), .constant RJ6 265 (1431655765), .constant RJ6 266 (858993459), .constant RJ6 267 (252645135)] ++ wsX00)
def wsX0_closedBits : List Cond := .code yX0_closedBits cX0_closedBits 1 (some .int) :: ([.methodLink RX0 52 yX0_owedBits, .instanceMethod yX0_owedBits, .selects RX0 yX0_owedBits yX0_owedBits, .initialized RX0, .code yX0_owedBits cX0_owedBits 4 (some .int), .fieldLink RX0 40 "LastWord$Affairs" "quarrels" "I", .fieldLink RX0 24 "LastWord$Affairs" "owes" "[I"] ++ wsX00)
def wsX0_lastWordsOf : List Cond := .code yX0_lastWordsOf cX0_lastWordsOf 4 (some .int) :: ([.fieldLink RX0 40 "LastWord$Affairs" "quarrels" "I", .fieldLink RX0 24 "LastWord$Affairs" "owes" "[I", .fieldLink RX0 15 "LastWord$Affairs" "author" "[I"] ++ wsX00)
def wsX5_answerer : List Cond := .code yX5_answerer cX5_answerer 8 (some .int) :: ([.fieldLink RX5 27 "LastWord$Page" "writers" "I", .fieldLink RX5 24 "LastWord$Page" "near" "[[I"] ++ wsX50)
def wsX0_charge : List Cond := .code yX0_charge cX0_charge 4 none :: ([.fieldLink RX0 15 "LastWord$Affairs" "author" "[I", .fieldLink RX0 18 "LastWord$Affairs" "subject" "[I", .fieldLink RX0 43 "LastWord$Affairs" "laid" "I", .fieldLink RX0 24 "LastWord$Affairs" "owes" "[I", .fieldLink RX0 27 "LastWord$Affairs" "work" "[I", .fieldLink RX0 95 "LastWord$Page" "pen" "[I", .methodLink RX0 91 yX5_answerer, .instanceMethod yX5_answerer, .selects RX5 yX5_answerer yX5_answerer, .initialized RX5, .code yX5_answerer cX5_answerer 8 (some .int), .fieldLink RX5 27 "LastWord$Page" "writers" "I", .fieldLink RX5 24 "LastWord$Page" "near" "[[I"] ++ wsX00 ++ wsX50)
def wsX0_print : List Cond := .code yX0_print cX0_print 5 none :: ([.fieldLink RX0 15 "LastWord$Affairs" "author" "[I", .fieldLink RX0 18 "LastWord$Affairs" "subject" "[I", .fieldLink RX0 21 "LastWord$Affairs" "printedOn" "[I", .fieldLink RX0 33 "LastWord$Affairs" "today" "I", .fieldLink RX0 30 "LastWord$Affairs" "late" "[I", .fieldLink RX0 37 "LastWord$Affairs" "letters" "I", .methodLink RX0 65 yX0_charge, .instanceMethod yX0_charge, .selects RX0 yX0_charge yX0_charge, .initialized RX0, .code yX0_charge cX0_charge 4 none, .fieldLink RX0 43 "LastWord$Affairs" "laid" "I", .fieldLink RX0 24 "LastWord$Affairs" "owes" "[I", .fieldLink RX0 27 "LastWord$Affairs" "work" "[I", .fieldLink RX0 95 "LastWord$Page" "pen" "[I", .methodLink RX0 91 yX5_answerer, .instanceMethod yX5_answerer, .selects RX5 yX5_answerer yX5_answerer, .initialized RX5, .code yX5_answerer cX5_answerer 8 (some .int), .fieldLink RX5 27 "LastWord$Page" "writers" "I", .fieldLink RX5 24 "LastWord$Page" "near" "[[I"] ++ wsX00 ++ wsX50)
def wsX0_begin_r1 : List Cond := [Cond.fieldLink RX0 40 "LastWord$Affairs" "quarrels" "I", Cond.methodLink RX0 61 yX0_print, Cond.instanceMethod yX0_print, Cond.selects RX0 yX0_print yX0_print, Cond.initialized RX0, Cond.code yX0_print cX0_print 5 none, Cond.fieldLink RX0 15 "LastWord$Affairs" "author" "[I", Cond.fieldLink RX0 18 "LastWord$Affairs" "subject" "[I", Cond.fieldLink RX0 21 "LastWord$Affairs" "printedOn" "[I", Cond.fieldLink RX0 33 "LastWord$Affairs" "today" "I", Cond.fieldLink RX0 30 "LastWord$Affairs" "late" "[I", Cond.fieldLink RX0 37 "LastWord$Affairs" "letters" "I", Cond.methodLink RX0 65 yX0_charge, Cond.instanceMethod yX0_charge, Cond.selects RX0 yX0_charge yX0_charge, Cond.code yX0_charge cX0_charge 4 none, Cond.fieldLink RX0 43 "LastWord$Affairs" "laid" "I", Cond.fieldLink RX0 24 "LastWord$Affairs" "owes" "[I", Cond.fieldLink RX0 27 "LastWord$Affairs" "work" "[I", Cond.fieldLink RX0 95 "LastWord$Page" "pen" "[I", Cond.methodLink RX0 91 yX5_answerer, Cond.instanceMethod yX5_answerer, Cond.selects RX5 yX5_answerer yX5_answerer, Cond.initialized RX5]
def wsX0_begin_r2 : List Cond := [Cond.code yX5_answerer cX5_answerer 8 (some .int), Cond.fieldLink RX5 27 "LastWord$Page" "writers" "I", Cond.fieldLink RX5 24 "LastWord$Page" "near" "[[I"]
def wsX0_begin : List Cond := .code yX0_begin cX0_begin 5 (some .int) :: ((wsX0_begin_r1 ++ wsX0_begin_r2) ++ wsX00 ++ wsX50)
def wsX0_layDown_r1 : List Cond := [Cond.fieldLink RX0 43 "LastWord$Affairs" "laid" "I", Cond.fieldLink RX0 40 "LastWord$Affairs" "quarrels" "I", Cond.methodLink RX0 52 yX0_owedBits, Cond.instanceMethod yX0_owedBits, Cond.selects RX0 yX0_owedBits yX0_owedBits, Cond.initialized RX0, Cond.code yX0_owedBits cX0_owedBits 4 (some .int), Cond.fieldLink RX0 24 "LastWord$Affairs" "owes" "[I", Cond.methodLink RX0 65 yX0_charge, Cond.instanceMethod yX0_charge, Cond.selects RX0 yX0_charge yX0_charge, Cond.code yX0_charge cX0_charge 4 none, Cond.fieldLink RX0 15 "LastWord$Affairs" "author" "[I", Cond.fieldLink RX0 18 "LastWord$Affairs" "subject" "[I", Cond.fieldLink RX0 27 "LastWord$Affairs" "work" "[I", Cond.fieldLink RX0 95 "LastWord$Page" "pen" "[I", Cond.methodLink RX0 91 yX5_answerer, Cond.instanceMethod yX5_answerer, Cond.selects RX5 yX5_answerer yX5_answerer, Cond.initialized RX5, Cond.code yX5_answerer cX5_answerer 8 (some .int), Cond.fieldLink RX5 27 "LastWord$Page" "writers" "I", Cond.fieldLink RX5 24 "LastWord$Page" "near" "[[I", Cond.methodLink RX0 56 yJ6_bitCount_0f7a4]
def wsX0_layDown_r2 : List Cond := [Cond.static yJ6_bitCount_0f7a4, Cond.initialized RJ6, Cond.code yJ6_bitCount_0f7a4 cJ6_bitCount_0f7a4 1 (some .int), Cond.constant RJ6 265 (1431655765), Cond.constant RJ6 266 (858993459), Cond.constant RJ6 267 (252645135)]
def wsX0_layDown : List Cond := .code yX0_layDown cX0_layDown 5 (some .int) :: ((wsX0_layDown_r1 ++ wsX0_layDown_r2) ++ wsX00 ++ wsX50)
def wsX0_onDeskOf : List Cond := .code yX0_onDeskOf cX0_onDeskOf 4 (some .int) :: ([.fieldLink RX0 40 "LastWord$Affairs" "quarrels" "I", .fieldLink RX0 24 "LastWord$Affairs" "owes" "[I", .fieldLink RX0 21 "LastWord$Affairs" "printedOn" "[I"] ++ wsX00)
def wsX5_answerOn : List Cond := .code yX5_answerOn cX5_answerOn 3 (some .int) :: ([.fieldLink RX5 19 "LastWord$Page" "hobby" "[I"] ++ wsX50)
def wsX0_turnsLate : List Cond := .code yX0_turnsLate cX0_turnsLate 3 (some .boolean) :: ([.fieldLink RX0 33 "LastWord$Affairs" "today" "I", .fieldLink RX0 21 "LastWord$Affairs" "printedOn" "[I"] ++ wsX00)
def wsX0_passDay_r1 : List Cond := [Cond.fieldLink RX0 69 "LastWord$Page" "writers" "I", Cond.fieldLink RX0 27 "LastWord$Affairs" "work" "[I", Cond.fieldLink RX0 33 "LastWord$Affairs" "today" "I", Cond.fieldLink RX0 40 "LastWord$Affairs" "quarrels" "I", Cond.fieldLink RX0 24 "LastWord$Affairs" "owes" "[I", Cond.fieldLink RX0 18 "LastWord$Affairs" "subject" "[I", Cond.fieldLink RX0 81 "LastWord$Page" "term" "I", Cond.fieldLink RX0 30 "LastWord$Affairs" "late" "[I", Cond.fieldLink RX0 9 "LastWord$Affairs" "lateTimes" "[I", Cond.methodLink RX0 74 yX0_onDeskOf, Cond.instanceMethod yX0_onDeskOf, Cond.selects RX0 yX0_onDeskOf yX0_onDeskOf, Cond.initialized RX0, Cond.code yX0_onDeskOf cX0_onDeskOf 4 (some .int), Cond.fieldLink RX0 21 "LastWord$Affairs" "printedOn" "[I", Cond.methodLink RX0 77 yX5_answerOn, Cond.instanceMethod yX5_answerOn, Cond.selects RX5 yX5_answerOn yX5_answerOn, Cond.initialized RX5, Cond.code yX5_answerOn cX5_answerOn 3 (some .int), Cond.fieldLink RX5 19 "LastWord$Page" "hobby" "[I", Cond.methodLink RX0 61 yX0_print, Cond.instanceMethod yX0_print, Cond.selects RX0 yX0_print yX0_print]
def wsX0_passDay_r2 : List Cond := [Cond.code yX0_print cX0_print 5 none, Cond.fieldLink RX0 15 "LastWord$Affairs" "author" "[I", Cond.fieldLink RX0 37 "LastWord$Affairs" "letters" "I", Cond.methodLink RX0 65 yX0_charge, Cond.instanceMethod yX0_charge, Cond.selects RX0 yX0_charge yX0_charge, Cond.code yX0_charge cX0_charge 4 none, Cond.fieldLink RX0 43 "LastWord$Affairs" "laid" "I", Cond.fieldLink RX0 95 "LastWord$Page" "pen" "[I", Cond.methodLink RX0 91 yX5_answerer, Cond.instanceMethod yX5_answerer, Cond.selects RX5 yX5_answerer yX5_answerer, Cond.code yX5_answerer cX5_answerer 8 (some .int), Cond.fieldLink RX5 27 "LastWord$Page" "writers" "I", Cond.fieldLink RX5 24 "LastWord$Page" "near" "[[I", Cond.methodLink RX0 84 yX0_turnsLate, Cond.instanceMethod yX0_turnsLate, Cond.selects RX0 yX0_turnsLate yX0_turnsLate, Cond.code yX0_turnsLate cX0_turnsLate 3 (some .boolean)]
def wsX0_passDay : List Cond := .code yX0_passDay cX0_passDay 5 (some .int) :: ((wsX0_passDay_r1 ++ wsX0_passDay_r2) ++ wsX50 ++ wsX00)
def wsX0_firstNewlyLate : List Cond := .code yX0_firstNewlyLate cX0_firstNewlyLate 3 (some .int) :: ([.fieldLink RX0 40 "LastWord$Affairs" "quarrels" "I", .fieldLink RX0 24 "LastWord$Affairs" "owes" "[I", .methodLink RX0 84 yX0_turnsLate, .instanceMethod yX0_turnsLate, .selects RX0 yX0_turnsLate yX0_turnsLate, .initialized RX0, .code yX0_turnsLate cX0_turnsLate 3 (some .boolean), .fieldLink RX0 33 "LastWord$Affairs" "today" "I", .fieldLink RX0 21 "LastWord$Affairs" "printedOn" "[I"] ++ wsX00)
def wsX0_workUpTo : List Cond := .code yX0_workUpTo cX0_workUpTo 5 (some .int) :: ([.fieldLink RX0 40 "LastWord$Affairs" "quarrels" "I", .fieldLink RX0 21 "LastWord$Affairs" "printedOn" "[I", .fieldLink RX0 27 "LastWord$Affairs" "work" "[I"] ++ wsX00)
def wsX0_canKeep : List Cond := .code yX0_canKeep cX0_canKeep 4 (some .boolean) :: ([.fieldLink RX0 40 "LastWord$Affairs" "quarrels" "I", .fieldLink RX0 33 "LastWord$Affairs" "today" "I", .fieldLink RX0 21 "LastWord$Affairs" "printedOn" "[I", .methodLink RX0 88 yX0_workUpTo, .instanceMethod yX0_workUpTo, .selects RX0 yX0_workUpTo yX0_workUpTo, .initialized RX0, .code yX0_workUpTo cX0_workUpTo 5 (some .int), .fieldLink RX0 27 "LastWord$Affairs" "work" "[I"] ++ wsX00)
def wsX1_init : List Cond := .code yX1_init cX1_init 2 none :: ([.methodLink RX1 3 objectInit, .instanceMethod objectInit, .code objectInit ⟨#[0xb1]⟩ 1 none, .classLink RX1 9 RX0, .fieldLink RX1 11 "LastWord$Album" "images" "[LLastWord$Affairs;", .instantiable RX0 11, .initialized RX0, .instanceMethod yX0_init, .code yX0_init cX0_init 1 none, .methodLink RX0 3 objectInit, .arrayClass .int, .fieldLink RX0 9 "LastWord$Affairs" "lateTimes" "[I", .fieldLink RX0 15 "LastWord$Affairs" "author" "[I", .fieldLink RX0 18 "LastWord$Affairs" "subject" "[I", .fieldLink RX0 21 "LastWord$Affairs" "printedOn" "[I", .fieldLink RX0 24 "LastWord$Affairs" "owes" "[I", .fieldLink RX0 27 "LastWord$Affairs" "work" "[I", .fieldLink RX0 30 "LastWord$Affairs" "late" "[I"] ++ wsX10 ++ wsX00)
def wsX1_hasPlace : List Cond := .code yX1_hasPlace cX1_hasPlace 2 (some .boolean) :: ([])
def wsX1_isKept : List Cond := .code yX1_isKept cX1_isKept 2 (some .boolean) :: ([.fieldLink RX1 18 "LastWord$Album" "kept" "I"] ++ wsX10)
def wsX1_put : List Cond := .code yX1_put cX1_put 3 none :: ([.fieldLink RX1 11 "LastWord$Album" "images" "[LLastWord$Affairs;", .fieldLink RX1 18 "LastWord$Album" "kept" "I", .methodLink RX1 22 yX0_copy, .instanceMethod yX0_copy, .selects RX0 yX0_copy yX0_copy, .initialized RX0, .code yX0_copy cX0_copy 2 none, .fieldLink RX0 33 "LastWord$Affairs" "today" "I", .fieldLink RX0 37 "LastWord$Affairs" "letters" "I", .fieldLink RX0 40 "LastWord$Affairs" "quarrels" "I", .fieldLink RX0 43 "LastWord$Affairs" "laid" "I", .fieldLink RX0 9 "LastWord$Affairs" "lateTimes" "[I", .methodLink RX0 46 arraycopyName, .native arraycopyName, .static arraycopyName, .initialized "java/lang/System", .fieldLink RX0 15 "LastWord$Affairs" "author" "[I", .fieldLink RX0 18 "LastWord$Affairs" "subject" "[I", .fieldLink RX0 21 "LastWord$Affairs" "printedOn" "[I", .fieldLink RX0 24 "LastWord$Affairs" "owes" "[I", .fieldLink RX0 27 "LastWord$Affairs" "work" "[I", .fieldLink RX0 30 "LastWord$Affairs" "late" "[I"] ++ wsX10 ++ wsX00)
def wsX1_take : List Cond := .code yX1_take cX1_take 3 none :: ([.fieldLink RX1 11 "LastWord$Album" "images" "[LLastWord$Affairs;", .methodLink RX1 22 yX0_copy, .instanceMethod yX0_copy, .selects RX0 yX0_copy yX0_copy, .initialized RX0, .code yX0_copy cX0_copy 2 none, .fieldLink RX0 33 "LastWord$Affairs" "today" "I", .fieldLink RX0 37 "LastWord$Affairs" "letters" "I", .fieldLink RX0 40 "LastWord$Affairs" "quarrels" "I", .fieldLink RX0 43 "LastWord$Affairs" "laid" "I", .fieldLink RX0 9 "LastWord$Affairs" "lateTimes" "[I", .methodLink RX0 46 arraycopyName, .native arraycopyName, .static arraycopyName, .initialized "java/lang/System", .fieldLink RX0 15 "LastWord$Affairs" "author" "[I", .fieldLink RX0 18 "LastWord$Affairs" "subject" "[I", .fieldLink RX0 21 "LastWord$Affairs" "printedOn" "[I", .fieldLink RX0 24 "LastWord$Affairs" "owes" "[I", .fieldLink RX0 27 "LastWord$Affairs" "work" "[I", .fieldLink RX0 30 "LastWord$Affairs" "late" "[I"] ++ wsX10 ++ wsX00)
def wsX1_drop : List Cond := .code yX1_drop cX1_drop 1 none :: ([.fieldLink RX1 18 "LastWord$Album" "kept" "I"] ++ wsX10)
def wsX2_init : List Cond := .code yX2_init cX2_init 1 none :: ([.methodLink RX2 3 objectInit, .instanceMethod objectInit, .code objectInit ⟨#[0xb1]⟩ 1 none])
def wsX2_follow : List Cond := .code yX2_follow cX2_follow 9 none :: ([.fieldLink RX2 17 "LastWord$Course" "length" "I", .fieldLink RX2 21 "LastWord$Course" "lastAuthor" "I", .methodLink RX2 11 yX5_answerer, .instanceMethod yX5_answerer, .selects RX5 yX5_answerer yX5_answerer, .initialized RX5, .code yX5_answerer cX5_answerer 8 (some .int), .fieldLink RX5 27 "LastWord$Page" "writers" "I", .fieldLink RX5 24 "LastWord$Page" "near" "[[I", .methodLink RX2 24 yX5_answerOn, .instanceMethod yX5_answerOn, .selects RX5 yX5_answerOn yX5_answerOn, .code yX5_answerOn cX5_answerOn 3 (some .int), .fieldLink RX5 19 "LastWord$Page" "hobby" "[I"] ++ wsX20 ++ wsX50)
def wsX3_init : List Cond := .code yX3_init cX3_init 1 none :: ([.methodLink RX3 3 objectInit, .instanceMethod objectInit, .code objectInit ⟨#[0xb1]⟩ 1 none, .arrayClass .int, .fieldLink RX3 9 "LastWord$Findings" "author" "[I", .fieldLink RX3 15 "LastWord$Findings" "subject" "[I", .fieldLink RX3 18 "LastWord$Findings" "answerer" "[I"] ++ wsX30)
def wsX3_add : List Cond := .code yX3_add cX3_add 4 (some .int) :: ([.fieldLink RX3 21 "LastWord$Findings" "many" "I", .fieldLink RX3 9 "LastWord$Findings" "author" "[I", .fieldLink RX3 15 "LastWord$Findings" "subject" "[I", .fieldLink RX3 18 "LastWord$Findings" "answerer" "[I"] ++ wsX30)
def wsX3_drop : List Cond := .code yX3_drop cX3_drop 2 (some .int) :: ([.fieldLink RX3 21 "LastWord$Findings" "many" "I"] ++ wsX30)
def wsX3_areSo : List Cond := .code yX3_areSo cX3_areSo 3 (some .boolean) :: ([.fieldLink RX3 21 "LastWord$Findings" "many" "I", .fieldLink RX3 9 "LastWord$Findings" "author" "[I", .fieldLink RX3 15 "LastWord$Findings" "subject" "[I", .fieldLink RX3 18 "LastWord$Findings" "answerer" "[I", .methodLink RX3 25 yX5_answerer, .instanceMethod yX5_answerer, .selects RX5 yX5_answerer yX5_answerer, .initialized RX5, .code yX5_answerer cX5_answerer 8 (some .int), .fieldLink RX5 27 "LastWord$Page" "writers" "I", .fieldLink RX5 24 "LastWord$Page" "near" "[[I"] ++ wsX30 ++ wsX50)
def wsX4_init : List Cond := .code yX4_init cX4_init 2 none :: ([.methodLink RX4 3 objectInit, .instanceMethod objectInit, .code objectInit ⟨#[0xb1]⟩ 1 none, .classLink RX4 9 RX0, .fieldLink RX4 11 "LastWord$History" "ring" "[LLastWord$Affairs;", .instantiable RX0 11, .initialized RX0, .instanceMethod yX0_init, .code yX0_init cX0_init 1 none, .methodLink RX0 3 objectInit, .arrayClass .int, .fieldLink RX0 9 "LastWord$Affairs" "lateTimes" "[I", .fieldLink RX0 15 "LastWord$Affairs" "author" "[I", .fieldLink RX0 18 "LastWord$Affairs" "subject" "[I", .fieldLink RX0 21 "LastWord$Affairs" "printedOn" "[I", .fieldLink RX0 24 "LastWord$Affairs" "owes" "[I", .fieldLink RX0 27 "LastWord$Affairs" "work" "[I", .fieldLink RX0 30 "LastWord$Affairs" "late" "[I"] ++ wsX40 ++ wsX00)
def wsX4_remember_r1 : List Cond := [Cond.fieldLink RX4 11 "LastWord$History" "ring" "[LLastWord$Affairs;", Cond.fieldLink RX4 18 "LastWord$History" "next" "I", Cond.fieldLink RX4 26 "LastWord$History" "known" "I", Cond.methodLink RX4 29 Lib.Math.min.name, Cond.static Lib.Math.min.name, Cond.initialized "java/lang/Math", Cond.code Lib.Math.min.name Lib.Math.min.code 2 (some .int), Cond.methodLink RX4 22 yX0_copy, Cond.instanceMethod yX0_copy, Cond.selects RX0 yX0_copy yX0_copy, Cond.initialized RX0, Cond.code yX0_copy cX0_copy 2 none, Cond.fieldLink RX0 33 "LastWord$Affairs" "today" "I", Cond.fieldLink RX0 37 "LastWord$Affairs" "letters" "I", Cond.fieldLink RX0 40 "LastWord$Affairs" "quarrels" "I", Cond.fieldLink RX0 43 "LastWord$Affairs" "laid" "I", Cond.fieldLink RX0 9 "LastWord$Affairs" "lateTimes" "[I", Cond.methodLink RX0 46 arraycopyName, Cond.native arraycopyName, Cond.static arraycopyName, Cond.initialized "java/lang/System", Cond.fieldLink RX0 15 "LastWord$Affairs" "author" "[I", Cond.fieldLink RX0 18 "LastWord$Affairs" "subject" "[I", Cond.fieldLink RX0 21 "LastWord$Affairs" "printedOn" "[I"]
def wsX4_remember_r2 : List Cond := [Cond.fieldLink RX0 24 "LastWord$Affairs" "owes" "[I", Cond.fieldLink RX0 27 "LastWord$Affairs" "work" "[I", Cond.fieldLink RX0 30 "LastWord$Affairs" "late" "[I"]
def wsX4_remember : List Cond := .code yX4_remember cX4_remember 2 none :: ((wsX4_remember_r1 ++ wsX4_remember_r2) ++ wsX40 ++ wsX00)
def wsX4_recall : List Cond := .code yX4_recall cX4_recall 2 none :: ([.fieldLink RX4 18 "LastWord$History" "next" "I", .fieldLink RX4 26 "LastWord$History" "known" "I", .fieldLink RX4 11 "LastWord$History" "ring" "[LLastWord$Affairs;", .methodLink RX4 22 yX0_copy, .instanceMethod yX0_copy, .selects RX0 yX0_copy yX0_copy, .initialized RX0, .code yX0_copy cX0_copy 2 none, .fieldLink RX0 33 "LastWord$Affairs" "today" "I", .fieldLink RX0 37 "LastWord$Affairs" "letters" "I", .fieldLink RX0 40 "LastWord$Affairs" "quarrels" "I", .fieldLink RX0 43 "LastWord$Affairs" "laid" "I", .fieldLink RX0 9 "LastWord$Affairs" "lateTimes" "[I", .methodLink RX0 46 arraycopyName, .native arraycopyName, .static arraycopyName, .initialized "java/lang/System", .fieldLink RX0 15 "LastWord$Affairs" "author" "[I", .fieldLink RX0 18 "LastWord$Affairs" "subject" "[I", .fieldLink RX0 21 "LastWord$Affairs" "printedOn" "[I", .fieldLink RX0 24 "LastWord$Affairs" "owes" "[I", .fieldLink RX0 27 "LastWord$Affairs" "work" "[I", .fieldLink RX0 30 "LastWord$Affairs" "late" "[I"] ++ wsX40 ++ wsX00)
def wsX4_drop : List Cond := .code yX4_drop cX4_drop 1 none :: ([.fieldLink RX4 26 "LastWord$History" "known" "I"] ++ wsX40)
def wsX5_init : List Cond := .code yX5_init cX5_init 1 none :: ([.methodLink RX5 3 objectInit, .instanceMethod objectInit, .code objectInit ⟨#[0xb1]⟩ 1 none, .fieldLink RX5 9 "LastWord$Page" "term" "I", .arrayClass .int, .fieldLink RX5 15 "LastWord$Page" "pen" "[I", .fieldLink RX5 19 "LastWord$Page" "hobby" "[I", .classLink RX5 22 "[[I", .fieldLink RX5 24 "LastWord$Page" "near" "[[I"] ++ wsX50)
def wsX5_blank : List Cond := .code yX5_blank cX5_blank 1 none :: ([.fieldLink RX5 27 "LastWord$Page" "writers" "I", .fieldLink RX5 9 "LastWord$Page" "term" "I"] ++ wsX50)
def wsX5_hasWriter : List Cond := .code yX5_hasWriter cX5_hasWriter 2 (some .boolean) :: ([.fieldLink RX5 27 "LastWord$Page" "writers" "I"] ++ wsX50)
def wsX5_everybody : List Cond := .code yX5_everybody cX5_everybody 1 (some .int) :: ([.fieldLink RX5 27 "LastWord$Page" "writers" "I"] ++ wsX50)
def wsX6_init : List Cond := .code yX6_init cX6_init 1 none :: ([.methodLink RX6 3 objectInit, .instanceMethod objectInit, .code objectInit ⟨#[0xb1]⟩ 1 none, .arrayClass .int, .fieldLink RX6 9 "LastWord$Text" "letters" "[I"] ++ wsX60)
def wsX6_add : List Cond := .code yX6_add cX6_add 2 (some .int) :: ([.fieldLink RX6 15 "LastWord$Text" "length" "I", .fieldLink RX6 9 "LastWord$Text" "letters" "[I"] ++ wsX60)
def wsX6_empty : List Cond := .code yX6_empty cX6_empty 2 (some .int) :: ([.fieldLink RX6 15 "LastWord$Text" "length" "I"] ++ wsX60)
def wsX6_isDigit : List Cond := .code yX6_isDigit cX6_isDigit 1 (some .boolean) :: ([])
def wsX6_takeDigits : List Cond := .code yX6_takeDigits cX6_takeDigits 2 none :: ([.fieldLink RX6 61 "LastWord$Text" "value" "I", .fieldLink RX6 24 "LastWord$Text" "place" "I", .fieldLink RX6 15 "LastWord$Text" "length" "I", .fieldLink RX6 9 "LastWord$Text" "letters" "[I", .fieldLink RX6 48 "LastWord$Text" "start" "I", .fieldLink RX6 34 "LastWord$Text" "token" "I", .methodLink RX6 74 yX6_isDigit, .static yX6_isDigit, .initialized RX6, .code yX6_isDigit cX6_isDigit 1 (some .boolean)] ++ wsX60)
def wsX6_nextToken : List Cond := .code yX6_nextToken cX6_nextToken 2 none :: ([.fieldLink RX6 24 "LastWord$Text" "place" "I", .fieldLink RX6 15 "LastWord$Text" "length" "I", .fieldLink RX6 9 "LastWord$Text" "letters" "[I", .fieldLink RX6 48 "LastWord$Text" "start" "I", .fieldLink RX6 34 "LastWord$Text" "token" "I", .methodLink RX6 74 yX6_isDigit, .static yX6_isDigit, .initialized RX6, .code yX6_isDigit cX6_isDigit 1 (some .boolean), .methodLink RX6 78 yX6_takeDigits, .instanceMethod yX6_takeDigits, .selects RX6 yX6_takeDigits yX6_takeDigits, .code yX6_takeDigits cX6_takeDigits 2 none, .fieldLink RX6 61 "LastWord$Text" "value" "I"] ++ wsX60)
def wsX6_readNumber : List Cond := .code yX6_readNumber cX6_readNumber 3 (some .boolean) :: ([.fieldLink RX6 34 "LastWord$Text" "token" "I", .fieldLink RX6 61 "LastWord$Text" "value" "I", .methodLink RX6 31 yX6_nextToken, .instanceMethod yX6_nextToken, .selects RX6 yX6_nextToken yX6_nextToken, .initialized RX6, .code yX6_nextToken cX6_nextToken 2 none, .fieldLink RX6 24 "LastWord$Text" "place" "I", .fieldLink RX6 15 "LastWord$Text" "length" "I", .fieldLink RX6 9 "LastWord$Text" "letters" "[I", .fieldLink RX6 48 "LastWord$Text" "start" "I", .methodLink RX6 74 yX6_isDigit, .static yX6_isDigit, .code yX6_isDigit cX6_isDigit 1 (some .boolean), .methodLink RX6 78 yX6_takeDigits, .instanceMethod yX6_takeDigits, .selects RX6 yX6_takeDigits yX6_takeDigits, .code yX6_takeDigits cX6_takeDigits 2 none] ++ wsX60)
def wsX6_readWriter_r1 : List Cond := [Cond.fieldLink RX6 51 "LastWord$Page" "writers" "I", Cond.fieldLink RX6 58 "LastWord$Page" "pen" "[I", Cond.fieldLink RX6 61 "LastWord$Text" "value" "I", Cond.fieldLink RX6 64 "LastWord$Page" "hobby" "[I", Cond.fieldLink RX6 67 "LastWord$Page" "near" "[[I", Cond.methodLink RX6 54 yX6_readNumber, Cond.instanceMethod yX6_readNumber, Cond.selects RX6 yX6_readNumber yX6_readNumber, Cond.initialized RX6, Cond.code yX6_readNumber cX6_readNumber 3 (some .boolean), Cond.fieldLink RX6 34 "LastWord$Text" "token" "I", Cond.methodLink RX6 31 yX6_nextToken, Cond.instanceMethod yX6_nextToken, Cond.selects RX6 yX6_nextToken yX6_nextToken, Cond.code yX6_nextToken cX6_nextToken 2 none, Cond.fieldLink RX6 24 "LastWord$Text" "place" "I", Cond.fieldLink RX6 15 "LastWord$Text" "length" "I", Cond.fieldLink RX6 9 "LastWord$Text" "letters" "[I", Cond.fieldLink RX6 48 "LastWord$Text" "start" "I", Cond.methodLink RX6 74 yX6_isDigit, Cond.static yX6_isDigit, Cond.code yX6_isDigit cX6_isDigit 1 (some .boolean), Cond.methodLink RX6 78 yX6_takeDigits, Cond.instanceMethod yX6_takeDigits]
def wsX6_readWriter_r2 : List Cond := [Cond.selects RX6 yX6_takeDigits yX6_takeDigits, Cond.code yX6_takeDigits cX6_takeDigits 2 none]
def wsX6_readWriter : List Cond := .code yX6_readWriter cX6_readWriter 4 (some .boolean) :: ((wsX6_readWriter_r1 ++ wsX6_readWriter_r2) ++ wsX50 ++ wsX60)
def wsX6_readTerm : List Cond := .code yX6_readTerm cX6_readTerm 2 (some .boolean) :: ([.fieldLink RX6 27 "LastWord$Text" "termTold" "Z", .fieldLink RX6 61 "LastWord$Text" "value" "I", .fieldLink RX6 71 "LastWord$Page" "term" "I", .methodLink RX6 54 yX6_readNumber, .instanceMethod yX6_readNumber, .selects RX6 yX6_readNumber yX6_readNumber, .initialized RX6, .code yX6_readNumber cX6_readNumber 3 (some .boolean), .fieldLink RX6 34 "LastWord$Text" "token" "I", .methodLink RX6 31 yX6_nextToken, .instanceMethod yX6_nextToken, .selects RX6 yX6_nextToken yX6_nextToken, .code yX6_nextToken cX6_nextToken 2 none, .fieldLink RX6 24 "LastWord$Text" "place" "I", .fieldLink RX6 15 "LastWord$Text" "length" "I", .fieldLink RX6 9 "LastWord$Text" "letters" "[I", .fieldLink RX6 48 "LastWord$Text" "start" "I", .methodLink RX6 74 yX6_isDigit, .static yX6_isDigit, .code yX6_isDigit cX6_isDigit 1 (some .boolean), .methodLink RX6 78 yX6_takeDigits, .instanceMethod yX6_takeDigits, .selects RX6 yX6_takeDigits yX6_takeDigits, .code yX6_takeDigits cX6_takeDigits 2 none] ++ wsX60 ++ wsX50)
def wsX6_readSemicolon : List Cond := .code yX6_readSemicolon cX6_readSemicolon 1 (some .boolean) :: ([.fieldLink RX6 34 "LastWord$Text" "token" "I", .methodLink RX6 31 yX6_nextToken, .instanceMethod yX6_nextToken, .selects RX6 yX6_nextToken yX6_nextToken, .initialized RX6, .code yX6_nextToken cX6_nextToken 2 none, .fieldLink RX6 24 "LastWord$Text" "place" "I", .fieldLink RX6 15 "LastWord$Text" "length" "I", .fieldLink RX6 9 "LastWord$Text" "letters" "[I", .fieldLink RX6 48 "LastWord$Text" "start" "I", .methodLink RX6 74 yX6_isDigit, .static yX6_isDigit, .code yX6_isDigit cX6_isDigit 1 (some .boolean), .methodLink RX6 78 yX6_takeDigits, .instanceMethod yX6_takeDigits, .selects RX6 yX6_takeDigits yX6_takeDigits, .code yX6_takeDigits cX6_takeDigits 2 none, .fieldLink RX6 61 "LastWord$Text" "value" "I"] ++ wsX60)
def wsX6_readInto_r1 : List Cond := [Cond.fieldLink RX6 24 "LastWord$Text" "place" "I", Cond.fieldLink RX6 27 "LastWord$Text" "termTold" "Z", Cond.fieldLink RX6 34 "LastWord$Text" "token" "I", Cond.fieldLink RX6 48 "LastWord$Text" "start" "I", Cond.methodLink RX6 19 yX5_blank, Cond.instanceMethod yX5_blank, Cond.selects RX5 yX5_blank yX5_blank, Cond.initialized RX5, Cond.code yX5_blank cX5_blank 1 none, Cond.fieldLink RX5 27 "LastWord$Page" "writers" "I", Cond.fieldLink RX5 9 "LastWord$Page" "term" "I", Cond.methodLink RX6 31 yX6_nextToken, Cond.instanceMethod yX6_nextToken, Cond.selects RX6 yX6_nextToken yX6_nextToken, Cond.initialized RX6, Cond.code yX6_nextToken cX6_nextToken 2 none, Cond.fieldLink RX6 15 "LastWord$Text" "length" "I", Cond.fieldLink RX6 9 "LastWord$Text" "letters" "[I", Cond.methodLink RX6 74 yX6_isDigit, Cond.static yX6_isDigit, Cond.code yX6_isDigit cX6_isDigit 1 (some .boolean), Cond.methodLink RX6 78 yX6_takeDigits, Cond.instanceMethod yX6_takeDigits, Cond.selects RX6 yX6_takeDigits yX6_takeDigits]
def wsX6_readInto_r2 : List Cond := [Cond.code yX6_takeDigits cX6_takeDigits 2 none, Cond.fieldLink RX6 61 "LastWord$Text" "value" "I", Cond.methodLink RX6 37 yX6_readWriter, Cond.instanceMethod yX6_readWriter, Cond.selects RX6 yX6_readWriter yX6_readWriter, Cond.code yX6_readWriter cX6_readWriter 4 (some .boolean), Cond.fieldLink RX6 51 "LastWord$Page" "writers" "I", Cond.fieldLink RX6 58 "LastWord$Page" "pen" "[I", Cond.fieldLink RX6 64 "LastWord$Page" "hobby" "[I", Cond.fieldLink RX6 67 "LastWord$Page" "near" "[[I", Cond.methodLink RX6 54 yX6_readNumber, Cond.instanceMethod yX6_readNumber, Cond.selects RX6 yX6_readNumber yX6_readNumber, Cond.code yX6_readNumber cX6_readNumber 3 (some .boolean), Cond.methodLink RX6 41 yX6_readTerm, Cond.instanceMethod yX6_readTerm, Cond.selects RX6 yX6_readTerm yX6_readTerm, Cond.code yX6_readTerm cX6_readTerm 2 (some .boolean), Cond.fieldLink RX6 71 "LastWord$Page" "term" "I", Cond.methodLink RX6 44 yX6_readSemicolon, Cond.instanceMethod yX6_readSemicolon, Cond.selects RX6 yX6_readSemicolon yX6_readSemicolon, Cond.code yX6_readSemicolon cX6_readSemicolon 1 (some .boolean)]
def wsX6_readInto : List Cond := .code yX6_readInto cX6_readInto 4 (some .int) :: ((wsX6_readInto_r1 ++ wsX6_readInto_r2) ++ wsX60 ++ wsX50)
def wsX7_init_r1 : List Cond := [Cond.methodLink RX7 3 objectInit, Cond.instanceMethod objectInit, Cond.code objectInit ⟨#[0xb1]⟩ 1 none, Cond.classLink RX7 9 RX6, Cond.instantiable RX6 7, Cond.initialized RX6, Cond.fieldLink RX7 12 "LastWord" "text" "LLastWord$Text;", Cond.classLink RX7 16 RX5, Cond.instantiable RX5 5, Cond.initialized RX5, Cond.fieldLink RX7 19 "LastWord" "page" "LLastWord$Page;", Cond.fieldLink RX7 23 "LastWord" "spare" "LLastWord$Page;", Cond.classLink RX7 26 RX0, Cond.instantiable RX0 11, Cond.initialized RX0, Cond.fieldLink RX7 29 "LastWord" "affairs" "LLastWord$Affairs;", Cond.fieldLink RX7 33 "LastWord" "ahead" "LLastWord$Affairs;", Cond.classLink RX7 36 RX4, Cond.instantiable RX4 3, Cond.initialized RX4, Cond.fieldLink RX7 39 "LastWord" "history" "LLastWord$History;", Cond.classLink RX7 43 RX1, Cond.instantiable RX1 2, Cond.initialized RX1]
def wsX7_init_r2 : List Cond := [Cond.fieldLink RX7 46 "LastWord" "album" "LLastWord$Album;", Cond.classLink RX7 50 RX3, Cond.instantiable RX3 4, Cond.initialized RX3, Cond.fieldLink RX7 53 "LastWord" "findings" "LLastWord$Findings;", Cond.classLink RX7 57 RX2, Cond.instantiable RX2 2, Cond.initialized RX2, Cond.fieldLink RX7 60 "LastWord" "course" "LLastWord$Course;", Cond.instanceMethod yX6_init, Cond.code yX6_init cX6_init 1 none, Cond.methodLink RX6 3 objectInit, Cond.arrayClass .int, Cond.fieldLink RX6 9 "LastWord$Text" "letters" "[I", Cond.instanceMethod yX5_init, Cond.code yX5_init cX5_init 1 none, Cond.methodLink RX5 3 objectInit, Cond.fieldLink RX5 9 "LastWord$Page" "term" "I", Cond.fieldLink RX5 15 "LastWord$Page" "pen" "[I", Cond.fieldLink RX5 19 "LastWord$Page" "hobby" "[I", Cond.classLink RX5 22 "[[I", Cond.fieldLink RX5 24 "LastWord$Page" "near" "[[I", Cond.instanceMethod yX0_init, Cond.code yX0_init cX0_init 1 none]
def wsX7_init_r3 : List Cond := [Cond.methodLink RX0 3 objectInit, Cond.fieldLink RX0 9 "LastWord$Affairs" "lateTimes" "[I", Cond.fieldLink RX0 15 "LastWord$Affairs" "author" "[I", Cond.fieldLink RX0 18 "LastWord$Affairs" "subject" "[I", Cond.fieldLink RX0 21 "LastWord$Affairs" "printedOn" "[I", Cond.fieldLink RX0 24 "LastWord$Affairs" "owes" "[I", Cond.fieldLink RX0 27 "LastWord$Affairs" "work" "[I", Cond.fieldLink RX0 30 "LastWord$Affairs" "late" "[I", Cond.methodLink RX7 38 yX4_init, Cond.instanceMethod yX4_init, Cond.code yX4_init cX4_init 2 none, Cond.methodLink RX4 3 objectInit, Cond.classLink RX4 9 RX0, Cond.fieldLink RX4 11 "LastWord$History" "ring" "[LLastWord$Affairs;", Cond.methodLink RX7 45 yX1_init, Cond.instanceMethod yX1_init, Cond.code yX1_init cX1_init 2 none, Cond.methodLink RX1 3 objectInit, Cond.classLink RX1 9 RX0, Cond.fieldLink RX1 11 "LastWord$Album" "images" "[LLastWord$Affairs;", Cond.instanceMethod yX3_init, Cond.code yX3_init cX3_init 1 none, Cond.methodLink RX3 3 objectInit, Cond.fieldLink RX3 9 "LastWord$Findings" "author" "[I"]
def wsX7_init_r4 : List Cond := [Cond.fieldLink RX3 15 "LastWord$Findings" "subject" "[I", Cond.fieldLink RX3 18 "LastWord$Findings" "answerer" "[I", Cond.instanceMethod yX2_init, Cond.code yX2_init cX2_init 1 none, Cond.methodLink RX2 3 objectInit]
def wsX7_init : List Cond := .code yX7_init cX7_init 1 none :: ((wsX7_init_r1 ++ (wsX7_init_r2 ++ (wsX7_init_r3 ++ wsX7_init_r4))) ++ wsX60 ++ wsX70 ++ wsX50 ++ wsX00 ++ wsX40 ++ wsX10 ++ wsX30 ++ wsX20)
def wsX7_type : List Cond := .code yX7_type cX7_type 2 (some .int) :: ([.fieldLink RX7 12 "LastWord" "text" "LLastWord$Text;", .methodLink RX7 64 yX6_add, .instanceMethod yX6_add, .selects RX6 yX6_add yX6_add, .initialized RX6, .code yX6_add cX6_add 2 (some .int), .fieldLink RX6 15 "LastWord$Text" "length" "I", .fieldLink RX6 9 "LastWord$Text" "letters" "[I"] ++ wsX70 ++ wsX60)
def wsX7_clear : List Cond := .code yX7_clear cX7_clear 1 (some .int) :: ([.fieldLink RX7 12 "LastWord" "text" "LLastWord$Text;", .methodLink RX7 68 yX6_empty, .instanceMethod yX6_empty, .selects RX6 yX6_empty yX6_empty, .initialized RX6, .code yX6_empty cX6_empty 2 (some .int), .fieldLink RX6 15 "LastWord$Text" "length" "I"] ++ wsX70 ++ wsX60)
def wsX7_paper_r1 : List Cond := [Cond.fieldLink RX7 12 "LastWord" "text" "LLastWord$Text;", Cond.fieldLink RX7 23 "LastWord" "spare" "LLastWord$Page;", Cond.fieldLink RX7 19 "LastWord" "page" "LLastWord$Page;", Cond.fieldLink RX7 29 "LastWord" "affairs" "LLastWord$Affairs;", Cond.fieldLink RX7 39 "LastWord" "history" "LLastWord$History;", Cond.fieldLink RX7 46 "LastWord" "album" "LLastWord$Album;", Cond.fieldLink RX7 53 "LastWord" "findings" "LLastWord$Findings;", Cond.methodLink RX7 72 yX6_readInto, Cond.instanceMethod yX6_readInto, Cond.selects RX6 yX6_readInto yX6_readInto, Cond.initialized RX6, Cond.code yX6_readInto cX6_readInto 4 (some .int), Cond.fieldLink RX6 24 "LastWord$Text" "place" "I", Cond.fieldLink RX6 27 "LastWord$Text" "termTold" "Z", Cond.fieldLink RX6 34 "LastWord$Text" "token" "I", Cond.fieldLink RX6 48 "LastWord$Text" "start" "I", Cond.methodLink RX6 19 yX5_blank, Cond.instanceMethod yX5_blank, Cond.selects RX5 yX5_blank yX5_blank, Cond.initialized RX5, Cond.code yX5_blank cX5_blank 1 none, Cond.fieldLink RX5 27 "LastWord$Page" "writers" "I", Cond.fieldLink RX5 9 "LastWord$Page" "term" "I", Cond.methodLink RX6 31 yX6_nextToken]
def wsX7_paper_r2 : List Cond := [Cond.instanceMethod yX6_nextToken, Cond.selects RX6 yX6_nextToken yX6_nextToken, Cond.code yX6_nextToken cX6_nextToken 2 none, Cond.fieldLink RX6 15 "LastWord$Text" "length" "I", Cond.fieldLink RX6 9 "LastWord$Text" "letters" "[I", Cond.methodLink RX6 74 yX6_isDigit, Cond.static yX6_isDigit, Cond.code yX6_isDigit cX6_isDigit 1 (some .boolean), Cond.methodLink RX6 78 yX6_takeDigits, Cond.instanceMethod yX6_takeDigits, Cond.selects RX6 yX6_takeDigits yX6_takeDigits, Cond.code yX6_takeDigits cX6_takeDigits 2 none, Cond.fieldLink RX6 61 "LastWord$Text" "value" "I", Cond.methodLink RX6 37 yX6_readWriter, Cond.instanceMethod yX6_readWriter, Cond.selects RX6 yX6_readWriter yX6_readWriter, Cond.code yX6_readWriter cX6_readWriter 4 (some .boolean), Cond.fieldLink RX6 51 "LastWord$Page" "writers" "I", Cond.fieldLink RX6 58 "LastWord$Page" "pen" "[I", Cond.fieldLink RX6 64 "LastWord$Page" "hobby" "[I", Cond.fieldLink RX6 67 "LastWord$Page" "near" "[[I", Cond.methodLink RX6 54 yX6_readNumber, Cond.instanceMethod yX6_readNumber, Cond.selects RX6 yX6_readNumber yX6_readNumber]
def wsX7_paper_r3 : List Cond := [Cond.code yX6_readNumber cX6_readNumber 3 (some .boolean), Cond.methodLink RX6 41 yX6_readTerm, Cond.instanceMethod yX6_readTerm, Cond.selects RX6 yX6_readTerm yX6_readTerm, Cond.code yX6_readTerm cX6_readTerm 2 (some .boolean), Cond.fieldLink RX6 71 "LastWord$Page" "term" "I", Cond.methodLink RX6 44 yX6_readSemicolon, Cond.instanceMethod yX6_readSemicolon, Cond.selects RX6 yX6_readSemicolon yX6_readSemicolon, Cond.code yX6_readSemicolon cX6_readSemicolon 1 (some .boolean), Cond.methodLink RX7 68 yX6_empty, Cond.instanceMethod yX6_empty, Cond.selects RX6 yX6_empty yX6_empty, Cond.code yX6_empty cX6_empty 2 (some .int), Cond.methodLink RX7 76 yX0_beginAnew, Cond.instanceMethod yX0_beginAnew, Cond.selects RX0 yX0_beginAnew yX0_beginAnew, Cond.initialized RX0, Cond.code yX0_beginAnew cX0_beginAnew 2 none, Cond.fieldLink RX0 33 "LastWord$Affairs" "today" "I", Cond.fieldLink RX0 37 "LastWord$Affairs" "letters" "I", Cond.fieldLink RX0 40 "LastWord$Affairs" "quarrels" "I", Cond.fieldLink RX0 43 "LastWord$Affairs" "laid" "I", Cond.fieldLink RX0 9 "LastWord$Affairs" "lateTimes" "[I"]
def wsX7_paper_r4 : List Cond := [Cond.methodLink RX7 79 yX4_drop, Cond.instanceMethod yX4_drop, Cond.selects RX4 yX4_drop yX4_drop, Cond.initialized RX4, Cond.code yX4_drop cX4_drop 1 none, Cond.fieldLink RX4 26 "LastWord$History" "known" "I", Cond.methodLink RX7 82 yX1_drop, Cond.instanceMethod yX1_drop, Cond.selects RX1 yX1_drop yX1_drop, Cond.initialized RX1, Cond.code yX1_drop cX1_drop 1 none, Cond.fieldLink RX1 18 "LastWord$Album" "kept" "I", Cond.methodLink RX7 83 yX3_drop, Cond.instanceMethod yX3_drop, Cond.selects RX3 yX3_drop yX3_drop, Cond.initialized RX3, Cond.code yX3_drop cX3_drop 2 (some .int), Cond.fieldLink RX3 21 "LastWord$Findings" "many" "I"]
def wsX7_paper : List Cond := .code yX7_paper cX7_paper 3 (some .int) :: ((wsX7_paper_r1 ++ (wsX7_paper_r2 ++ (wsX7_paper_r3 ++ wsX7_paper_r4))) ++ wsX70 ++ wsX60 ++ wsX50 ++ wsX00 ++ wsX40 ++ wsX10 ++ wsX30)
def wsX7_writer_r1 : List Cond := [Cond.fieldLink RX7 19 "LastWord" "page" "LLastWord$Page;", Cond.fieldLink RX7 89 "LastWord$Page" "pen" "[I", Cond.fieldLink RX7 93 "LastWord$Page" "hobby" "[I", Cond.fieldLink RX7 29 "LastWord" "affairs" "LLastWord$Affairs;", Cond.fieldLink RX7 102 "LastWord$Affairs" "lateTimes" "[I", Cond.fieldLink RX7 105 "LastWord$Page" "near" "[[I", Cond.methodLink RX7 85 yX5_hasWriter, Cond.instanceMethod yX5_hasWriter, Cond.selects RX5 yX5_hasWriter yX5_hasWriter, Cond.initialized RX5, Cond.code yX5_hasWriter cX5_hasWriter 2 (some .boolean), Cond.fieldLink RX5 27 "LastWord$Page" "writers" "I", Cond.methodLink RX7 96 yX0_hasLaid, Cond.instanceMethod yX0_hasLaid, Cond.selects RX0 yX0_hasLaid yX0_hasLaid, Cond.initialized RX0, Cond.code yX0_hasLaid cX0_hasLaid 2 (some .boolean), Cond.fieldLink RX0 43 "LastWord$Affairs" "laid" "I", Cond.methodLink RX7 99 yX0_owedBy, Cond.instanceMethod yX0_owedBy, Cond.selects RX0 yX0_owedBy yX0_owedBy, Cond.code yX0_owedBy cX0_owedBy 2 (some .int), Cond.methodLink RX0 52 yX0_owedBits, Cond.instanceMethod yX0_owedBits]
def wsX7_writer_r2 : List Cond := [Cond.selects RX0 yX0_owedBits yX0_owedBits, Cond.code yX0_owedBits cX0_owedBits 4 (some .int), Cond.fieldLink RX0 40 "LastWord$Affairs" "quarrels" "I", Cond.fieldLink RX0 24 "LastWord$Affairs" "owes" "[I", Cond.methodLink RX0 56 yJ6_bitCount_0f7a4, Cond.static yJ6_bitCount_0f7a4, Cond.initialized RJ6, Cond.code yJ6_bitCount_0f7a4 cJ6_bitCount_0f7a4 1 (some .int), Cond.constant RJ6 265 (1431655765), Cond.constant RJ6 266 (858993459), Cond.constant RJ6 267 (252645135)]
def wsX7_writer : List Cond := .code yX7_writer cX7_writer 3 (some .int) :: ((wsX7_writer_r1 ++ wsX7_writer_r2) ++ wsX70 ++ wsX50 ++ wsX00)
def wsX7_quarrel : List Cond := .code yX7_quarrel cX7_quarrel 3 (some .int) :: ([.fieldLink RX7 29 "LastWord" "affairs" "LLastWord$Affairs;", .fieldLink RX7 112 "LastWord$Affairs" "author" "[I", .fieldLink RX7 115 "LastWord$Affairs" "subject" "[I", .fieldLink RX7 118 "LastWord$Affairs" "printedOn" "[I", .fieldLink RX7 121 "LastWord$Affairs" "owes" "[I", .fieldLink RX7 124 "LastWord$Affairs" "work" "[I", .fieldLink RX7 127 "LastWord$Affairs" "late" "[I", .methodLink RX7 109 yX0_hasQuarrel, .instanceMethod yX0_hasQuarrel, .selects RX0 yX0_hasQuarrel yX0_hasQuarrel, .initialized RX0, .code yX0_hasQuarrel cX0_hasQuarrel 2 (some .boolean), .fieldLink RX0 40 "LastWord$Affairs" "quarrels" "I"] ++ wsX70 ++ wsX00)
def wsX7_mayStand : List Cond := .code yX7_mayStand cX7_mayStand 3 (some .boolean) :: ([.fieldLink RX7 19 "LastWord" "page" "LLastWord$Page;", .methodLink RX7 85 yX5_hasWriter, .instanceMethod yX5_hasWriter, .selects RX5 yX5_hasWriter yX5_hasWriter, .initialized RX5, .code yX5_hasWriter cX5_hasWriter 2 (some .boolean), .fieldLink RX5 27 "LastWord$Page" "writers" "I"] ++ wsX70 ++ wsX50)
def wsX7_meant : List Cond := .code yX7_meant cX7_meant 3 (some .int) :: ([.fieldLink RX7 19 "LastWord" "page" "LLastWord$Page;", .fieldLink RX7 29 "LastWord" "affairs" "LLastWord$Affairs;", .fieldLink RX7 134 "LastWord$Affairs" "laid" "I", .methodLink RX7 130 yX7_mayStand, .instanceMethod yX7_mayStand, .selects RX7 yX7_mayStand yX7_mayStand, .initialized RX7, .code yX7_mayStand cX7_mayStand 3 (some .boolean), .methodLink RX7 85 yX5_hasWriter, .instanceMethod yX5_hasWriter, .selects RX5 yX5_hasWriter yX5_hasWriter, .initialized RX5, .code yX5_hasWriter cX5_hasWriter 2 (some .boolean), .fieldLink RX5 27 "LastWord$Page" "writers" "I", .methodLink RX7 138 yX5_answerer, .instanceMethod yX5_answerer, .selects RX5 yX5_answerer yX5_answerer, .code yX5_answerer cX5_answerer 8 (some .int), .fieldLink RX5 24 "LastWord$Page" "near" "[[I"] ++ wsX70 ++ wsX00 ++ wsX50)
def wsX7_now : List Cond := .code yX7_now cX7_now 2 (some .int) :: ([.fieldLink RX7 29 "LastWord" "affairs" "LLastWord$Affairs;", .fieldLink RX7 142 "LastWord$Affairs" "today" "I", .fieldLink RX7 145 "LastWord$Affairs" "quarrels" "I", .fieldLink RX7 151 "LastWord$Affairs" "letters" "I", .fieldLink RX7 39 "LastWord" "history" "LLastWord$History;", .fieldLink RX7 154 "LastWord$History" "known" "I", .methodLink RX7 148 yX0_closedBits, .instanceMethod yX0_closedBits, .selects RX0 yX0_closedBits yX0_closedBits, .initialized RX0, .code yX0_closedBits cX0_closedBits 1 (some .int), .methodLink RX0 52 yX0_owedBits, .instanceMethod yX0_owedBits, .selects RX0 yX0_owedBits yX0_owedBits, .code yX0_owedBits cX0_owedBits 4 (some .int), .fieldLink RX0 40 "LastWord$Affairs" "quarrels" "I", .fieldLink RX0 24 "LastWord$Affairs" "owes" "[I"] ++ wsX70 ++ wsX00 ++ wsX40)
def wsX7_writes_r1 : List Cond := [Cond.fieldLink RX7 29 "LastWord" "affairs" "LLastWord$Affairs;", Cond.fieldLink RX7 145 "LastWord$Affairs" "quarrels" "I", Cond.fieldLink RX7 39 "LastWord" "history" "LLastWord$History;", Cond.fieldLink RX7 19 "LastWord" "page" "LLastWord$Page;", Cond.methodLink RX7 130 yX7_mayStand, Cond.instanceMethod yX7_mayStand, Cond.selects RX7 yX7_mayStand yX7_mayStand, Cond.initialized RX7, Cond.code yX7_mayStand cX7_mayStand 3 (some .boolean), Cond.methodLink RX7 85 yX5_hasWriter, Cond.instanceMethod yX5_hasWriter, Cond.selects RX5 yX5_hasWriter yX5_hasWriter, Cond.initialized RX5, Cond.code yX5_hasWriter cX5_hasWriter 2 (some .boolean), Cond.fieldLink RX5 27 "LastWord$Page" "writers" "I", Cond.methodLink RX7 96 yX0_hasLaid, Cond.instanceMethod yX0_hasLaid, Cond.selects RX0 yX0_hasLaid yX0_hasLaid, Cond.initialized RX0, Cond.code yX0_hasLaid cX0_hasLaid 2 (some .boolean), Cond.fieldLink RX0 43 "LastWord$Affairs" "laid" "I", Cond.methodLink RX7 157 yX4_remember, Cond.instanceMethod yX4_remember, Cond.selects RX4 yX4_remember yX4_remember]
def wsX7_writes_r2 : List Cond := [Cond.initialized RX4, Cond.code yX4_remember cX4_remember 2 none, Cond.fieldLink RX4 11 "LastWord$History" "ring" "[LLastWord$Affairs;", Cond.fieldLink RX4 18 "LastWord$History" "next" "I", Cond.fieldLink RX4 26 "LastWord$History" "known" "I", Cond.methodLink RX4 29 Lib.Math.min.name, Cond.static Lib.Math.min.name, Cond.initialized "java/lang/Math", Cond.code Lib.Math.min.name Lib.Math.min.code 2 (some .int), Cond.methodLink RX4 22 yX0_copy, Cond.instanceMethod yX0_copy, Cond.selects RX0 yX0_copy yX0_copy, Cond.code yX0_copy cX0_copy 2 none, Cond.fieldLink RX0 33 "LastWord$Affairs" "today" "I", Cond.fieldLink RX0 37 "LastWord$Affairs" "letters" "I", Cond.fieldLink RX0 40 "LastWord$Affairs" "quarrels" "I", Cond.fieldLink RX0 9 "LastWord$Affairs" "lateTimes" "[I", Cond.methodLink RX0 46 arraycopyName, Cond.native arraycopyName, Cond.static arraycopyName, Cond.initialized "java/lang/System", Cond.fieldLink RX0 15 "LastWord$Affairs" "author" "[I", Cond.fieldLink RX0 18 "LastWord$Affairs" "subject" "[I", Cond.fieldLink RX0 21 "LastWord$Affairs" "printedOn" "[I"]
def wsX7_writes_r3 : List Cond := [Cond.fieldLink RX0 24 "LastWord$Affairs" "owes" "[I", Cond.fieldLink RX0 27 "LastWord$Affairs" "work" "[I", Cond.fieldLink RX0 30 "LastWord$Affairs" "late" "[I", Cond.methodLink RX7 161 yX0_begin, Cond.instanceMethod yX0_begin, Cond.selects RX0 yX0_begin yX0_begin, Cond.code yX0_begin cX0_begin 5 (some .int), Cond.methodLink RX0 61 yX0_print, Cond.instanceMethod yX0_print, Cond.selects RX0 yX0_print yX0_print, Cond.code yX0_print cX0_print 5 none, Cond.methodLink RX0 65 yX0_charge, Cond.instanceMethod yX0_charge, Cond.selects RX0 yX0_charge yX0_charge, Cond.code yX0_charge cX0_charge 4 none, Cond.fieldLink RX0 95 "LastWord$Page" "pen" "[I", Cond.methodLink RX0 91 yX5_answerer, Cond.instanceMethod yX5_answerer, Cond.selects RX5 yX5_answerer yX5_answerer, Cond.code yX5_answerer cX5_answerer 8 (some .int), Cond.fieldLink RX5 24 "LastWord$Page" "near" "[[I"]
def wsX7_writes : List Cond := .code yX7_writes cX7_writes 3 (some .int) :: ((wsX7_writes_r1 ++ (wsX7_writes_r2 ++ wsX7_writes_r3)) ++ wsX70 ++ wsX00 ++ wsX50 ++ wsX40)
def wsX7_day_r1 : List Cond := [Cond.fieldLink RX7 29 "LastWord" "affairs" "LLastWord$Affairs;", Cond.fieldLink RX7 142 "LastWord$Affairs" "today" "I", Cond.fieldLink RX7 39 "LastWord" "history" "LLastWord$History;", Cond.fieldLink RX7 19 "LastWord" "page" "LLastWord$Page;", Cond.methodLink RX7 157 yX4_remember, Cond.instanceMethod yX4_remember, Cond.selects RX4 yX4_remember yX4_remember, Cond.initialized RX4, Cond.code yX4_remember cX4_remember 2 none, Cond.fieldLink RX4 11 "LastWord$History" "ring" "[LLastWord$Affairs;", Cond.fieldLink RX4 18 "LastWord$History" "next" "I", Cond.fieldLink RX4 26 "LastWord$History" "known" "I", Cond.methodLink RX4 29 Lib.Math.min.name, Cond.static Lib.Math.min.name, Cond.initialized "java/lang/Math", Cond.code Lib.Math.min.name Lib.Math.min.code 2 (some .int), Cond.methodLink RX4 22 yX0_copy, Cond.instanceMethod yX0_copy, Cond.selects RX0 yX0_copy yX0_copy, Cond.initialized RX0, Cond.code yX0_copy cX0_copy 2 none, Cond.fieldLink RX0 33 "LastWord$Affairs" "today" "I", Cond.fieldLink RX0 37 "LastWord$Affairs" "letters" "I", Cond.fieldLink RX0 40 "LastWord$Affairs" "quarrels" "I"]
def wsX7_day_r2 : List Cond := [Cond.fieldLink RX0 43 "LastWord$Affairs" "laid" "I", Cond.fieldLink RX0 9 "LastWord$Affairs" "lateTimes" "[I", Cond.methodLink RX0 46 arraycopyName, Cond.native arraycopyName, Cond.static arraycopyName, Cond.initialized "java/lang/System", Cond.fieldLink RX0 15 "LastWord$Affairs" "author" "[I", Cond.fieldLink RX0 18 "LastWord$Affairs" "subject" "[I", Cond.fieldLink RX0 21 "LastWord$Affairs" "printedOn" "[I", Cond.fieldLink RX0 24 "LastWord$Affairs" "owes" "[I", Cond.fieldLink RX0 27 "LastWord$Affairs" "work" "[I", Cond.fieldLink RX0 30 "LastWord$Affairs" "late" "[I", Cond.methodLink RX7 165 yX0_passDay, Cond.instanceMethod yX0_passDay, Cond.selects RX0 yX0_passDay yX0_passDay, Cond.code yX0_passDay cX0_passDay 5 (some .int), Cond.fieldLink RX0 69 "LastWord$Page" "writers" "I", Cond.fieldLink RX0 81 "LastWord$Page" "term" "I", Cond.methodLink RX0 74 yX0_onDeskOf, Cond.instanceMethod yX0_onDeskOf, Cond.selects RX0 yX0_onDeskOf yX0_onDeskOf, Cond.code yX0_onDeskOf cX0_onDeskOf 4 (some .int), Cond.methodLink RX0 77 yX5_answerOn, Cond.instanceMethod yX5_answerOn]
def wsX7_day_r3 : List Cond := [Cond.selects RX5 yX5_answerOn yX5_answerOn, Cond.initialized RX5, Cond.code yX5_answerOn cX5_answerOn 3 (some .int), Cond.fieldLink RX5 19 "LastWord$Page" "hobby" "[I", Cond.methodLink RX0 61 yX0_print, Cond.instanceMethod yX0_print, Cond.selects RX0 yX0_print yX0_print, Cond.code yX0_print cX0_print 5 none, Cond.methodLink RX0 65 yX0_charge, Cond.instanceMethod yX0_charge, Cond.selects RX0 yX0_charge yX0_charge, Cond.code yX0_charge cX0_charge 4 none, Cond.fieldLink RX0 95 "LastWord$Page" "pen" "[I", Cond.methodLink RX0 91 yX5_answerer, Cond.instanceMethod yX5_answerer, Cond.selects RX5 yX5_answerer yX5_answerer, Cond.code yX5_answerer cX5_answerer 8 (some .int), Cond.fieldLink RX5 27 "LastWord$Page" "writers" "I", Cond.fieldLink RX5 24 "LastWord$Page" "near" "[[I", Cond.methodLink RX0 84 yX0_turnsLate, Cond.instanceMethod yX0_turnsLate, Cond.selects RX0 yX0_turnsLate yX0_turnsLate, Cond.code yX0_turnsLate cX0_turnsLate 3 (some .boolean)]
def wsX7_day : List Cond := .code yX7_day cX7_day 1 (some .int) :: ((wsX7_day_r1 ++ (wsX7_day_r2 ++ wsX7_day_r3)) ++ wsX70 ++ wsX00 ++ wsX40 ++ wsX50)
def wsX7_lays_r1 : List Cond := [Cond.fieldLink RX7 19 "LastWord" "page" "LLastWord$Page;", Cond.fieldLink RX7 29 "LastWord" "affairs" "LLastWord$Affairs;", Cond.fieldLink RX7 39 "LastWord" "history" "LLastWord$History;", Cond.methodLink RX7 85 yX5_hasWriter, Cond.instanceMethod yX5_hasWriter, Cond.selects RX5 yX5_hasWriter yX5_hasWriter, Cond.initialized RX5, Cond.code yX5_hasWriter cX5_hasWriter 2 (some .boolean), Cond.fieldLink RX5 27 "LastWord$Page" "writers" "I", Cond.methodLink RX7 96 yX0_hasLaid, Cond.instanceMethod yX0_hasLaid, Cond.selects RX0 yX0_hasLaid yX0_hasLaid, Cond.initialized RX0, Cond.code yX0_hasLaid cX0_hasLaid 2 (some .boolean), Cond.fieldLink RX0 43 "LastWord$Affairs" "laid" "I", Cond.methodLink RX7 157 yX4_remember, Cond.instanceMethod yX4_remember, Cond.selects RX4 yX4_remember yX4_remember, Cond.initialized RX4, Cond.code yX4_remember cX4_remember 2 none, Cond.fieldLink RX4 11 "LastWord$History" "ring" "[LLastWord$Affairs;", Cond.fieldLink RX4 18 "LastWord$History" "next" "I", Cond.fieldLink RX4 26 "LastWord$History" "known" "I", Cond.methodLink RX4 29 Lib.Math.min.name]
def wsX7_lays_r2 : List Cond := [Cond.static Lib.Math.min.name, Cond.initialized "java/lang/Math", Cond.code Lib.Math.min.name Lib.Math.min.code 2 (some .int), Cond.methodLink RX4 22 yX0_copy, Cond.instanceMethod yX0_copy, Cond.selects RX0 yX0_copy yX0_copy, Cond.code yX0_copy cX0_copy 2 none, Cond.fieldLink RX0 33 "LastWord$Affairs" "today" "I", Cond.fieldLink RX0 37 "LastWord$Affairs" "letters" "I", Cond.fieldLink RX0 40 "LastWord$Affairs" "quarrels" "I", Cond.fieldLink RX0 9 "LastWord$Affairs" "lateTimes" "[I", Cond.methodLink RX0 46 arraycopyName, Cond.native arraycopyName, Cond.static arraycopyName, Cond.initialized "java/lang/System", Cond.fieldLink RX0 15 "LastWord$Affairs" "author" "[I", Cond.fieldLink RX0 18 "LastWord$Affairs" "subject" "[I", Cond.fieldLink RX0 21 "LastWord$Affairs" "printedOn" "[I", Cond.fieldLink RX0 24 "LastWord$Affairs" "owes" "[I", Cond.fieldLink RX0 27 "LastWord$Affairs" "work" "[I", Cond.fieldLink RX0 30 "LastWord$Affairs" "late" "[I", Cond.methodLink RX7 168 yX0_layDown, Cond.instanceMethod yX0_layDown, Cond.selects RX0 yX0_layDown yX0_layDown]
def wsX7_lays_r3 : List Cond := [Cond.code yX0_layDown cX0_layDown 5 (some .int), Cond.methodLink RX0 52 yX0_owedBits, Cond.instanceMethod yX0_owedBits, Cond.selects RX0 yX0_owedBits yX0_owedBits, Cond.code yX0_owedBits cX0_owedBits 4 (some .int), Cond.methodLink RX0 65 yX0_charge, Cond.instanceMethod yX0_charge, Cond.selects RX0 yX0_charge yX0_charge, Cond.code yX0_charge cX0_charge 4 none, Cond.fieldLink RX0 95 "LastWord$Page" "pen" "[I", Cond.methodLink RX0 91 yX5_answerer, Cond.instanceMethod yX5_answerer, Cond.selects RX5 yX5_answerer yX5_answerer, Cond.code yX5_answerer cX5_answerer 8 (some .int), Cond.fieldLink RX5 24 "LastWord$Page" "near" "[[I", Cond.methodLink RX0 56 yJ6_bitCount_0f7a4, Cond.static yJ6_bitCount_0f7a4, Cond.initialized RJ6, Cond.code yJ6_bitCount_0f7a4 cJ6_bitCount_0f7a4 1 (some .int), Cond.constant RJ6 265 (1431655765), Cond.constant RJ6 266 (858993459), Cond.constant RJ6 267 (252645135)]
def wsX7_lays : List Cond := .code yX7_lays cX7_lays 2 (some .int) :: ((wsX7_lays_r1 ++ (wsX7_lays_r2 ++ wsX7_lays_r3)) ++ wsX70 ++ wsX50 ++ wsX00 ++ wsX40)
def wsX7_undo_r1 : List Cond := [Cond.fieldLink RX7 39 "LastWord" "history" "LLastWord$History;", Cond.fieldLink RX7 154 "LastWord$History" "known" "I", Cond.fieldLink RX7 29 "LastWord" "affairs" "LLastWord$Affairs;", Cond.methodLink RX7 172 yX4_recall, Cond.instanceMethod yX4_recall, Cond.selects RX4 yX4_recall yX4_recall, Cond.initialized RX4, Cond.code yX4_recall cX4_recall 2 none, Cond.fieldLink RX4 18 "LastWord$History" "next" "I", Cond.fieldLink RX4 26 "LastWord$History" "known" "I", Cond.fieldLink RX4 11 "LastWord$History" "ring" "[LLastWord$Affairs;", Cond.methodLink RX4 22 yX0_copy, Cond.instanceMethod yX0_copy, Cond.selects RX0 yX0_copy yX0_copy, Cond.initialized RX0, Cond.code yX0_copy cX0_copy 2 none, Cond.fieldLink RX0 33 "LastWord$Affairs" "today" "I", Cond.fieldLink RX0 37 "LastWord$Affairs" "letters" "I", Cond.fieldLink RX0 40 "LastWord$Affairs" "quarrels" "I", Cond.fieldLink RX0 43 "LastWord$Affairs" "laid" "I", Cond.fieldLink RX0 9 "LastWord$Affairs" "lateTimes" "[I", Cond.methodLink RX0 46 arraycopyName, Cond.native arraycopyName, Cond.static arraycopyName]
def wsX7_undo_r2 : List Cond := [Cond.initialized "java/lang/System", Cond.fieldLink RX0 15 "LastWord$Affairs" "author" "[I", Cond.fieldLink RX0 18 "LastWord$Affairs" "subject" "[I", Cond.fieldLink RX0 21 "LastWord$Affairs" "printedOn" "[I", Cond.fieldLink RX0 24 "LastWord$Affairs" "owes" "[I", Cond.fieldLink RX0 27 "LastWord$Affairs" "work" "[I", Cond.fieldLink RX0 30 "LastWord$Affairs" "late" "[I"]
def wsX7_undo : List Cond := .code yX7_undo cX7_undo 1 (some .int) :: ((wsX7_undo_r1 ++ wsX7_undo_r2) ++ wsX70 ++ wsX40 ++ wsX00)
def wsX7_inDays_r1 : List Cond := [Cond.fieldLink RX7 29 "LastWord" "affairs" "LLastWord$Affairs;", Cond.fieldLink RX7 33 "LastWord" "ahead" "LLastWord$Affairs;", Cond.fieldLink RX7 19 "LastWord" "page" "LLastWord$Page;", Cond.fieldLink RX7 112 "LastWord$Affairs" "author" "[I", Cond.fieldLink RX7 115 "LastWord$Affairs" "subject" "[I", Cond.fieldLink RX7 121 "LastWord$Affairs" "owes" "[I", Cond.methodLink RX7 109 yX0_hasQuarrel, Cond.instanceMethod yX0_hasQuarrel, Cond.selects RX0 yX0_hasQuarrel yX0_hasQuarrel, Cond.initialized RX0, Cond.code yX0_hasQuarrel cX0_hasQuarrel 2 (some .boolean), Cond.fieldLink RX0 40 "LastWord$Affairs" "quarrels" "I", Cond.methodLink RX7 175 yX0_copy, Cond.instanceMethod yX0_copy, Cond.selects RX0 yX0_copy yX0_copy, Cond.code yX0_copy cX0_copy 2 none, Cond.fieldLink RX0 33 "LastWord$Affairs" "today" "I", Cond.fieldLink RX0 37 "LastWord$Affairs" "letters" "I", Cond.fieldLink RX0 43 "LastWord$Affairs" "laid" "I", Cond.fieldLink RX0 9 "LastWord$Affairs" "lateTimes" "[I", Cond.methodLink RX0 46 arraycopyName, Cond.native arraycopyName, Cond.static arraycopyName, Cond.initialized "java/lang/System"]
def wsX7_inDays_r2 : List Cond := [Cond.fieldLink RX0 15 "LastWord$Affairs" "author" "[I", Cond.fieldLink RX0 18 "LastWord$Affairs" "subject" "[I", Cond.fieldLink RX0 21 "LastWord$Affairs" "printedOn" "[I", Cond.fieldLink RX0 24 "LastWord$Affairs" "owes" "[I", Cond.fieldLink RX0 27 "LastWord$Affairs" "work" "[I", Cond.fieldLink RX0 30 "LastWord$Affairs" "late" "[I", Cond.methodLink RX7 165 yX0_passDay, Cond.instanceMethod yX0_passDay, Cond.selects RX0 yX0_passDay yX0_passDay, Cond.code yX0_passDay cX0_passDay 5 (some .int), Cond.fieldLink RX0 69 "LastWord$Page" "writers" "I", Cond.fieldLink RX0 81 "LastWord$Page" "term" "I", Cond.methodLink RX0 74 yX0_onDeskOf, Cond.instanceMethod yX0_onDeskOf, Cond.selects RX0 yX0_onDeskOf yX0_onDeskOf, Cond.code yX0_onDeskOf cX0_onDeskOf 4 (some .int), Cond.methodLink RX0 77 yX5_answerOn, Cond.instanceMethod yX5_answerOn, Cond.selects RX5 yX5_answerOn yX5_answerOn, Cond.initialized RX5, Cond.code yX5_answerOn cX5_answerOn 3 (some .int), Cond.fieldLink RX5 19 "LastWord$Page" "hobby" "[I", Cond.methodLink RX0 61 yX0_print, Cond.instanceMethod yX0_print]
def wsX7_inDays_r3 : List Cond := [Cond.selects RX0 yX0_print yX0_print, Cond.code yX0_print cX0_print 5 none, Cond.methodLink RX0 65 yX0_charge, Cond.instanceMethod yX0_charge, Cond.selects RX0 yX0_charge yX0_charge, Cond.code yX0_charge cX0_charge 4 none, Cond.fieldLink RX0 95 "LastWord$Page" "pen" "[I", Cond.methodLink RX0 91 yX5_answerer, Cond.instanceMethod yX5_answerer, Cond.selects RX5 yX5_answerer yX5_answerer, Cond.code yX5_answerer cX5_answerer 8 (some .int), Cond.fieldLink RX5 27 "LastWord$Page" "writers" "I", Cond.fieldLink RX5 24 "LastWord$Page" "near" "[[I", Cond.methodLink RX0 84 yX0_turnsLate, Cond.instanceMethod yX0_turnsLate, Cond.selects RX0 yX0_turnsLate yX0_turnsLate, Cond.code yX0_turnsLate cX0_turnsLate 3 (some .boolean)]
def wsX7_inDays : List Cond := .code yX7_inDays cX7_inDays 5 (some .int) :: ((wsX7_inDays_r1 ++ (wsX7_inDays_r2 ++ wsX7_inDays_r3)) ++ wsX70 ++ wsX00 ++ wsX50)
def wsX7_daysTillClosed_r1 : List Cond := [Cond.fieldLink RX7 60 "LastWord" "course" "LLastWord$Course;", Cond.fieldLink RX7 19 "LastWord" "page" "LLastWord$Page;", Cond.fieldLink RX7 33 "LastWord" "ahead" "LLastWord$Affairs;", Cond.fieldLink RX7 112 "LastWord$Affairs" "author" "[I", Cond.fieldLink RX7 115 "LastWord$Affairs" "subject" "[I", Cond.fieldLink RX7 134 "LastWord$Affairs" "laid" "I", Cond.fieldLink RX7 185 "LastWord$Course" "length" "I", Cond.fieldLink RX7 121 "LastWord$Affairs" "owes" "[I", Cond.methodLink RX7 181 yX2_follow, Cond.instanceMethod yX2_follow, Cond.selects RX2 yX2_follow yX2_follow, Cond.initialized RX2, Cond.code yX2_follow cX2_follow 9 none, Cond.fieldLink RX2 17 "LastWord$Course" "length" "I", Cond.fieldLink RX2 21 "LastWord$Course" "lastAuthor" "I", Cond.methodLink RX2 11 yX5_answerer, Cond.instanceMethod yX5_answerer, Cond.selects RX5 yX5_answerer yX5_answerer, Cond.initialized RX5, Cond.code yX5_answerer cX5_answerer 8 (some .int), Cond.fieldLink RX5 27 "LastWord$Page" "writers" "I", Cond.fieldLink RX5 24 "LastWord$Page" "near" "[[I", Cond.methodLink RX2 24 yX5_answerOn, Cond.instanceMethod yX5_answerOn]
def wsX7_daysTillClosed_r2 : List Cond := [Cond.selects RX5 yX5_answerOn yX5_answerOn, Cond.code yX5_answerOn cX5_answerOn 3 (some .int), Cond.fieldLink RX5 19 "LastWord$Page" "hobby" "[I", Cond.methodLink RX7 165 yX0_passDay, Cond.instanceMethod yX0_passDay, Cond.selects RX0 yX0_passDay yX0_passDay, Cond.initialized RX0, Cond.code yX0_passDay cX0_passDay 5 (some .int), Cond.fieldLink RX0 69 "LastWord$Page" "writers" "I", Cond.fieldLink RX0 27 "LastWord$Affairs" "work" "[I", Cond.fieldLink RX0 33 "LastWord$Affairs" "today" "I", Cond.fieldLink RX0 40 "LastWord$Affairs" "quarrels" "I", Cond.fieldLink RX0 24 "LastWord$Affairs" "owes" "[I", Cond.fieldLink RX0 18 "LastWord$Affairs" "subject" "[I", Cond.fieldLink RX0 81 "LastWord$Page" "term" "I", Cond.fieldLink RX0 30 "LastWord$Affairs" "late" "[I", Cond.fieldLink RX0 9 "LastWord$Affairs" "lateTimes" "[I", Cond.methodLink RX0 74 yX0_onDeskOf, Cond.instanceMethod yX0_onDeskOf, Cond.selects RX0 yX0_onDeskOf yX0_onDeskOf, Cond.code yX0_onDeskOf cX0_onDeskOf 4 (some .int), Cond.fieldLink RX0 21 "LastWord$Affairs" "printedOn" "[I", Cond.methodLink RX0 77 yX5_answerOn, Cond.methodLink RX0 61 yX0_print]
def wsX7_daysTillClosed_r3 : List Cond := [Cond.instanceMethod yX0_print, Cond.selects RX0 yX0_print yX0_print, Cond.code yX0_print cX0_print 5 none, Cond.fieldLink RX0 15 "LastWord$Affairs" "author" "[I", Cond.fieldLink RX0 37 "LastWord$Affairs" "letters" "I", Cond.methodLink RX0 65 yX0_charge, Cond.instanceMethod yX0_charge, Cond.selects RX0 yX0_charge yX0_charge, Cond.code yX0_charge cX0_charge 4 none, Cond.fieldLink RX0 43 "LastWord$Affairs" "laid" "I", Cond.fieldLink RX0 95 "LastWord$Page" "pen" "[I", Cond.methodLink RX0 91 yX5_answerer, Cond.methodLink RX0 84 yX0_turnsLate, Cond.instanceMethod yX0_turnsLate, Cond.selects RX0 yX0_turnsLate yX0_turnsLate, Cond.code yX0_turnsLate cX0_turnsLate 3 (some .boolean)]
def wsX7_daysTillClosed : List Cond := .code yX7_daysTillClosed cX7_daysTillClosed 3 (some .int) :: ((wsX7_daysTillClosed_r1 ++ (wsX7_daysTillClosed_r2 ++ wsX7_daysTillClosed_r3)) ++ wsX70 ++ wsX00 ++ wsX20 ++ wsX50)
def wsX7_ends_r1 : List Cond := [Cond.fieldLink RX7 29 "LastWord" "affairs" "LLastWord$Affairs;", Cond.fieldLink RX7 33 "LastWord" "ahead" "LLastWord$Affairs;", Cond.methodLink RX7 109 yX0_hasQuarrel, Cond.instanceMethod yX0_hasQuarrel, Cond.selects RX0 yX0_hasQuarrel yX0_hasQuarrel, Cond.initialized RX0, Cond.code yX0_hasQuarrel cX0_hasQuarrel 2 (some .boolean), Cond.fieldLink RX0 40 "LastWord$Affairs" "quarrels" "I", Cond.methodLink RX7 175 yX0_copy, Cond.instanceMethod yX0_copy, Cond.selects RX0 yX0_copy yX0_copy, Cond.code yX0_copy cX0_copy 2 none, Cond.fieldLink RX0 33 "LastWord$Affairs" "today" "I", Cond.fieldLink RX0 37 "LastWord$Affairs" "letters" "I", Cond.fieldLink RX0 43 "LastWord$Affairs" "laid" "I", Cond.fieldLink RX0 9 "LastWord$Affairs" "lateTimes" "[I", Cond.methodLink RX0 46 arraycopyName, Cond.native arraycopyName, Cond.static arraycopyName, Cond.initialized "java/lang/System", Cond.fieldLink RX0 15 "LastWord$Affairs" "author" "[I", Cond.fieldLink RX0 18 "LastWord$Affairs" "subject" "[I", Cond.fieldLink RX0 21 "LastWord$Affairs" "printedOn" "[I", Cond.fieldLink RX0 24 "LastWord$Affairs" "owes" "[I"]
def wsX7_ends_r2 : List Cond := [Cond.fieldLink RX0 27 "LastWord$Affairs" "work" "[I", Cond.fieldLink RX0 30 "LastWord$Affairs" "late" "[I", Cond.methodLink RX7 178 yX7_daysTillClosed, Cond.instanceMethod yX7_daysTillClosed, Cond.selects RX7 yX7_daysTillClosed yX7_daysTillClosed, Cond.initialized RX7, Cond.code yX7_daysTillClosed cX7_daysTillClosed 3 (some .int), Cond.fieldLink RX7 60 "LastWord" "course" "LLastWord$Course;", Cond.fieldLink RX7 19 "LastWord" "page" "LLastWord$Page;", Cond.fieldLink RX7 112 "LastWord$Affairs" "author" "[I", Cond.fieldLink RX7 115 "LastWord$Affairs" "subject" "[I", Cond.fieldLink RX7 134 "LastWord$Affairs" "laid" "I", Cond.fieldLink RX7 185 "LastWord$Course" "length" "I", Cond.fieldLink RX7 121 "LastWord$Affairs" "owes" "[I", Cond.methodLink RX7 181 yX2_follow, Cond.instanceMethod yX2_follow, Cond.selects RX2 yX2_follow yX2_follow, Cond.initialized RX2, Cond.code yX2_follow cX2_follow 9 none, Cond.fieldLink RX2 17 "LastWord$Course" "length" "I", Cond.fieldLink RX2 21 "LastWord$Course" "lastAuthor" "I", Cond.methodLink RX2 11 yX5_answerer, Cond.instanceMethod yX5_answerer, Cond.selects RX5 yX5_answerer yX5_answerer]
def wsX7_ends_r3 : List Cond := [Cond.initialized RX5, Cond.code yX5_answerer cX5_answerer 8 (some .int), Cond.fieldLink RX5 27 "LastWord$Page" "writers" "I", Cond.fieldLink RX5 24 "LastWord$Page" "near" "[[I", Cond.methodLink RX2 24 yX5_answerOn, Cond.instanceMethod yX5_answerOn, Cond.selects RX5 yX5_answerOn yX5_answerOn, Cond.code yX5_answerOn cX5_answerOn 3 (some .int), Cond.fieldLink RX5 19 "LastWord$Page" "hobby" "[I", Cond.methodLink RX7 165 yX0_passDay, Cond.instanceMethod yX0_passDay, Cond.selects RX0 yX0_passDay yX0_passDay, Cond.code yX0_passDay cX0_passDay 5 (some .int), Cond.fieldLink RX0 69 "LastWord$Page" "writers" "I", Cond.fieldLink RX0 81 "LastWord$Page" "term" "I", Cond.methodLink RX0 74 yX0_onDeskOf, Cond.instanceMethod yX0_onDeskOf, Cond.selects RX0 yX0_onDeskOf yX0_onDeskOf, Cond.code yX0_onDeskOf cX0_onDeskOf 4 (some .int), Cond.methodLink RX0 77 yX5_answerOn, Cond.methodLink RX0 61 yX0_print, Cond.instanceMethod yX0_print, Cond.selects RX0 yX0_print yX0_print, Cond.code yX0_print cX0_print 5 none]
def wsX7_ends_r4 : List Cond := [Cond.methodLink RX0 65 yX0_charge, Cond.instanceMethod yX0_charge, Cond.selects RX0 yX0_charge yX0_charge, Cond.code yX0_charge cX0_charge 4 none, Cond.fieldLink RX0 95 "LastWord$Page" "pen" "[I", Cond.methodLink RX0 91 yX5_answerer, Cond.methodLink RX0 84 yX0_turnsLate, Cond.instanceMethod yX0_turnsLate, Cond.selects RX0 yX0_turnsLate yX0_turnsLate, Cond.code yX0_turnsLate cX0_turnsLate 3 (some .boolean)]
def wsX7_ends : List Cond := .code yX7_ends cX7_ends 2 (some .int) :: ((wsX7_ends_r1 ++ (wsX7_ends_r2 ++ (wsX7_ends_r3 ++ wsX7_ends_r4))) ++ wsX70 ++ wsX00 ++ wsX20 ++ wsX50)
def wsX7_round_r1 : List Cond := [Cond.fieldLink RX7 29 "LastWord" "affairs" "LLastWord$Affairs;", Cond.fieldLink RX7 60 "LastWord" "course" "LLastWord$Course;", Cond.fieldLink RX7 19 "LastWord" "page" "LLastWord$Page;", Cond.fieldLink RX7 134 "LastWord$Affairs" "laid" "I", Cond.fieldLink RX7 185 "LastWord$Course" "length" "I", Cond.fieldLink RX7 188 "LastWord$Course" "lastAuthor" "I", Cond.methodLink RX7 130 yX7_mayStand, Cond.instanceMethod yX7_mayStand, Cond.selects RX7 yX7_mayStand yX7_mayStand, Cond.initialized RX7, Cond.code yX7_mayStand cX7_mayStand 3 (some .boolean), Cond.methodLink RX7 85 yX5_hasWriter, Cond.instanceMethod yX5_hasWriter, Cond.selects RX5 yX5_hasWriter yX5_hasWriter, Cond.initialized RX5, Cond.code yX5_hasWriter cX5_hasWriter 2 (some .boolean), Cond.fieldLink RX5 27 "LastWord$Page" "writers" "I", Cond.methodLink RX7 96 yX0_hasLaid, Cond.instanceMethod yX0_hasLaid, Cond.selects RX0 yX0_hasLaid yX0_hasLaid, Cond.initialized RX0, Cond.code yX0_hasLaid cX0_hasLaid 2 (some .boolean), Cond.fieldLink RX0 43 "LastWord$Affairs" "laid" "I", Cond.methodLink RX7 181 yX2_follow]
def wsX7_round_r2 : List Cond := [Cond.instanceMethod yX2_follow, Cond.selects RX2 yX2_follow yX2_follow, Cond.initialized RX2, Cond.code yX2_follow cX2_follow 9 none, Cond.fieldLink RX2 17 "LastWord$Course" "length" "I", Cond.fieldLink RX2 21 "LastWord$Course" "lastAuthor" "I", Cond.methodLink RX2 11 yX5_answerer, Cond.instanceMethod yX5_answerer, Cond.selects RX5 yX5_answerer yX5_answerer, Cond.code yX5_answerer cX5_answerer 8 (some .int), Cond.fieldLink RX5 24 "LastWord$Page" "near" "[[I", Cond.methodLink RX2 24 yX5_answerOn, Cond.instanceMethod yX5_answerOn, Cond.selects RX5 yX5_answerOn yX5_answerOn, Cond.code yX5_answerOn cX5_answerOn 3 (some .int), Cond.fieldLink RX5 19 "LastWord$Page" "hobby" "[I"]
def wsX7_round : List Cond := .code yX7_round cX7_round 4 (some .int) :: ((wsX7_round_r1 ++ wsX7_round_r2) ++ wsX70 ++ wsX00 ++ wsX20 ++ wsX50)
def wsX7_hasLastWord : List Cond := .code yX7_hasLastWord cX7_hasLastWord 4 (some .boolean) :: ([.fieldLink RX7 60 "LastWord" "course" "LLastWord$Course;", .fieldLink RX7 19 "LastWord" "page" "LLastWord$Page;", .fieldLink RX7 188 "LastWord$Course" "lastAuthor" "I", .methodLink RX7 181 yX2_follow, .instanceMethod yX2_follow, .selects RX2 yX2_follow yX2_follow, .initialized RX2, .code yX2_follow cX2_follow 9 none, .fieldLink RX2 17 "LastWord$Course" "length" "I", .fieldLink RX2 21 "LastWord$Course" "lastAuthor" "I", .methodLink RX2 11 yX5_answerer, .instanceMethod yX5_answerer, .selects RX5 yX5_answerer yX5_answerer, .initialized RX5, .code yX5_answerer cX5_answerer 8 (some .int), .fieldLink RX5 27 "LastWord$Page" "writers" "I", .fieldLink RX5 24 "LastWord$Page" "near" "[[I", .methodLink RX2 24 yX5_answerOn, .instanceMethod yX5_answerOn, .selects RX5 yX5_answerOn yX5_answerOn, .code yX5_answerOn cX5_answerOn 3 (some .int), .fieldLink RX5 19 "LastWord$Page" "hobby" "[I"] ++ wsX70 ++ wsX20 ++ wsX50)
def wsX7_last_r1 : List Cond := [Cond.fieldLink RX7 19 "LastWord" "page" "LLastWord$Page;", Cond.fieldLink RX7 29 "LastWord" "affairs" "LLastWord$Affairs;", Cond.fieldLink RX7 134 "LastWord$Affairs" "laid" "I", Cond.methodLink RX7 85 yX5_hasWriter, Cond.instanceMethod yX5_hasWriter, Cond.selects RX5 yX5_hasWriter yX5_hasWriter, Cond.initialized RX5, Cond.code yX5_hasWriter cX5_hasWriter 2 (some .boolean), Cond.fieldLink RX5 27 "LastWord$Page" "writers" "I", Cond.methodLink RX7 96 yX0_hasLaid, Cond.instanceMethod yX0_hasLaid, Cond.selects RX0 yX0_hasLaid yX0_hasLaid, Cond.initialized RX0, Cond.code yX0_hasLaid cX0_hasLaid 2 (some .boolean), Cond.fieldLink RX0 43 "LastWord$Affairs" "laid" "I", Cond.methodLink RX7 191 yX7_hasLastWord, Cond.instanceMethod yX7_hasLastWord, Cond.selects RX7 yX7_hasLastWord yX7_hasLastWord, Cond.initialized RX7, Cond.code yX7_hasLastWord cX7_hasLastWord 4 (some .boolean), Cond.fieldLink RX7 60 "LastWord" "course" "LLastWord$Course;", Cond.fieldLink RX7 188 "LastWord$Course" "lastAuthor" "I", Cond.methodLink RX7 181 yX2_follow, Cond.instanceMethod yX2_follow]
def wsX7_last_r2 : List Cond := [Cond.selects RX2 yX2_follow yX2_follow, Cond.initialized RX2, Cond.code yX2_follow cX2_follow 9 none, Cond.fieldLink RX2 17 "LastWord$Course" "length" "I", Cond.fieldLink RX2 21 "LastWord$Course" "lastAuthor" "I", Cond.methodLink RX2 11 yX5_answerer, Cond.instanceMethod yX5_answerer, Cond.selects RX5 yX5_answerer yX5_answerer, Cond.code yX5_answerer cX5_answerer 8 (some .int), Cond.fieldLink RX5 24 "LastWord$Page" "near" "[[I", Cond.methodLink RX2 24 yX5_answerOn, Cond.instanceMethod yX5_answerOn, Cond.selects RX5 yX5_answerOn yX5_answerOn, Cond.code yX5_answerOn cX5_answerOn 3 (some .int), Cond.fieldLink RX5 19 "LastWord$Page" "hobby" "[I"]
def wsX7_last : List Cond := .code yX7_last cX7_last 3 (some .int) :: ((wsX7_last_r1 ++ wsX7_last_r2) ++ wsX70 ++ wsX00 ++ wsX50 ++ wsX20)
def wsX7_bindsNobody : List Cond := .code yX7_bindsNobody cX7_bindsNobody 4 (some .int) :: ([.fieldLink RX7 19 "LastWord" "page" "LLastWord$Page;", .fieldLink RX7 29 "LastWord" "affairs" "LLastWord$Affairs;", .fieldLink RX7 134 "LastWord$Affairs" "laid" "I", .methodLink RX7 85 yX5_hasWriter, .instanceMethod yX5_hasWriter, .selects RX5 yX5_hasWriter yX5_hasWriter, .initialized RX5, .code yX5_hasWriter cX5_hasWriter 2 (some .boolean), .fieldLink RX5 27 "LastWord$Page" "writers" "I", .methodLink RX7 138 yX5_answerer, .instanceMethod yX5_answerer, .selects RX5 yX5_answerer yX5_answerer, .code yX5_answerer cX5_answerer 8 (some .int), .fieldLink RX5 24 "LastWord$Page" "near" "[[I"] ++ wsX70 ++ wsX00 ++ wsX50)
def wsX7_keeps_r1 : List Cond := [Cond.fieldLink RX7 19 "LastWord" "page" "LLastWord$Page;", Cond.fieldLink RX7 29 "LastWord" "affairs" "LLastWord$Affairs;", Cond.fieldLink RX7 203 "LastWord$Page" "term" "I", Cond.methodLink RX7 85 yX5_hasWriter, Cond.instanceMethod yX5_hasWriter, Cond.selects RX5 yX5_hasWriter yX5_hasWriter, Cond.initialized RX5, Cond.code yX5_hasWriter cX5_hasWriter 2 (some .boolean), Cond.fieldLink RX5 27 "LastWord$Page" "writers" "I", Cond.methodLink RX7 195 yX0_owedBits, Cond.instanceMethod yX0_owedBits, Cond.selects RX0 yX0_owedBits yX0_owedBits, Cond.initialized RX0, Cond.code yX0_owedBits cX0_owedBits 4 (some .int), Cond.fieldLink RX0 40 "LastWord$Affairs" "quarrels" "I", Cond.fieldLink RX0 24 "LastWord$Affairs" "owes" "[I", Cond.methodLink RX7 198 yJ6_bitCount_0f7a4, Cond.static yJ6_bitCount_0f7a4, Cond.initialized RJ6, Cond.code yJ6_bitCount_0f7a4 cJ6_bitCount_0f7a4 1 (some .int), Cond.constant RJ6 265 (1431655765), Cond.constant RJ6 266 (858993459), Cond.constant RJ6 267 (252645135), Cond.methodLink RX7 206 yX0_canKeep]
def wsX7_keeps_r2 : List Cond := [Cond.instanceMethod yX0_canKeep, Cond.selects RX0 yX0_canKeep yX0_canKeep, Cond.code yX0_canKeep cX0_canKeep 4 (some .boolean), Cond.fieldLink RX0 33 "LastWord$Affairs" "today" "I", Cond.fieldLink RX0 21 "LastWord$Affairs" "printedOn" "[I", Cond.methodLink RX0 88 yX0_workUpTo, Cond.instanceMethod yX0_workUpTo, Cond.selects RX0 yX0_workUpTo yX0_workUpTo, Cond.code yX0_workUpTo cX0_workUpTo 5 (some .int), Cond.fieldLink RX0 27 "LastWord$Affairs" "work" "[I"]
def wsX7_keeps : List Cond := .code yX7_keeps cX7_keeps 6 (some .int) :: ((wsX7_keeps_r1 ++ wsX7_keeps_r2) ++ wsX70 ++ wsX50 ++ wsX00)
def wsX7_lateFirst_r1 : List Cond := [Cond.fieldLink RX7 33 "LastWord" "ahead" "LLastWord$Affairs;", Cond.fieldLink RX7 29 "LastWord" "affairs" "LLastWord$Affairs;", Cond.fieldLink RX7 19 "LastWord" "page" "LLastWord$Page;", Cond.fieldLink RX7 203 "LastWord$Page" "term" "I", Cond.fieldLink RX7 121 "LastWord$Affairs" "owes" "[I", Cond.methodLink RX7 175 yX0_copy, Cond.instanceMethod yX0_copy, Cond.selects RX0 yX0_copy yX0_copy, Cond.initialized RX0, Cond.code yX0_copy cX0_copy 2 none, Cond.fieldLink RX0 33 "LastWord$Affairs" "today" "I", Cond.fieldLink RX0 37 "LastWord$Affairs" "letters" "I", Cond.fieldLink RX0 40 "LastWord$Affairs" "quarrels" "I", Cond.fieldLink RX0 43 "LastWord$Affairs" "laid" "I", Cond.fieldLink RX0 9 "LastWord$Affairs" "lateTimes" "[I", Cond.methodLink RX0 46 arraycopyName, Cond.native arraycopyName, Cond.static arraycopyName, Cond.initialized "java/lang/System", Cond.fieldLink RX0 15 "LastWord$Affairs" "author" "[I", Cond.fieldLink RX0 18 "LastWord$Affairs" "subject" "[I", Cond.fieldLink RX0 21 "LastWord$Affairs" "printedOn" "[I", Cond.fieldLink RX0 24 "LastWord$Affairs" "owes" "[I", Cond.fieldLink RX0 27 "LastWord$Affairs" "work" "[I"]
def wsX7_lateFirst_r2 : List Cond := [Cond.fieldLink RX0 30 "LastWord$Affairs" "late" "[I", Cond.methodLink RX7 165 yX0_passDay, Cond.instanceMethod yX0_passDay, Cond.selects RX0 yX0_passDay yX0_passDay, Cond.code yX0_passDay cX0_passDay 5 (some .int), Cond.fieldLink RX0 69 "LastWord$Page" "writers" "I", Cond.fieldLink RX0 81 "LastWord$Page" "term" "I", Cond.methodLink RX0 74 yX0_onDeskOf, Cond.instanceMethod yX0_onDeskOf, Cond.selects RX0 yX0_onDeskOf yX0_onDeskOf, Cond.code yX0_onDeskOf cX0_onDeskOf 4 (some .int), Cond.methodLink RX0 77 yX5_answerOn, Cond.instanceMethod yX5_answerOn, Cond.selects RX5 yX5_answerOn yX5_answerOn, Cond.initialized RX5, Cond.code yX5_answerOn cX5_answerOn 3 (some .int), Cond.fieldLink RX5 19 "LastWord$Page" "hobby" "[I", Cond.methodLink RX0 61 yX0_print, Cond.instanceMethod yX0_print, Cond.selects RX0 yX0_print yX0_print, Cond.code yX0_print cX0_print 5 none, Cond.methodLink RX0 65 yX0_charge, Cond.instanceMethod yX0_charge, Cond.selects RX0 yX0_charge yX0_charge]
def wsX7_lateFirst_r3 : List Cond := [Cond.code yX0_charge cX0_charge 4 none, Cond.fieldLink RX0 95 "LastWord$Page" "pen" "[I", Cond.methodLink RX0 91 yX5_answerer, Cond.instanceMethod yX5_answerer, Cond.selects RX5 yX5_answerer yX5_answerer, Cond.code yX5_answerer cX5_answerer 8 (some .int), Cond.fieldLink RX5 27 "LastWord$Page" "writers" "I", Cond.fieldLink RX5 24 "LastWord$Page" "near" "[[I", Cond.methodLink RX0 84 yX0_turnsLate, Cond.instanceMethod yX0_turnsLate, Cond.selects RX0 yX0_turnsLate yX0_turnsLate, Cond.code yX0_turnsLate cX0_turnsLate 3 (some .boolean), Cond.methodLink RX7 209 yX0_firstNewlyLate, Cond.instanceMethod yX0_firstNewlyLate, Cond.selects RX0 yX0_firstNewlyLate yX0_firstNewlyLate, Cond.code yX0_firstNewlyLate cX0_firstNewlyLate 3 (some .int)]
def wsX7_lateFirst : List Cond := .code yX7_lateFirst cX7_lateFirst 4 (some .int) :: ((wsX7_lateFirst_r1 ++ (wsX7_lateFirst_r2 ++ wsX7_lateFirst_r3)) ++ wsX70 ++ wsX50 ++ wsX00)
def wsX7_endsWithout_r1 : List Cond := [Cond.fieldLink RX7 33 "LastWord" "ahead" "LLastWord$Affairs;", Cond.fieldLink RX7 29 "LastWord" "affairs" "LLastWord$Affairs;", Cond.fieldLink RX7 19 "LastWord" "page" "LLastWord$Page;", Cond.fieldLink RX7 231 "LastWord$Page" "writers" "I", Cond.methodLink RX7 175 yX0_copy, Cond.instanceMethod yX0_copy, Cond.selects RX0 yX0_copy yX0_copy, Cond.initialized RX0, Cond.code yX0_copy cX0_copy 2 none, Cond.fieldLink RX0 33 "LastWord$Affairs" "today" "I", Cond.fieldLink RX0 37 "LastWord$Affairs" "letters" "I", Cond.fieldLink RX0 40 "LastWord$Affairs" "quarrels" "I", Cond.fieldLink RX0 43 "LastWord$Affairs" "laid" "I", Cond.fieldLink RX0 9 "LastWord$Affairs" "lateTimes" "[I", Cond.methodLink RX0 46 arraycopyName, Cond.native arraycopyName, Cond.static arraycopyName, Cond.initialized "java/lang/System", Cond.fieldLink RX0 15 "LastWord$Affairs" "author" "[I", Cond.fieldLink RX0 18 "LastWord$Affairs" "subject" "[I", Cond.fieldLink RX0 21 "LastWord$Affairs" "printedOn" "[I", Cond.fieldLink RX0 24 "LastWord$Affairs" "owes" "[I", Cond.fieldLink RX0 27 "LastWord$Affairs" "work" "[I", Cond.fieldLink RX0 30 "LastWord$Affairs" "late" "[I"]
def wsX7_endsWithout_r2 : List Cond := [Cond.methodLink RX7 168 yX0_layDown, Cond.instanceMethod yX0_layDown, Cond.selects RX0 yX0_layDown yX0_layDown, Cond.code yX0_layDown cX0_layDown 5 (some .int), Cond.methodLink RX0 52 yX0_owedBits, Cond.instanceMethod yX0_owedBits, Cond.selects RX0 yX0_owedBits yX0_owedBits, Cond.code yX0_owedBits cX0_owedBits 4 (some .int), Cond.methodLink RX0 65 yX0_charge, Cond.instanceMethod yX0_charge, Cond.selects RX0 yX0_charge yX0_charge, Cond.code yX0_charge cX0_charge 4 none, Cond.fieldLink RX0 95 "LastWord$Page" "pen" "[I", Cond.methodLink RX0 91 yX5_answerer, Cond.instanceMethod yX5_answerer, Cond.selects RX5 yX5_answerer yX5_answerer, Cond.initialized RX5, Cond.code yX5_answerer cX5_answerer 8 (some .int), Cond.fieldLink RX5 27 "LastWord$Page" "writers" "I", Cond.fieldLink RX5 24 "LastWord$Page" "near" "[[I", Cond.methodLink RX0 56 yJ6_bitCount_0f7a4, Cond.static yJ6_bitCount_0f7a4, Cond.initialized RJ6, Cond.code yJ6_bitCount_0f7a4 cJ6_bitCount_0f7a4 1 (some .int)]
def wsX7_endsWithout_r3 : List Cond := [Cond.constant RJ6 265 (1431655765), Cond.constant RJ6 266 (858993459), Cond.constant RJ6 267 (252645135), Cond.methodLink RX7 178 yX7_daysTillClosed, Cond.instanceMethod yX7_daysTillClosed, Cond.selects RX7 yX7_daysTillClosed yX7_daysTillClosed, Cond.initialized RX7, Cond.code yX7_daysTillClosed cX7_daysTillClosed 3 (some .int), Cond.fieldLink RX7 60 "LastWord" "course" "LLastWord$Course;", Cond.fieldLink RX7 112 "LastWord$Affairs" "author" "[I", Cond.fieldLink RX7 115 "LastWord$Affairs" "subject" "[I", Cond.fieldLink RX7 134 "LastWord$Affairs" "laid" "I", Cond.fieldLink RX7 185 "LastWord$Course" "length" "I", Cond.fieldLink RX7 121 "LastWord$Affairs" "owes" "[I", Cond.methodLink RX7 181 yX2_follow, Cond.instanceMethod yX2_follow, Cond.selects RX2 yX2_follow yX2_follow, Cond.initialized RX2, Cond.code yX2_follow cX2_follow 9 none, Cond.fieldLink RX2 17 "LastWord$Course" "length" "I", Cond.fieldLink RX2 21 "LastWord$Course" "lastAuthor" "I", Cond.methodLink RX2 11 yX5_answerer, Cond.methodLink RX2 24 yX5_answerOn, Cond.instanceMethod yX5_answerOn]
def wsX7_endsWithout_r4 : List Cond := [Cond.selects RX5 yX5_answerOn yX5_answerOn, Cond.code yX5_answerOn cX5_answerOn 3 (some .int), Cond.fieldLink RX5 19 "LastWord$Page" "hobby" "[I", Cond.methodLink RX7 165 yX0_passDay, Cond.instanceMethod yX0_passDay, Cond.selects RX0 yX0_passDay yX0_passDay, Cond.code yX0_passDay cX0_passDay 5 (some .int), Cond.fieldLink RX0 69 "LastWord$Page" "writers" "I", Cond.fieldLink RX0 81 "LastWord$Page" "term" "I", Cond.methodLink RX0 74 yX0_onDeskOf, Cond.instanceMethod yX0_onDeskOf, Cond.selects RX0 yX0_onDeskOf yX0_onDeskOf, Cond.code yX0_onDeskOf cX0_onDeskOf 4 (some .int), Cond.methodLink RX0 77 yX5_answerOn, Cond.methodLink RX0 61 yX0_print, Cond.instanceMethod yX0_print, Cond.selects RX0 yX0_print yX0_print, Cond.code yX0_print cX0_print 5 none, Cond.methodLink RX0 84 yX0_turnsLate, Cond.instanceMethod yX0_turnsLate, Cond.selects RX0 yX0_turnsLate yX0_turnsLate, Cond.code yX0_turnsLate cX0_turnsLate 3 (some .boolean)]
def wsX7_endsWithout : List Cond := .code yX7_endsWithout cX7_endsWithout 4 (some .boolean) :: ((wsX7_endsWithout_r1 ++ (wsX7_endsWithout_r2 ++ (wsX7_endsWithout_r3 ++ wsX7_endsWithout_r4))) ++ wsX70 ++ wsX50 ++ wsX00 ++ wsX20)
def wsX7_peace_r1 : List Cond := [Cond.fieldLink RX7 29 "LastWord" "affairs" "LLastWord$Affairs;", Cond.fieldLink RX7 19 "LastWord" "page" "LLastWord$Page;", Cond.fieldLink RX7 134 "LastWord$Affairs" "laid" "I", Cond.methodLink RX7 109 yX0_hasQuarrel, Cond.instanceMethod yX0_hasQuarrel, Cond.selects RX0 yX0_hasQuarrel yX0_hasQuarrel, Cond.initialized RX0, Cond.code yX0_hasQuarrel cX0_hasQuarrel 2 (some .boolean), Cond.fieldLink RX0 40 "LastWord$Affairs" "quarrels" "I", Cond.methodLink RX7 212 yX5_everybody, Cond.instanceMethod yX5_everybody, Cond.selects RX5 yX5_everybody yX5_everybody, Cond.initialized RX5, Cond.code yX5_everybody cX5_everybody 1 (some .int), Cond.fieldLink RX5 27 "LastWord$Page" "writers" "I", Cond.methodLink RX7 198 yJ6_bitCount_0f7a4, Cond.static yJ6_bitCount_0f7a4, Cond.initialized RJ6, Cond.code yJ6_bitCount_0f7a4 cJ6_bitCount_0f7a4 1 (some .int), Cond.constant RJ6 265 (1431655765), Cond.constant RJ6 266 (858993459), Cond.constant RJ6 267 (252645135), Cond.methodLink RX7 215 yX7_endsWithout, Cond.instanceMethod yX7_endsWithout]
def wsX7_peace_r2 : List Cond := [Cond.selects RX7 yX7_endsWithout yX7_endsWithout, Cond.initialized RX7, Cond.code yX7_endsWithout cX7_endsWithout 4 (some .boolean), Cond.fieldLink RX7 33 "LastWord" "ahead" "LLastWord$Affairs;", Cond.fieldLink RX7 231 "LastWord$Page" "writers" "I", Cond.methodLink RX7 175 yX0_copy, Cond.instanceMethod yX0_copy, Cond.selects RX0 yX0_copy yX0_copy, Cond.code yX0_copy cX0_copy 2 none, Cond.fieldLink RX0 33 "LastWord$Affairs" "today" "I", Cond.fieldLink RX0 37 "LastWord$Affairs" "letters" "I", Cond.fieldLink RX0 43 "LastWord$Affairs" "laid" "I", Cond.fieldLink RX0 9 "LastWord$Affairs" "lateTimes" "[I", Cond.methodLink RX0 46 arraycopyName, Cond.native arraycopyName, Cond.static arraycopyName, Cond.initialized "java/lang/System", Cond.fieldLink RX0 15 "LastWord$Affairs" "author" "[I", Cond.fieldLink RX0 18 "LastWord$Affairs" "subject" "[I", Cond.fieldLink RX0 21 "LastWord$Affairs" "printedOn" "[I", Cond.fieldLink RX0 24 "LastWord$Affairs" "owes" "[I", Cond.fieldLink RX0 27 "LastWord$Affairs" "work" "[I", Cond.fieldLink RX0 30 "LastWord$Affairs" "late" "[I", Cond.methodLink RX7 168 yX0_layDown]
def wsX7_peace_r3 : List Cond := [Cond.instanceMethod yX0_layDown, Cond.selects RX0 yX0_layDown yX0_layDown, Cond.code yX0_layDown cX0_layDown 5 (some .int), Cond.methodLink RX0 52 yX0_owedBits, Cond.instanceMethod yX0_owedBits, Cond.selects RX0 yX0_owedBits yX0_owedBits, Cond.code yX0_owedBits cX0_owedBits 4 (some .int), Cond.methodLink RX0 65 yX0_charge, Cond.instanceMethod yX0_charge, Cond.selects RX0 yX0_charge yX0_charge, Cond.code yX0_charge cX0_charge 4 none, Cond.fieldLink RX0 95 "LastWord$Page" "pen" "[I", Cond.methodLink RX0 91 yX5_answerer, Cond.instanceMethod yX5_answerer, Cond.selects RX5 yX5_answerer yX5_answerer, Cond.code yX5_answerer cX5_answerer 8 (some .int), Cond.fieldLink RX5 24 "LastWord$Page" "near" "[[I", Cond.methodLink RX0 56 yJ6_bitCount_0f7a4, Cond.methodLink RX7 178 yX7_daysTillClosed, Cond.instanceMethod yX7_daysTillClosed, Cond.selects RX7 yX7_daysTillClosed yX7_daysTillClosed, Cond.code yX7_daysTillClosed cX7_daysTillClosed 3 (some .int), Cond.fieldLink RX7 60 "LastWord" "course" "LLastWord$Course;", Cond.fieldLink RX7 112 "LastWord$Affairs" "author" "[I"]
def wsX7_peace_r4 : List Cond := [Cond.fieldLink RX7 115 "LastWord$Affairs" "subject" "[I", Cond.fieldLink RX7 185 "LastWord$Course" "length" "I", Cond.fieldLink RX7 121 "LastWord$Affairs" "owes" "[I", Cond.methodLink RX7 181 yX2_follow, Cond.instanceMethod yX2_follow, Cond.selects RX2 yX2_follow yX2_follow, Cond.initialized RX2, Cond.code yX2_follow cX2_follow 9 none, Cond.fieldLink RX2 17 "LastWord$Course" "length" "I", Cond.fieldLink RX2 21 "LastWord$Course" "lastAuthor" "I", Cond.methodLink RX2 11 yX5_answerer, Cond.methodLink RX2 24 yX5_answerOn, Cond.instanceMethod yX5_answerOn, Cond.selects RX5 yX5_answerOn yX5_answerOn, Cond.code yX5_answerOn cX5_answerOn 3 (some .int), Cond.fieldLink RX5 19 "LastWord$Page" "hobby" "[I", Cond.methodLink RX7 165 yX0_passDay, Cond.instanceMethod yX0_passDay, Cond.selects RX0 yX0_passDay yX0_passDay, Cond.code yX0_passDay cX0_passDay 5 (some .int), Cond.fieldLink RX0 69 "LastWord$Page" "writers" "I", Cond.fieldLink RX0 81 "LastWord$Page" "term" "I", Cond.methodLink RX0 74 yX0_onDeskOf, Cond.instanceMethod yX0_onDeskOf]
def wsX7_peace_r5 : List Cond := [Cond.selects RX0 yX0_onDeskOf yX0_onDeskOf, Cond.code yX0_onDeskOf cX0_onDeskOf 4 (some .int), Cond.methodLink RX0 77 yX5_answerOn, Cond.methodLink RX0 61 yX0_print, Cond.instanceMethod yX0_print, Cond.selects RX0 yX0_print yX0_print, Cond.code yX0_print cX0_print 5 none, Cond.methodLink RX0 84 yX0_turnsLate, Cond.instanceMethod yX0_turnsLate, Cond.selects RX0 yX0_turnsLate yX0_turnsLate, Cond.code yX0_turnsLate cX0_turnsLate 3 (some .boolean)]
def wsX7_peace : List Cond := .code yX7_peace cX7_peace 6 (some .int) :: ((wsX7_peace_r1 ++ (wsX7_peace_r2 ++ (wsX7_peace_r3 ++ (wsX7_peace_r4 ++ wsX7_peace_r5)))) ++ wsX70 ++ wsX00 ++ wsX50 ++ wsX20)
def wsX7_found : List Cond := .code yX7_found cX7_found 4 (some .int) :: ([.fieldLink RX7 19 "LastWord" "page" "LLastWord$Page;", .fieldLink RX7 53 "LastWord" "findings" "LLastWord$Findings;", .methodLink RX7 130 yX7_mayStand, .instanceMethod yX7_mayStand, .selects RX7 yX7_mayStand yX7_mayStand, .initialized RX7, .code yX7_mayStand cX7_mayStand 3 (some .boolean), .methodLink RX7 85 yX5_hasWriter, .instanceMethod yX5_hasWriter, .selects RX5 yX5_hasWriter yX5_hasWriter, .initialized RX5, .code yX5_hasWriter cX5_hasWriter 2 (some .boolean), .fieldLink RX5 27 "LastWord$Page" "writers" "I", .methodLink RX7 218 yX3_add, .instanceMethod yX3_add, .selects RX3 yX3_add yX3_add, .initialized RX3, .code yX3_add cX3_add 4 (some .int), .fieldLink RX3 21 "LastWord$Findings" "many" "I", .fieldLink RX3 9 "LastWord$Findings" "author" "[I", .fieldLink RX3 15 "LastWord$Findings" "subject" "[I", .fieldLink RX3 18 "LastWord$Findings" "answerer" "[I"] ++ wsX70 ++ wsX50 ++ wsX30)
def wsX7_forget : List Cond := .code yX7_forget cX7_forget 1 (some .int) :: ([.fieldLink RX7 53 "LastWord" "findings" "LLastWord$Findings;", .methodLink RX7 83 yX3_drop, .instanceMethod yX3_drop, .selects RX3 yX3_drop yX3_drop, .initialized RX3, .code yX3_drop cX3_drop 2 (some .int), .fieldLink RX3 21 "LastWord$Findings" "many" "I"] ++ wsX70 ++ wsX30)
def wsX7_mayBe_r1 : List Cond := [Cond.fieldLink RX7 19 "LastWord" "page" "LLastWord$Page;", Cond.fieldLink RX7 105 "LastWord$Page" "near" "[[I", Cond.fieldLink RX7 53 "LastWord" "findings" "LLastWord$Findings;", Cond.methodLink RX7 130 yX7_mayStand, Cond.instanceMethod yX7_mayStand, Cond.selects RX7 yX7_mayStand yX7_mayStand, Cond.initialized RX7, Cond.code yX7_mayStand cX7_mayStand 3 (some .boolean), Cond.methodLink RX7 85 yX5_hasWriter, Cond.instanceMethod yX5_hasWriter, Cond.selects RX5 yX5_hasWriter yX5_hasWriter, Cond.initialized RX5, Cond.code yX5_hasWriter cX5_hasWriter 2 (some .boolean), Cond.fieldLink RX5 27 "LastWord$Page" "writers" "I", Cond.methodLink RX7 220 yX3_areSo, Cond.instanceMethod yX3_areSo, Cond.selects RX3 yX3_areSo yX3_areSo, Cond.initialized RX3, Cond.code yX3_areSo cX3_areSo 3 (some .boolean), Cond.fieldLink RX3 21 "LastWord$Findings" "many" "I", Cond.fieldLink RX3 9 "LastWord$Findings" "author" "[I", Cond.fieldLink RX3 15 "LastWord$Findings" "subject" "[I", Cond.fieldLink RX3 18 "LastWord$Findings" "answerer" "[I", Cond.methodLink RX3 25 yX5_answerer]
def wsX7_mayBe_r2 : List Cond := [Cond.instanceMethod yX5_answerer, Cond.selects RX5 yX5_answerer yX5_answerer, Cond.code yX5_answerer cX5_answerer 8 (some .int), Cond.fieldLink RX5 24 "LastWord$Page" "near" "[[I"]
def wsX7_mayBe : List Cond := .code yX7_mayBe cX7_mayBe 6 (some .int) :: ((wsX7_mayBe_r1 ++ wsX7_mayBe_r2) ++ wsX70 ++ wsX50 ++ wsX30)
def wsX7_power : List Cond := .code yX7_power cX7_power 4 (some .int) :: ([])
def wsX7_commonDivisor : List Cond := .code yX7_commonDivisor cX7_commonDivisor 6 (some .int) :: ([])
def wsX7_odds_r1 : List Cond := [Cond.fieldLink RX7 29 "LastWord" "affairs" "LLastWord$Affairs;", Cond.fieldLink RX7 19 "LastWord" "page" "LLastWord$Page;", Cond.fieldLink RX7 134 "LastWord$Affairs" "laid" "I", Cond.methodLink RX7 130 yX7_mayStand, Cond.instanceMethod yX7_mayStand, Cond.selects RX7 yX7_mayStand yX7_mayStand, Cond.initialized RX7, Cond.code yX7_mayStand cX7_mayStand 3 (some .boolean), Cond.methodLink RX7 85 yX5_hasWriter, Cond.instanceMethod yX5_hasWriter, Cond.selects RX5 yX5_hasWriter yX5_hasWriter, Cond.initialized RX5, Cond.code yX5_hasWriter cX5_hasWriter 2 (some .boolean), Cond.fieldLink RX5 27 "LastWord$Page" "writers" "I", Cond.methodLink RX7 96 yX0_hasLaid, Cond.instanceMethod yX0_hasLaid, Cond.selects RX0 yX0_hasLaid yX0_hasLaid, Cond.initialized RX0, Cond.code yX0_hasLaid cX0_hasLaid 2 (some .boolean), Cond.fieldLink RX0 43 "LastWord$Affairs" "laid" "I", Cond.methodLink RX7 212 yX5_everybody, Cond.instanceMethod yX5_everybody, Cond.selects RX5 yX5_everybody yX5_everybody, Cond.code yX5_everybody cX5_everybody 1 (some .int)]
def wsX7_odds_r2 : List Cond := [Cond.methodLink RX7 198 yJ6_bitCount_0f7a4, Cond.static yJ6_bitCount_0f7a4, Cond.initialized RJ6, Cond.code yJ6_bitCount_0f7a4 cJ6_bitCount_0f7a4 1 (some .int), Cond.constant RJ6 265 (1431655765), Cond.constant RJ6 266 (858993459), Cond.constant RJ6 267 (252645135), Cond.methodLink RX7 191 yX7_hasLastWord, Cond.instanceMethod yX7_hasLastWord, Cond.selects RX7 yX7_hasLastWord yX7_hasLastWord, Cond.code yX7_hasLastWord cX7_hasLastWord 4 (some .boolean), Cond.fieldLink RX7 60 "LastWord" "course" "LLastWord$Course;", Cond.fieldLink RX7 188 "LastWord$Course" "lastAuthor" "I", Cond.methodLink RX7 181 yX2_follow, Cond.instanceMethod yX2_follow, Cond.selects RX2 yX2_follow yX2_follow, Cond.initialized RX2, Cond.code yX2_follow cX2_follow 9 none, Cond.fieldLink RX2 17 "LastWord$Course" "length" "I", Cond.fieldLink RX2 21 "LastWord$Course" "lastAuthor" "I", Cond.methodLink RX2 11 yX5_answerer, Cond.instanceMethod yX5_answerer, Cond.selects RX5 yX5_answerer yX5_answerer, Cond.code yX5_answerer cX5_answerer 8 (some .int)]
def wsX7_odds_r3 : List Cond := [Cond.fieldLink RX5 24 "LastWord$Page" "near" "[[I", Cond.methodLink RX2 24 yX5_answerOn, Cond.instanceMethod yX5_answerOn, Cond.selects RX5 yX5_answerOn yX5_answerOn, Cond.code yX5_answerOn cX5_answerOn 3 (some .int), Cond.fieldLink RX5 19 "LastWord$Page" "hobby" "[I", Cond.methodLink RX7 224 yX7_power, Cond.static yX7_power, Cond.code yX7_power cX7_power 4 (some .int), Cond.methodLink RX7 228 yX7_commonDivisor, Cond.static yX7_commonDivisor, Cond.code yX7_commonDivisor cX7_commonDivisor 6 (some .int)]
def wsX7_odds : List Cond := .code yX7_odds cX7_odds 10 (some .int) :: ((wsX7_odds_r1 ++ (wsX7_odds_r2 ++ wsX7_odds_r3)) ++ wsX70 ++ wsX00 ++ wsX50 ++ wsX20)
def wsX7_most : List Cond := .code yX7_most cX7_most 5 (some .int) :: ([.fieldLink RX7 19 "LastWord" "page" "LLastWord$Page;", .fieldLink RX7 231 "LastWord$Page" "writers" "I", .fieldLink RX7 29 "LastWord" "affairs" "LLastWord$Affairs;", .methodLink RX7 234 yX0_lastWordsOf, .instanceMethod yX0_lastWordsOf, .selects RX0 yX0_lastWordsOf yX0_lastWordsOf, .initialized RX0, .code yX0_lastWordsOf cX0_lastWordsOf 4 (some .int), .fieldLink RX0 40 "LastWord$Affairs" "quarrels" "I", .fieldLink RX0 24 "LastWord$Affairs" "owes" "[I", .fieldLink RX0 15 "LastWord$Affairs" "author" "[I"] ++ wsX70 ++ wsX50 ++ wsX00)
def wsX7_titles : List Cond := .code yX7_titles cX7_titles 5 (some .int) :: ([.fieldLink RX7 19 "LastWord" "page" "LLastWord$Page;", .fieldLink RX7 105 "LastWord$Page" "near" "[[I", .methodLink RX7 85 yX5_hasWriter, .instanceMethod yX5_hasWriter, .selects RX5 yX5_hasWriter yX5_hasWriter, .initialized RX5, .code yX5_hasWriter cX5_hasWriter 2 (some .boolean), .fieldLink RX5 27 "LastWord$Page" "writers" "I"] ++ wsX70 ++ wsX50)
def wsX7_rateOfWriter : List Cond := .code yX7_rateOfWriter cX7_rateOfWriter 2 (some .int) :: ([.fieldLink RX7 273 "LastWord" "asked" "J", .fieldLink RX7 19 "LastWord" "page" "LLastWord$Page;", .fieldLink RX7 89 "LastWord$Page" "pen" "[I"] ++ wsX70 ++ wsX50)
def wsX7_rateOfColonel_r1 : List Cond := [Cond.fieldLink RX7 273 "LastWord" "asked" "J", Cond.constantLong RX7 277 (10), Cond.fieldLink RX7 29 "LastWord" "affairs" "LLastWord$Affairs;", Cond.methodLink RX7 238 yX7_rateOfWriter, Cond.instanceMethod yX7_rateOfWriter, Cond.selects RX7 yX7_rateOfWriter yX7_rateOfWriter, Cond.initialized RX7, Cond.code yX7_rateOfWriter cX7_rateOfWriter 2 (some .int), Cond.fieldLink RX7 19 "LastWord" "page" "LLastWord$Page;", Cond.fieldLink RX7 89 "LastWord$Page" "pen" "[I", Cond.methodLink RX7 99 yX0_owedBy, Cond.instanceMethod yX0_owedBy, Cond.selects RX0 yX0_owedBy yX0_owedBy, Cond.initialized RX0, Cond.code yX0_owedBy cX0_owedBy 2 (some .int), Cond.methodLink RX0 52 yX0_owedBits, Cond.instanceMethod yX0_owedBits, Cond.selects RX0 yX0_owedBits yX0_owedBits, Cond.code yX0_owedBits cX0_owedBits 4 (some .int), Cond.fieldLink RX0 40 "LastWord$Affairs" "quarrels" "I", Cond.fieldLink RX0 24 "LastWord$Affairs" "owes" "[I", Cond.methodLink RX0 56 yJ6_bitCount_0f7a4, Cond.static yJ6_bitCount_0f7a4, Cond.initialized RJ6]
def wsX7_rateOfColonel_r2 : List Cond := [Cond.code yJ6_bitCount_0f7a4 cJ6_bitCount_0f7a4 1 (some .int), Cond.constant RJ6 265 (1431655765), Cond.constant RJ6 266 (858993459), Cond.constant RJ6 267 (252645135)]
def wsX7_rateOfColonel : List Cond := .code yX7_rateOfColonel cX7_rateOfColonel 2 (some .int) :: ((wsX7_rateOfColonel_r1 ++ wsX7_rateOfColonel_r2) ++ wsX70 ++ wsX50 ++ wsX00)
def wsX7_rateOfDuke : List Cond := .code yX7_rateOfDuke cX7_rateOfDuke 2 (some .int) :: ([.fieldLink RX7 273 "LastWord" "asked" "J", .constantLong RX7 279 (100), .fieldLink RX7 29 "LastWord" "affairs" "LLastWord$Affairs;", .fieldLink RX7 102 "LastWord$Affairs" "lateTimes" "[I", .methodLink RX7 238 yX7_rateOfWriter, .instanceMethod yX7_rateOfWriter, .selects RX7 yX7_rateOfWriter yX7_rateOfWriter, .initialized RX7, .code yX7_rateOfWriter cX7_rateOfWriter 2 (some .int), .fieldLink RX7 19 "LastWord" "page" "LLastWord$Page;", .fieldLink RX7 89 "LastWord$Page" "pen" "[I"] ++ wsX70 ++ wsX00 ++ wsX50)
def wsX7_rateOfVicar_r1 : List Cond := [Cond.fieldLink RX7 273 "LastWord" "asked" "J", Cond.constantLong RX7 281 (1000), Cond.methodLink RX7 241 yX7_rateOfColonel, Cond.instanceMethod yX7_rateOfColonel, Cond.selects RX7 yX7_rateOfColonel yX7_rateOfColonel, Cond.initialized RX7, Cond.code yX7_rateOfColonel cX7_rateOfColonel 2 (some .int), Cond.constantLong RX7 277 (10), Cond.fieldLink RX7 29 "LastWord" "affairs" "LLastWord$Affairs;", Cond.methodLink RX7 238 yX7_rateOfWriter, Cond.instanceMethod yX7_rateOfWriter, Cond.selects RX7 yX7_rateOfWriter yX7_rateOfWriter, Cond.code yX7_rateOfWriter cX7_rateOfWriter 2 (some .int), Cond.fieldLink RX7 19 "LastWord" "page" "LLastWord$Page;", Cond.fieldLink RX7 89 "LastWord$Page" "pen" "[I", Cond.methodLink RX7 99 yX0_owedBy, Cond.instanceMethod yX0_owedBy, Cond.selects RX0 yX0_owedBy yX0_owedBy, Cond.initialized RX0, Cond.code yX0_owedBy cX0_owedBy 2 (some .int), Cond.methodLink RX0 52 yX0_owedBits, Cond.instanceMethod yX0_owedBits, Cond.selects RX0 yX0_owedBits yX0_owedBits, Cond.code yX0_owedBits cX0_owedBits 4 (some .int)]
def wsX7_rateOfVicar_r2 : List Cond := [Cond.fieldLink RX0 40 "LastWord$Affairs" "quarrels" "I", Cond.fieldLink RX0 24 "LastWord$Affairs" "owes" "[I", Cond.methodLink RX0 56 yJ6_bitCount_0f7a4, Cond.static yJ6_bitCount_0f7a4, Cond.initialized RJ6, Cond.code yJ6_bitCount_0f7a4 cJ6_bitCount_0f7a4 1 (some .int), Cond.constant RJ6 265 (1431655765), Cond.constant RJ6 266 (858993459), Cond.constant RJ6 267 (252645135)]
def wsX7_rateOfVicar : List Cond := .code yX7_rateOfVicar cX7_rateOfVicar 2 (some .int) :: ((wsX7_rateOfVicar_r1 ++ wsX7_rateOfVicar_r2) ++ wsX70 ++ wsX50 ++ wsX00)
def wsX7_rateOfPoet : List Cond := .code yX7_rateOfPoet cX7_rateOfPoet 2 (some .int) :: ([.fieldLink RX7 273 "LastWord" "asked" "J", .constantLong RX7 283 (10000), .methodLink RX7 244 yX7_rateOfDuke, .instanceMethod yX7_rateOfDuke, .selects RX7 yX7_rateOfDuke yX7_rateOfDuke, .initialized RX7, .code yX7_rateOfDuke cX7_rateOfDuke 2 (some .int), .constantLong RX7 279 (100), .fieldLink RX7 29 "LastWord" "affairs" "LLastWord$Affairs;", .fieldLink RX7 102 "LastWord$Affairs" "lateTimes" "[I", .methodLink RX7 238 yX7_rateOfWriter, .instanceMethod yX7_rateOfWriter, .selects RX7 yX7_rateOfWriter yX7_rateOfWriter, .code yX7_rateOfWriter cX7_rateOfWriter 2 (some .int), .fieldLink RX7 19 "LastWord" "page" "LLastWord$Page;", .fieldLink RX7 89 "LastWord$Page" "pen" "[I"] ++ wsX70 ++ wsX00 ++ wsX50)
def wsX7_rateOfHeir : List Cond := .code yX7_rateOfHeir cX7_rateOfHeir 2 (some .int) :: ([.fieldLink RX7 273 "LastWord" "asked" "J", .constantLong RX7 285 (100000), .fieldLink RX7 29 "LastWord" "affairs" "LLastWord$Affairs;", .methodLink RX7 238 yX7_rateOfWriter, .instanceMethod yX7_rateOfWriter, .selects RX7 yX7_rateOfWriter yX7_rateOfWriter, .initialized RX7, .code yX7_rateOfWriter cX7_rateOfWriter 2 (some .int), .fieldLink RX7 19 "LastWord" "page" "LLastWord$Page;", .fieldLink RX7 89 "LastWord$Page" "pen" "[I", .methodLink RX7 234 yX0_lastWordsOf, .instanceMethod yX0_lastWordsOf, .selects RX0 yX0_lastWordsOf yX0_lastWordsOf, .initialized RX0, .code yX0_lastWordsOf cX0_lastWordsOf 4 (some .int), .fieldLink RX0 40 "LastWord$Affairs" "quarrels" "I", .fieldLink RX0 24 "LastWord$Affairs" "owes" "[I", .fieldLink RX0 15 "LastWord$Affairs" "author" "[I"] ++ wsX70 ++ wsX50 ++ wsX00)
def wsX7_rate_r1 : List Cond := [Cond.fieldLink RX7 19 "LastWord" "page" "LLastWord$Page;", Cond.constant RX7 237 (-1000000), Cond.methodLink RX7 85 yX5_hasWriter, Cond.instanceMethod yX5_hasWriter, Cond.selects RX5 yX5_hasWriter yX5_hasWriter, Cond.initialized RX5, Cond.code yX5_hasWriter cX5_hasWriter 2 (some .boolean), Cond.fieldLink RX5 27 "LastWord$Page" "writers" "I", Cond.methodLink RX7 238 yX7_rateOfWriter, Cond.instanceMethod yX7_rateOfWriter, Cond.selects RX7 yX7_rateOfWriter yX7_rateOfWriter, Cond.initialized RX7, Cond.code yX7_rateOfWriter cX7_rateOfWriter 2 (some .int), Cond.fieldLink RX7 273 "LastWord" "asked" "J", Cond.fieldLink RX7 89 "LastWord$Page" "pen" "[I", Cond.methodLink RX7 241 yX7_rateOfColonel, Cond.instanceMethod yX7_rateOfColonel, Cond.selects RX7 yX7_rateOfColonel yX7_rateOfColonel, Cond.code yX7_rateOfColonel cX7_rateOfColonel 2 (some .int), Cond.constantLong RX7 277 (10), Cond.fieldLink RX7 29 "LastWord" "affairs" "LLastWord$Affairs;", Cond.methodLink RX7 99 yX0_owedBy, Cond.instanceMethod yX0_owedBy, Cond.selects RX0 yX0_owedBy yX0_owedBy]
def wsX7_rate_r2 : List Cond := [Cond.initialized RX0, Cond.code yX0_owedBy cX0_owedBy 2 (some .int), Cond.methodLink RX0 52 yX0_owedBits, Cond.instanceMethod yX0_owedBits, Cond.selects RX0 yX0_owedBits yX0_owedBits, Cond.code yX0_owedBits cX0_owedBits 4 (some .int), Cond.fieldLink RX0 40 "LastWord$Affairs" "quarrels" "I", Cond.fieldLink RX0 24 "LastWord$Affairs" "owes" "[I", Cond.methodLink RX0 56 yJ6_bitCount_0f7a4, Cond.static yJ6_bitCount_0f7a4, Cond.initialized RJ6, Cond.code yJ6_bitCount_0f7a4 cJ6_bitCount_0f7a4 1 (some .int), Cond.constant RJ6 265 (1431655765), Cond.constant RJ6 266 (858993459), Cond.constant RJ6 267 (252645135), Cond.methodLink RX7 244 yX7_rateOfDuke, Cond.instanceMethod yX7_rateOfDuke, Cond.selects RX7 yX7_rateOfDuke yX7_rateOfDuke, Cond.code yX7_rateOfDuke cX7_rateOfDuke 2 (some .int), Cond.constantLong RX7 279 (100), Cond.fieldLink RX7 102 "LastWord$Affairs" "lateTimes" "[I", Cond.methodLink RX7 247 yX7_rateOfVicar, Cond.instanceMethod yX7_rateOfVicar, Cond.selects RX7 yX7_rateOfVicar yX7_rateOfVicar]
def wsX7_rate_r3 : List Cond := [Cond.code yX7_rateOfVicar cX7_rateOfVicar 2 (some .int), Cond.constantLong RX7 281 (1000), Cond.methodLink RX7 250 yX7_rateOfPoet, Cond.instanceMethod yX7_rateOfPoet, Cond.selects RX7 yX7_rateOfPoet yX7_rateOfPoet, Cond.code yX7_rateOfPoet cX7_rateOfPoet 2 (some .int), Cond.constantLong RX7 283 (10000), Cond.methodLink RX7 253 yX7_rateOfHeir, Cond.instanceMethod yX7_rateOfHeir, Cond.selects RX7 yX7_rateOfHeir yX7_rateOfHeir, Cond.code yX7_rateOfHeir cX7_rateOfHeir 2 (some .int), Cond.constantLong RX7 285 (100000), Cond.methodLink RX7 234 yX0_lastWordsOf, Cond.instanceMethod yX0_lastWordsOf, Cond.selects RX0 yX0_lastWordsOf yX0_lastWordsOf, Cond.code yX0_lastWordsOf cX0_lastWordsOf 4 (some .int), Cond.fieldLink RX0 15 "LastWord$Affairs" "author" "[I"]
def wsX7_rate : List Cond := .code yX7_rate cX7_rate 3 (some .int) :: ((wsX7_rate_r1 ++ (wsX7_rate_r2 ++ wsX7_rate_r3)) ++ wsX70 ++ wsX50 ++ wsX00)
def wsX7_keep_r1 : List Cond := [Cond.fieldLink RX7 46 "LastWord" "album" "LLastWord$Album;", Cond.fieldLink RX7 29 "LastWord" "affairs" "LLastWord$Affairs;", Cond.fieldLink RX7 142 "LastWord$Affairs" "today" "I", Cond.methodLink RX7 256 yX1_hasPlace, Cond.instanceMethod yX1_hasPlace, Cond.selects RX1 yX1_hasPlace yX1_hasPlace, Cond.initialized RX1, Cond.code yX1_hasPlace cX1_hasPlace 2 (some .boolean), Cond.methodLink RX7 259 yX1_put, Cond.instanceMethod yX1_put, Cond.selects RX1 yX1_put yX1_put, Cond.code yX1_put cX1_put 3 none, Cond.fieldLink RX1 11 "LastWord$Album" "images" "[LLastWord$Affairs;", Cond.fieldLink RX1 18 "LastWord$Album" "kept" "I", Cond.methodLink RX1 22 yX0_copy, Cond.instanceMethod yX0_copy, Cond.selects RX0 yX0_copy yX0_copy, Cond.initialized RX0, Cond.code yX0_copy cX0_copy 2 none, Cond.fieldLink RX0 33 "LastWord$Affairs" "today" "I", Cond.fieldLink RX0 37 "LastWord$Affairs" "letters" "I", Cond.fieldLink RX0 40 "LastWord$Affairs" "quarrels" "I", Cond.fieldLink RX0 43 "LastWord$Affairs" "laid" "I", Cond.fieldLink RX0 9 "LastWord$Affairs" "lateTimes" "[I"]
def wsX7_keep_r2 : List Cond := [Cond.methodLink RX0 46 arraycopyName, Cond.native arraycopyName, Cond.static arraycopyName, Cond.initialized "java/lang/System", Cond.fieldLink RX0 15 "LastWord$Affairs" "author" "[I", Cond.fieldLink RX0 18 "LastWord$Affairs" "subject" "[I", Cond.fieldLink RX0 21 "LastWord$Affairs" "printedOn" "[I", Cond.fieldLink RX0 24 "LastWord$Affairs" "owes" "[I", Cond.fieldLink RX0 27 "LastWord$Affairs" "work" "[I", Cond.fieldLink RX0 30 "LastWord$Affairs" "late" "[I"]
def wsX7_keep : List Cond := .code yX7_keep cX7_keep 2 (some .int) :: ((wsX7_keep_r1 ++ wsX7_keep_r2) ++ wsX70 ++ wsX00 ++ wsX10)
def wsX7_back_r1 : List Cond := [Cond.fieldLink RX7 46 "LastWord" "album" "LLastWord$Album;", Cond.fieldLink RX7 29 "LastWord" "affairs" "LLastWord$Affairs;", Cond.fieldLink RX7 39 "LastWord" "history" "LLastWord$History;", Cond.fieldLink RX7 142 "LastWord$Affairs" "today" "I", Cond.methodLink RX7 256 yX1_hasPlace, Cond.instanceMethod yX1_hasPlace, Cond.selects RX1 yX1_hasPlace yX1_hasPlace, Cond.initialized RX1, Cond.code yX1_hasPlace cX1_hasPlace 2 (some .boolean), Cond.methodLink RX7 263 yX1_isKept, Cond.instanceMethod yX1_isKept, Cond.selects RX1 yX1_isKept yX1_isKept, Cond.code yX1_isKept cX1_isKept 2 (some .boolean), Cond.fieldLink RX1 18 "LastWord$Album" "kept" "I", Cond.methodLink RX7 266 yX1_take, Cond.instanceMethod yX1_take, Cond.selects RX1 yX1_take yX1_take, Cond.code yX1_take cX1_take 3 none, Cond.fieldLink RX1 11 "LastWord$Album" "images" "[LLastWord$Affairs;", Cond.methodLink RX1 22 yX0_copy, Cond.instanceMethod yX0_copy, Cond.selects RX0 yX0_copy yX0_copy, Cond.initialized RX0, Cond.code yX0_copy cX0_copy 2 none]
def wsX7_back_r2 : List Cond := [Cond.fieldLink RX0 33 "LastWord$Affairs" "today" "I", Cond.fieldLink RX0 37 "LastWord$Affairs" "letters" "I", Cond.fieldLink RX0 40 "LastWord$Affairs" "quarrels" "I", Cond.fieldLink RX0 43 "LastWord$Affairs" "laid" "I", Cond.fieldLink RX0 9 "LastWord$Affairs" "lateTimes" "[I", Cond.methodLink RX0 46 arraycopyName, Cond.native arraycopyName, Cond.static arraycopyName, Cond.initialized "java/lang/System", Cond.fieldLink RX0 15 "LastWord$Affairs" "author" "[I", Cond.fieldLink RX0 18 "LastWord$Affairs" "subject" "[I", Cond.fieldLink RX0 21 "LastWord$Affairs" "printedOn" "[I", Cond.fieldLink RX0 24 "LastWord$Affairs" "owes" "[I", Cond.fieldLink RX0 27 "LastWord$Affairs" "work" "[I", Cond.fieldLink RX0 30 "LastWord$Affairs" "late" "[I", Cond.methodLink RX7 79 yX4_drop, Cond.instanceMethod yX4_drop, Cond.selects RX4 yX4_drop yX4_drop, Cond.initialized RX4, Cond.code yX4_drop cX4_drop 1 none, Cond.fieldLink RX4 26 "LastWord$History" "known" "I"]
def wsX7_back : List Cond := .code yX7_back cX7_back 2 (some .int) :: ((wsX7_back_r1 ++ wsX7_back_r2) ++ wsX70 ++ wsX00 ++ wsX10 ++ wsX40)
def wsX7_count : List Cond := .code yX7_count cX7_count 2 (some .int) :: ([.fieldLink RX7 19 "LastWord" "page" "LLastWord$Page;", .fieldLink RX7 231 "LastWord$Page" "writers" "I", .fieldLink RX7 203 "LastWord$Page" "term" "I", .fieldLink RX7 53 "LastWord" "findings" "LLastWord$Findings;", .fieldLink RX7 269 "LastWord$Findings" "many" "I", .fieldLink RX7 12 "LastWord" "text" "LLastWord$Text;", .fieldLink RX7 272 "LastWord$Text" "length" "I"] ++ wsX70 ++ wsX50 ++ wsX30 ++ wsX60)
def wsX7_trace : List Cond := .code yX7_trace cX7_trace 1 (some .long) :: ([.fieldLink RX7 273 "LastWord" "asked" "J"] ++ wsX70)
def wsX8_in : List Cond := .code yX8_in cX8_in 6 (some .boolean) :: ([])
def wsX8_plain : List Cond := .code yX8_plain cX8_plain 2 none :: ([.fieldLink RX8 13 "LastWordModel" "read" "[I"] ++ wsX80)
def wsX8_takes : List Cond := .code yX8_takes cX8_takes 2 none :: ([.fieldLink RX8 16 "LastWordModel" "paper" "[I", .fieldLink RX8 13 "LastWordModel" "read" "[I", .fieldLink RX8 19 "LastWordModel" "now" "[I", .fieldLink RX8 84 "LastWordModel" "founds" "I", .fieldLink RX8 87 "LastWordModel" "undos" "I", .fieldLink RX8 31 "LastWordModel" "kept" "[I"] ++ wsX80)
def wsX8_init : List Cond := .code yX8_init cX8_init 1 none :: ([.methodLink RX8 1 objectInit, .instanceMethod objectInit, .code objectInit ⟨#[0xb1]⟩ 1 none, .arrayClass .int, .fieldLink RX8 7 "LastWordModel" "text" "[I", .fieldLink RX8 13 "LastWordModel" "read" "[I", .fieldLink RX8 16 "LastWordModel" "paper" "[I", .fieldLink RX8 19 "LastWordModel" "now" "[I", .fieldLink RX8 22 "LastWordModel" "undone" "[I", .fieldLink RX8 25 "LastWordModel" "aside" "[I", .fieldLink RX8 28 "LastWordModel" "finds" "[I", .fieldLink RX8 31 "LastWordModel" "kept" "[I", .methodLink RX8 34 yX8_plain, .instanceMethod yX8_plain, .selects RX8 yX8_plain yX8_plain, .initialized RX8, .code yX8_plain cX8_plain 2 none, .methodLink RX8 37 yX8_takes, .instanceMethod yX8_takes, .selects RX8 yX8_takes yX8_takes, .code yX8_takes cX8_takes 2 none, .fieldLink RX8 84 "LastWordModel" "founds" "I", .fieldLink RX8 87 "LastWordModel" "undos" "I"] ++ wsX80)
def wsX8_type : List Cond := .code yX8_type cX8_type 2 (some .int) :: ([.constantLong RX8 40 (255), .fieldLink RX8 46 "LastWordModel" "size" "I", .fieldLink RX8 7 "LastWordModel" "text" "[I", .methodLink RX8 42 yX8_in, .static yX8_in, .initialized RX8, .code yX8_in cX8_in 6 (some .boolean)] ++ wsX80)
def wsX8_clear : List Cond := .code yX8_clear cX8_clear 2 (some .int) :: ([.fieldLink RX8 46 "LastWordModel" "size" "I"] ++ wsX80)
def wsX8_isFigure : List Cond := .code yX8_isFigure cX8_isFigure 1 (some .boolean) :: ([.constantLong RX8 50 (48), .constantLong RX8 52 (57), .methodLink RX8 42 yX8_in, .static yX8_in, .initialized RX8, .code yX8_in cX8_in 6 (some .boolean)])
def wsX8_reads : List Cond := .code yX8_reads cX8_reads 1 none :: ([.fieldLink RX8 54 "LastWordModel" "at" "I", .fieldLink RX8 46 "LastWordModel" "size" "I", .fieldLink RX8 7 "LastWordModel" "text" "[I", .fieldLink RX8 57 "LastWordModel" "begin" "I", .fieldLink RX8 60 "LastWordModel" "token" "I", .fieldLink RX8 67 "LastWordModel" "told" "I", .methodLink RX8 63 yX8_isFigure, .static yX8_isFigure, .initialized RX8, .code yX8_isFigure cX8_isFigure 1 (some .boolean), .constantLong RX8 50 (48), .constantLong RX8 52 (57), .methodLink RX8 42 yX8_in, .static yX8_in, .code yX8_in cX8_in 6 (some .boolean)] ++ wsX80)
def wsX8_number : List Cond := .code yX8_number cX8_number 3 (some .boolean) :: ([.fieldLink RX8 60 "LastWordModel" "token" "I", .fieldLink RX8 67 "LastWordModel" "told" "I", .methodLink RX8 70 yX8_reads, .instanceMethod yX8_reads, .selects RX8 yX8_reads yX8_reads, .initialized RX8, .code yX8_reads cX8_reads 1 none, .fieldLink RX8 54 "LastWordModel" "at" "I", .fieldLink RX8 46 "LastWordModel" "size" "I", .fieldLink RX8 7 "LastWordModel" "text" "[I", .fieldLink RX8 57 "LastWordModel" "begin" "I", .methodLink RX8 63 yX8_isFigure, .static yX8_isFigure, .code yX8_isFigure cX8_isFigure 1 (some .boolean), .constantLong RX8 50 (48), .constantLong RX8 52 (57), .methodLink RX8 42 yX8_in, .static yX8_in, .code yX8_in cX8_in 6 (some .boolean)] ++ wsX80)
def wsX8_itemEnds : List Cond := .code yX8_itemEnds cX8_itemEnds 1 (some .boolean) :: ([.fieldLink RX8 60 "LastWordModel" "token" "I", .methodLink RX8 70 yX8_reads, .instanceMethod yX8_reads, .selects RX8 yX8_reads yX8_reads, .initialized RX8, .code yX8_reads cX8_reads 1 none, .fieldLink RX8 54 "LastWordModel" "at" "I", .fieldLink RX8 46 "LastWordModel" "size" "I", .fieldLink RX8 7 "LastWordModel" "text" "[I", .fieldLink RX8 57 "LastWordModel" "begin" "I", .fieldLink RX8 67 "LastWordModel" "told" "I", .methodLink RX8 63 yX8_isFigure, .static yX8_isFigure, .code yX8_isFigure cX8_isFigure 1 (some .boolean), .constantLong RX8 50 (48), .constantLong RX8 52 (57), .methodLink RX8 42 yX8_in, .static yX8_in, .code yX8_in cX8_in 6 (some .boolean)] ++ wsX80)
def wsX8_readItem_r1 : List Cond := [Cond.fieldLink RX8 60 "LastWordModel" "token" "I", Cond.fieldLink RX8 67 "LastWordModel" "told" "I", Cond.fieldLink RX8 13 "LastWordModel" "read" "[I", Cond.methodLink RX8 73 yX8_number, Cond.instanceMethod yX8_number, Cond.selects RX8 yX8_number yX8_number, Cond.initialized RX8, Cond.code yX8_number cX8_number 3 (some .boolean), Cond.methodLink RX8 70 yX8_reads, Cond.instanceMethod yX8_reads, Cond.selects RX8 yX8_reads yX8_reads, Cond.code yX8_reads cX8_reads 1 none, Cond.fieldLink RX8 54 "LastWordModel" "at" "I", Cond.fieldLink RX8 46 "LastWordModel" "size" "I", Cond.fieldLink RX8 7 "LastWordModel" "text" "[I", Cond.fieldLink RX8 57 "LastWordModel" "begin" "I", Cond.methodLink RX8 63 yX8_isFigure, Cond.static yX8_isFigure, Cond.code yX8_isFigure cX8_isFigure 1 (some .boolean), Cond.constantLong RX8 50 (48), Cond.constantLong RX8 52 (57), Cond.methodLink RX8 42 yX8_in, Cond.static yX8_in, Cond.code yX8_in cX8_in 6 (some .boolean)]
def wsX8_readItem_r2 : List Cond := [Cond.methodLink RX8 77 yX8_itemEnds, Cond.instanceMethod yX8_itemEnds, Cond.selects RX8 yX8_itemEnds yX8_itemEnds, Cond.code yX8_itemEnds cX8_itemEnds 1 (some .boolean)]
def wsX8_readItem : List Cond := .code yX8_readItem cX8_readItem 2 (some .boolean) :: ((wsX8_readItem_r1 ++ wsX8_readItem_r2) ++ wsX80)
def wsX8_paper_r1 : List Cond := [Cond.fieldLink RX8 54 "LastWordModel" "at" "I", Cond.fieldLink RX8 60 "LastWordModel" "token" "I", Cond.fieldLink RX8 57 "LastWordModel" "begin" "I", Cond.fieldLink RX8 46 "LastWordModel" "size" "I", Cond.methodLink RX8 34 yX8_plain, Cond.instanceMethod yX8_plain, Cond.selects RX8 yX8_plain yX8_plain, Cond.initialized RX8, Cond.code yX8_plain cX8_plain 2 none, Cond.fieldLink RX8 13 "LastWordModel" "read" "[I", Cond.methodLink RX8 70 yX8_reads, Cond.instanceMethod yX8_reads, Cond.selects RX8 yX8_reads yX8_reads, Cond.code yX8_reads cX8_reads 1 none, Cond.fieldLink RX8 7 "LastWordModel" "text" "[I", Cond.fieldLink RX8 67 "LastWordModel" "told" "I", Cond.methodLink RX8 63 yX8_isFigure, Cond.static yX8_isFigure, Cond.code yX8_isFigure cX8_isFigure 1 (some .boolean), Cond.constantLong RX8 50 (48), Cond.constantLong RX8 52 (57), Cond.methodLink RX8 42 yX8_in, Cond.static yX8_in, Cond.code yX8_in cX8_in 6 (some .boolean)]
def wsX8_paper_r2 : List Cond := [Cond.methodLink RX8 81 yX8_readItem, Cond.instanceMethod yX8_readItem, Cond.selects RX8 yX8_readItem yX8_readItem, Cond.code yX8_readItem cX8_readItem 2 (some .boolean), Cond.methodLink RX8 73 yX8_number, Cond.instanceMethod yX8_number, Cond.selects RX8 yX8_number yX8_number, Cond.code yX8_number cX8_number 3 (some .boolean), Cond.methodLink RX8 77 yX8_itemEnds, Cond.instanceMethod yX8_itemEnds, Cond.selects RX8 yX8_itemEnds yX8_itemEnds, Cond.code yX8_itemEnds cX8_itemEnds 1 (some .boolean), Cond.methodLink RX8 37 yX8_takes, Cond.instanceMethod yX8_takes, Cond.selects RX8 yX8_takes yX8_takes, Cond.code yX8_takes cX8_takes 2 none, Cond.fieldLink RX8 16 "LastWordModel" "paper" "[I", Cond.fieldLink RX8 19 "LastWordModel" "now" "[I", Cond.fieldLink RX8 84 "LastWordModel" "founds" "I", Cond.fieldLink RX8 87 "LastWordModel" "undos" "I", Cond.fieldLink RX8 31 "LastWordModel" "kept" "[I"]
def wsX8_paper : List Cond := .code yX8_paper cX8_paper 2 (some .int) :: ((wsX8_paper_r1 ++ wsX8_paper_r2) ++ wsX80)
def wsX8_isWriter : List Cond := .code yX8_isWriter cX8_isWriter 2 (some .boolean) :: ([.fieldLink RX8 16 "LastWordModel" "paper" "[I", .methodLink RX8 42 yX8_in, .static yX8_in, .initialized RX8, .code yX8_in cX8_in 6 (some .boolean)] ++ wsX80)
def wsX8_isQuarrel : List Cond := .code yX8_isQuarrel cX8_isQuarrel 2 (some .boolean) :: ([.fieldLink RX8 19 "LastWordModel" "now" "[I", .methodLink RX8 42 yX8_in, .static yX8_in, .initialized RX8, .code yX8_in cX8_in 6 (some .boolean)] ++ wsX80)
def wsX8_isSubject : List Cond := .code yX8_isSubject cX8_isSubject 1 (some .boolean) :: ([.constantLong RX8 90 (4), .methodLink RX8 42 yX8_in, .static yX8_in, .initialized RX8, .code yX8_in cX8_in 6 (some .boolean)])
def wsX8_pen : List Cond := .code yX8_pen cX8_pen 2 (some .int) :: ([.fieldLink RX8 16 "LastWordModel" "paper" "[I"] ++ wsX80)
def wsX8_near : List Cond := .code yX8_near cX8_near 3 (some .int) :: ([.fieldLink RX8 16 "LastWordModel" "paper" "[I"] ++ wsX80)
def wsX8_hasLaid : List Cond := .code yX8_hasLaid cX8_hasLaid 2 (some .boolean) :: ([.fieldLink RX8 19 "LastWordModel" "now" "[I"] ++ wsX80)
def wsX8_meantOf : List Cond := .code yX8_meantOf cX8_meantOf 7 (some .int) :: ([.fieldLink RX8 16 "LastWordModel" "paper" "[I", .methodLink RX8 92 yX8_near, .instanceMethod yX8_near, .selects RX8 yX8_near yX8_near, .initialized RX8, .code yX8_near cX8_near 3 (some .int)] ++ wsX80)
def wsX8_answers : List Cond := .code yX8_answers cX8_answers 4 (some .int) :: ([.fieldLink RX8 16 "LastWordModel" "paper" "[I"] ++ wsX80)
def wsX8_at : List Cond := .code yX8_at cX8_at 3 (some .int) :: ([.fieldLink RX8 19 "LastWordModel" "now" "[I"] ++ wsX80)
def wsX8_owes : List Cond := .code yX8_owes cX8_owes 4 (some .int) :: ([.fieldLink RX8 19 "LastWordModel" "now" "[I", .methodLink RX8 96 yX8_at, .instanceMethod yX8_at, .selects RX8 yX8_at yX8_at, .initialized RX8, .code yX8_at cX8_at 3 (some .int)] ++ wsX80)
def wsX8_words : List Cond := .code yX8_words cX8_words 4 (some .int) :: ([.fieldLink RX8 19 "LastWordModel" "now" "[I", .methodLink RX8 96 yX8_at, .instanceMethod yX8_at, .selects RX8 yX8_at yX8_at, .initialized RX8, .code yX8_at cX8_at 3 (some .int)] ++ wsX80)
def wsX8_writer : List Cond := .code yX8_writer cX8_writer 3 (some .int) :: ([.constantLong RX8 101 (9), .fieldLink RX8 16 "LastWordModel" "paper" "[I", .fieldLink RX8 19 "LastWordModel" "now" "[I", .methodLink RX8 98 yX8_isWriter, .instanceMethod yX8_isWriter, .selects RX8 yX8_isWriter yX8_isWriter, .initialized RX8, .code yX8_isWriter cX8_isWriter 2 (some .boolean), .methodLink RX8 42 yX8_in, .static yX8_in, .code yX8_in cX8_in 6 (some .boolean), .methodLink RX8 103 yX8_owes, .instanceMethod yX8_owes, .selects RX8 yX8_owes yX8_owes, .code yX8_owes cX8_owes 4 (some .int), .methodLink RX8 96 yX8_at, .instanceMethod yX8_at, .selects RX8 yX8_at yX8_at, .code yX8_at cX8_at 3 (some .int)] ++ wsX80)
def wsX8_quarrel : List Cond := .code yX8_quarrel cX8_quarrel 3 (some .int) :: ([.constantLong RX8 110 (5), .methodLink RX8 107 yX8_isQuarrel, .instanceMethod yX8_isQuarrel, .selects RX8 yX8_isQuarrel yX8_isQuarrel, .initialized RX8, .code yX8_isQuarrel cX8_isQuarrel 2 (some .boolean), .fieldLink RX8 19 "LastWordModel" "now" "[I", .methodLink RX8 42 yX8_in, .static yX8_in, .code yX8_in cX8_in 6 (some .boolean), .methodLink RX8 96 yX8_at, .instanceMethod yX8_at, .selects RX8 yX8_at yX8_at, .code yX8_at cX8_at 3 (some .int)] ++ wsX80)
def wsX8_meant : List Cond := .code yX8_meant cX8_meant 3 (some .int) :: ([.fieldLink RX8 19 "LastWordModel" "now" "[I", .methodLink RX8 98 yX8_isWriter, .instanceMethod yX8_isWriter, .selects RX8 yX8_isWriter yX8_isWriter, .initialized RX8, .code yX8_isWriter cX8_isWriter 2 (some .boolean), .fieldLink RX8 16 "LastWordModel" "paper" "[I", .methodLink RX8 42 yX8_in, .static yX8_in, .code yX8_in cX8_in 6 (some .boolean), .methodLink RX8 112 yX8_isSubject, .static yX8_isSubject, .code yX8_isSubject cX8_isSubject 1 (some .boolean), .constantLong RX8 90 (4), .methodLink RX8 115 yX8_meantOf, .instanceMethod yX8_meantOf, .selects RX8 yX8_meantOf yX8_meantOf, .code yX8_meantOf cX8_meantOf 7 (some .int), .methodLink RX8 92 yX8_near, .instanceMethod yX8_near, .selects RX8 yX8_near yX8_near, .code yX8_near cX8_near 3 (some .int)] ++ wsX80)
def wsX8_now : List Cond := .code yX8_now cX8_now 4 (some .int) :: ([.fieldLink RX8 19 "LastWordModel" "now" "[I", .fieldLink RX8 87 "LastWordModel" "undos" "I", .methodLink RX8 96 yX8_at, .instanceMethod yX8_at, .selects RX8 yX8_at yX8_at, .initialized RX8, .code yX8_at cX8_at 3 (some .int)] ++ wsX80)
def wsX8_notes : List Cond := .code yX8_notes cX8_notes 2 none :: ([.fieldLink RX8 87 "LastWordModel" "undos" "I", .fieldLink RX8 22 "LastWordModel" "undone" "[I", .fieldLink RX8 19 "LastWordModel" "now" "[I"] ++ wsX80)
def wsX8_means : List Cond := .code yX8_means cX8_means 4 none :: ([.fieldLink RX8 19 "LastWordModel" "now" "[I", .methodLink RX8 115 yX8_meantOf, .instanceMethod yX8_meantOf, .selects RX8 yX8_meantOf yX8_meantOf, .initialized RX8, .code yX8_meantOf cX8_meantOf 7 (some .int), .fieldLink RX8 16 "LastWordModel" "paper" "[I", .methodLink RX8 92 yX8_near, .instanceMethod yX8_near, .selects RX8 yX8_near yX8_near, .code yX8_near cX8_near 3 (some .int), .methodLink RX8 119 yX8_pen, .instanceMethod yX8_pen, .selects RX8 yX8_pen yX8_pen, .code yX8_pen cX8_pen 2 (some .int)] ++ wsX80)
def wsX8_prints : List Cond := .code yX8_prints cX8_prints 5 none :: ([.fieldLink RX8 19 "LastWordModel" "now" "[I", .methodLink RX8 122 yX8_means, .instanceMethod yX8_means, .selects RX8 yX8_means yX8_means, .initialized RX8, .code yX8_means cX8_means 4 none, .methodLink RX8 115 yX8_meantOf, .instanceMethod yX8_meantOf, .selects RX8 yX8_meantOf yX8_meantOf, .code yX8_meantOf cX8_meantOf 7 (some .int), .fieldLink RX8 16 "LastWordModel" "paper" "[I", .methodLink RX8 92 yX8_near, .instanceMethod yX8_near, .selects RX8 yX8_near yX8_near, .code yX8_near cX8_near 3 (some .int), .methodLink RX8 119 yX8_pen, .instanceMethod yX8_pen, .selects RX8 yX8_pen yX8_pen, .code yX8_pen cX8_pen 2 (some .int)] ++ wsX80)
def wsX8_writes_r1 : List Cond := [Cond.fieldLink RX8 19 "LastWordModel" "now" "[I", Cond.methodLink RX8 98 yX8_isWriter, Cond.instanceMethod yX8_isWriter, Cond.selects RX8 yX8_isWriter yX8_isWriter, Cond.initialized RX8, Cond.code yX8_isWriter cX8_isWriter 2 (some .boolean), Cond.fieldLink RX8 16 "LastWordModel" "paper" "[I", Cond.methodLink RX8 42 yX8_in, Cond.static yX8_in, Cond.code yX8_in cX8_in 6 (some .boolean), Cond.methodLink RX8 112 yX8_isSubject, Cond.static yX8_isSubject, Cond.code yX8_isSubject cX8_isSubject 1 (some .boolean), Cond.constantLong RX8 90 (4), Cond.methodLink RX8 126 yX8_hasLaid, Cond.instanceMethod yX8_hasLaid, Cond.selects RX8 yX8_hasLaid yX8_hasLaid, Cond.code yX8_hasLaid cX8_hasLaid 2 (some .boolean), Cond.methodLink RX8 129 yX8_notes, Cond.instanceMethod yX8_notes, Cond.selects RX8 yX8_notes yX8_notes, Cond.code yX8_notes cX8_notes 2 none, Cond.fieldLink RX8 87 "LastWordModel" "undos" "I", Cond.fieldLink RX8 22 "LastWordModel" "undone" "[I"]
def wsX8_writes_r2 : List Cond := [Cond.methodLink RX8 132 yX8_prints, Cond.instanceMethod yX8_prints, Cond.selects RX8 yX8_prints yX8_prints, Cond.code yX8_prints cX8_prints 5 none, Cond.methodLink RX8 122 yX8_means, Cond.instanceMethod yX8_means, Cond.selects RX8 yX8_means yX8_means, Cond.code yX8_means cX8_means 4 none, Cond.methodLink RX8 115 yX8_meantOf, Cond.instanceMethod yX8_meantOf, Cond.selects RX8 yX8_meantOf yX8_meantOf, Cond.code yX8_meantOf cX8_meantOf 7 (some .int), Cond.methodLink RX8 92 yX8_near, Cond.instanceMethod yX8_near, Cond.selects RX8 yX8_near yX8_near, Cond.code yX8_near cX8_near 3 (some .int), Cond.methodLink RX8 119 yX8_pen, Cond.instanceMethod yX8_pen, Cond.selects RX8 yX8_pen yX8_pen, Cond.code yX8_pen cX8_pen 2 (some .int)]
def wsX8_writes : List Cond := .code yX8_writes cX8_writes 3 (some .int) :: ((wsX8_writes_r1 ++ wsX8_writes_r2) ++ wsX80)
def wsX8_worksOn : List Cond := .code yX8_worksOn cX8_worksOn 4 (some .int) :: ([.fieldLink RX8 19 "LastWordModel" "now" "[I", .methodLink RX8 96 yX8_at, .instanceMethod yX8_at, .selects RX8 yX8_at yX8_at, .initialized RX8, .code yX8_at cX8_at 3 (some .int)] ++ wsX80)
def wsX8_goesBy_r1 : List Cond := [Cond.fieldLink RX8 16 "LastWordModel" "paper" "[I", Cond.fieldLink RX8 19 "LastWordModel" "now" "[I", Cond.fieldLink RX8 139 "LastWordModel" "newly" "I", Cond.methodLink RX8 136 yX8_worksOn, Cond.instanceMethod yX8_worksOn, Cond.selects RX8 yX8_worksOn yX8_worksOn, Cond.initialized RX8, Cond.code yX8_worksOn cX8_worksOn 4 (some .int), Cond.methodLink RX8 96 yX8_at, Cond.instanceMethod yX8_at, Cond.selects RX8 yX8_at yX8_at, Cond.code yX8_at cX8_at 3 (some .int), Cond.methodLink RX8 142 yX8_answers, Cond.instanceMethod yX8_answers, Cond.selects RX8 yX8_answers yX8_answers, Cond.code yX8_answers cX8_answers 4 (some .int), Cond.methodLink RX8 132 yX8_prints, Cond.instanceMethod yX8_prints, Cond.selects RX8 yX8_prints yX8_prints, Cond.code yX8_prints cX8_prints 5 none, Cond.methodLink RX8 122 yX8_means, Cond.instanceMethod yX8_means, Cond.selects RX8 yX8_means yX8_means, Cond.code yX8_means cX8_means 4 none]
def wsX8_goesBy_r2 : List Cond := [Cond.methodLink RX8 115 yX8_meantOf, Cond.instanceMethod yX8_meantOf, Cond.selects RX8 yX8_meantOf yX8_meantOf, Cond.code yX8_meantOf cX8_meantOf 7 (some .int), Cond.methodLink RX8 92 yX8_near, Cond.instanceMethod yX8_near, Cond.selects RX8 yX8_near yX8_near, Cond.code yX8_near cX8_near 3 (some .int), Cond.methodLink RX8 119 yX8_pen, Cond.instanceMethod yX8_pen, Cond.selects RX8 yX8_pen yX8_pen, Cond.code yX8_pen cX8_pen 2 (some .int)]
def wsX8_goesBy : List Cond := .code yX8_goesBy cX8_goesBy 4 (some .int) :: ((wsX8_goesBy_r1 ++ wsX8_goesBy_r2) ++ wsX80)
def wsX8_day_r1 : List Cond := [Cond.fieldLink RX8 19 "LastWordModel" "now" "[I", Cond.methodLink RX8 129 yX8_notes, Cond.instanceMethod yX8_notes, Cond.selects RX8 yX8_notes yX8_notes, Cond.initialized RX8, Cond.code yX8_notes cX8_notes 2 none, Cond.fieldLink RX8 87 "LastWordModel" "undos" "I", Cond.fieldLink RX8 22 "LastWordModel" "undone" "[I", Cond.methodLink RX8 145 yX8_goesBy, Cond.instanceMethod yX8_goesBy, Cond.selects RX8 yX8_goesBy yX8_goesBy, Cond.code yX8_goesBy cX8_goesBy 4 (some .int), Cond.fieldLink RX8 16 "LastWordModel" "paper" "[I", Cond.fieldLink RX8 139 "LastWordModel" "newly" "I", Cond.methodLink RX8 136 yX8_worksOn, Cond.instanceMethod yX8_worksOn, Cond.selects RX8 yX8_worksOn yX8_worksOn, Cond.code yX8_worksOn cX8_worksOn 4 (some .int), Cond.methodLink RX8 96 yX8_at, Cond.instanceMethod yX8_at, Cond.selects RX8 yX8_at yX8_at, Cond.code yX8_at cX8_at 3 (some .int), Cond.methodLink RX8 142 yX8_answers, Cond.instanceMethod yX8_answers]
def wsX8_day_r2 : List Cond := [Cond.selects RX8 yX8_answers yX8_answers, Cond.code yX8_answers cX8_answers 4 (some .int), Cond.methodLink RX8 132 yX8_prints, Cond.instanceMethod yX8_prints, Cond.selects RX8 yX8_prints yX8_prints, Cond.code yX8_prints cX8_prints 5 none, Cond.methodLink RX8 122 yX8_means, Cond.instanceMethod yX8_means, Cond.selects RX8 yX8_means yX8_means, Cond.code yX8_means cX8_means 4 none, Cond.methodLink RX8 115 yX8_meantOf, Cond.instanceMethod yX8_meantOf, Cond.selects RX8 yX8_meantOf yX8_meantOf, Cond.code yX8_meantOf cX8_meantOf 7 (some .int), Cond.methodLink RX8 92 yX8_near, Cond.instanceMethod yX8_near, Cond.selects RX8 yX8_near yX8_near, Cond.code yX8_near cX8_near 3 (some .int), Cond.methodLink RX8 119 yX8_pen, Cond.instanceMethod yX8_pen, Cond.selects RX8 yX8_pen yX8_pen, Cond.code yX8_pen cX8_pen 2 (some .int)]
def wsX8_day : List Cond := .code yX8_day cX8_day 1 (some .int) :: ((wsX8_day_r1 ++ wsX8_day_r2) ++ wsX80)
def wsX8_laysDown : List Cond := .code yX8_laysDown cX8_laysDown 4 (some .int) :: ([.fieldLink RX8 19 "LastWordModel" "now" "[I", .methodLink RX8 96 yX8_at, .instanceMethod yX8_at, .selects RX8 yX8_at yX8_at, .initialized RX8, .code yX8_at cX8_at 3 (some .int), .methodLink RX8 122 yX8_means, .instanceMethod yX8_means, .selects RX8 yX8_means yX8_means, .code yX8_means cX8_means 4 none, .methodLink RX8 115 yX8_meantOf, .instanceMethod yX8_meantOf, .selects RX8 yX8_meantOf yX8_meantOf, .code yX8_meantOf cX8_meantOf 7 (some .int), .fieldLink RX8 16 "LastWordModel" "paper" "[I", .methodLink RX8 92 yX8_near, .instanceMethod yX8_near, .selects RX8 yX8_near yX8_near, .code yX8_near cX8_near 3 (some .int), .methodLink RX8 119 yX8_pen, .instanceMethod yX8_pen, .selects RX8 yX8_pen yX8_pen, .code yX8_pen cX8_pen 2 (some .int)] ++ wsX80)
def wsX8_lays_r1 : List Cond := [Cond.methodLink RX8 98 yX8_isWriter, Cond.instanceMethod yX8_isWriter, Cond.selects RX8 yX8_isWriter yX8_isWriter, Cond.initialized RX8, Cond.code yX8_isWriter cX8_isWriter 2 (some .boolean), Cond.fieldLink RX8 16 "LastWordModel" "paper" "[I", Cond.methodLink RX8 42 yX8_in, Cond.static yX8_in, Cond.code yX8_in cX8_in 6 (some .boolean), Cond.methodLink RX8 126 yX8_hasLaid, Cond.instanceMethod yX8_hasLaid, Cond.selects RX8 yX8_hasLaid yX8_hasLaid, Cond.code yX8_hasLaid cX8_hasLaid 2 (some .boolean), Cond.fieldLink RX8 19 "LastWordModel" "now" "[I", Cond.methodLink RX8 129 yX8_notes, Cond.instanceMethod yX8_notes, Cond.selects RX8 yX8_notes yX8_notes, Cond.code yX8_notes cX8_notes 2 none, Cond.fieldLink RX8 87 "LastWordModel" "undos" "I", Cond.fieldLink RX8 22 "LastWordModel" "undone" "[I", Cond.methodLink RX8 149 yX8_laysDown, Cond.instanceMethod yX8_laysDown, Cond.selects RX8 yX8_laysDown yX8_laysDown, Cond.code yX8_laysDown cX8_laysDown 4 (some .int)]
def wsX8_lays_r2 : List Cond := [Cond.methodLink RX8 96 yX8_at, Cond.instanceMethod yX8_at, Cond.selects RX8 yX8_at yX8_at, Cond.code yX8_at cX8_at 3 (some .int), Cond.methodLink RX8 122 yX8_means, Cond.instanceMethod yX8_means, Cond.selects RX8 yX8_means yX8_means, Cond.code yX8_means cX8_means 4 none, Cond.methodLink RX8 115 yX8_meantOf, Cond.instanceMethod yX8_meantOf, Cond.selects RX8 yX8_meantOf yX8_meantOf, Cond.code yX8_meantOf cX8_meantOf 7 (some .int), Cond.methodLink RX8 92 yX8_near, Cond.instanceMethod yX8_near, Cond.selects RX8 yX8_near yX8_near, Cond.code yX8_near cX8_near 3 (some .int), Cond.methodLink RX8 119 yX8_pen, Cond.instanceMethod yX8_pen, Cond.selects RX8 yX8_pen yX8_pen, Cond.code yX8_pen cX8_pen 2 (some .int)]
def wsX8_lays : List Cond := .code yX8_lays cX8_lays 2 (some .int) :: ((wsX8_lays_r1 ++ wsX8_lays_r2) ++ wsX80)
def wsX8_undo : List Cond := .code yX8_undo cX8_undo 2 (some .int) :: ([.fieldLink RX8 87 "LastWordModel" "undos" "I", .fieldLink RX8 19 "LastWordModel" "now" "[I", .fieldLink RX8 22 "LastWordModel" "undone" "[I"] ++ wsX80)
def wsX8_asides : List Cond := .code yX8_asides cX8_asides 2 none :: ([.fieldLink RX8 25 "LastWordModel" "aside" "[I", .fieldLink RX8 19 "LastWordModel" "now" "[I"] ++ wsX80)
def wsX8_backs : List Cond := .code yX8_backs cX8_backs 2 none :: ([.fieldLink RX8 19 "LastWordModel" "now" "[I", .fieldLink RX8 25 "LastWordModel" "aside" "[I"] ++ wsX80)
def wsX8_inDays_r1 : List Cond := [Cond.constantLong RX8 152 (60), Cond.constantLong RX8 154 (2), Cond.methodLink RX8 107 yX8_isQuarrel, Cond.instanceMethod yX8_isQuarrel, Cond.selects RX8 yX8_isQuarrel yX8_isQuarrel, Cond.initialized RX8, Cond.code yX8_isQuarrel cX8_isQuarrel 2 (some .boolean), Cond.fieldLink RX8 19 "LastWordModel" "now" "[I", Cond.methodLink RX8 42 yX8_in, Cond.static yX8_in, Cond.code yX8_in cX8_in 6 (some .boolean), Cond.methodLink RX8 156 yX8_asides, Cond.instanceMethod yX8_asides, Cond.selects RX8 yX8_asides yX8_asides, Cond.code yX8_asides cX8_asides 2 none, Cond.fieldLink RX8 25 "LastWordModel" "aside" "[I", Cond.methodLink RX8 145 yX8_goesBy, Cond.instanceMethod yX8_goesBy, Cond.selects RX8 yX8_goesBy yX8_goesBy, Cond.code yX8_goesBy cX8_goesBy 4 (some .int), Cond.fieldLink RX8 16 "LastWordModel" "paper" "[I", Cond.fieldLink RX8 139 "LastWordModel" "newly" "I", Cond.methodLink RX8 136 yX8_worksOn, Cond.instanceMethod yX8_worksOn]
def wsX8_inDays_r2 : List Cond := [Cond.selects RX8 yX8_worksOn yX8_worksOn, Cond.code yX8_worksOn cX8_worksOn 4 (some .int), Cond.methodLink RX8 96 yX8_at, Cond.instanceMethod yX8_at, Cond.selects RX8 yX8_at yX8_at, Cond.code yX8_at cX8_at 3 (some .int), Cond.methodLink RX8 142 yX8_answers, Cond.instanceMethod yX8_answers, Cond.selects RX8 yX8_answers yX8_answers, Cond.code yX8_answers cX8_answers 4 (some .int), Cond.methodLink RX8 132 yX8_prints, Cond.instanceMethod yX8_prints, Cond.selects RX8 yX8_prints yX8_prints, Cond.code yX8_prints cX8_prints 5 none, Cond.methodLink RX8 122 yX8_means, Cond.instanceMethod yX8_means, Cond.selects RX8 yX8_means yX8_means, Cond.code yX8_means cX8_means 4 none, Cond.methodLink RX8 115 yX8_meantOf, Cond.instanceMethod yX8_meantOf, Cond.selects RX8 yX8_meantOf yX8_meantOf, Cond.code yX8_meantOf cX8_meantOf 7 (some .int), Cond.methodLink RX8 92 yX8_near, Cond.instanceMethod yX8_near]
def wsX8_inDays_r3 : List Cond := [Cond.selects RX8 yX8_near yX8_near, Cond.code yX8_near cX8_near 3 (some .int), Cond.methodLink RX8 119 yX8_pen, Cond.instanceMethod yX8_pen, Cond.selects RX8 yX8_pen yX8_pen, Cond.code yX8_pen cX8_pen 2 (some .int), Cond.methodLink RX8 159 yX8_backs, Cond.instanceMethod yX8_backs, Cond.selects RX8 yX8_backs yX8_backs, Cond.code yX8_backs cX8_backs 2 none]
def wsX8_inDays : List Cond := .code yX8_inDays cX8_inDays 5 (some .int) :: ((wsX8_inDays_r1 ++ (wsX8_inDays_r2 ++ wsX8_inDays_r3)) ++ wsX80)
def wsX8_closes_r1 : List Cond := [Cond.methodLink RX8 96 yX8_at, Cond.instanceMethod yX8_at, Cond.selects RX8 yX8_at yX8_at, Cond.initialized RX8, Cond.code yX8_at cX8_at 3 (some .int), Cond.fieldLink RX8 19 "LastWordModel" "now" "[I", Cond.methodLink RX8 145 yX8_goesBy, Cond.instanceMethod yX8_goesBy, Cond.selects RX8 yX8_goesBy yX8_goesBy, Cond.code yX8_goesBy cX8_goesBy 4 (some .int), Cond.fieldLink RX8 16 "LastWordModel" "paper" "[I", Cond.fieldLink RX8 139 "LastWordModel" "newly" "I", Cond.methodLink RX8 136 yX8_worksOn, Cond.instanceMethod yX8_worksOn, Cond.selects RX8 yX8_worksOn yX8_worksOn, Cond.code yX8_worksOn cX8_worksOn 4 (some .int), Cond.methodLink RX8 142 yX8_answers, Cond.instanceMethod yX8_answers, Cond.selects RX8 yX8_answers yX8_answers, Cond.code yX8_answers cX8_answers 4 (some .int), Cond.methodLink RX8 132 yX8_prints, Cond.instanceMethod yX8_prints, Cond.selects RX8 yX8_prints yX8_prints, Cond.code yX8_prints cX8_prints 5 none]
def wsX8_closes_r2 : List Cond := [Cond.methodLink RX8 122 yX8_means, Cond.instanceMethod yX8_means, Cond.selects RX8 yX8_means yX8_means, Cond.code yX8_means cX8_means 4 none, Cond.methodLink RX8 115 yX8_meantOf, Cond.instanceMethod yX8_meantOf, Cond.selects RX8 yX8_meantOf yX8_meantOf, Cond.code yX8_meantOf cX8_meantOf 7 (some .int), Cond.methodLink RX8 92 yX8_near, Cond.instanceMethod yX8_near, Cond.selects RX8 yX8_near yX8_near, Cond.code yX8_near cX8_near 3 (some .int), Cond.methodLink RX8 119 yX8_pen, Cond.instanceMethod yX8_pen, Cond.selects RX8 yX8_pen yX8_pen, Cond.code yX8_pen cX8_pen 2 (some .int)]
def wsX8_closes : List Cond := .code yX8_closes cX8_closes 3 (some .int) :: ((wsX8_closes_r1 ++ wsX8_closes_r2) ++ wsX80)
def wsX8_ends_r1 : List Cond := [Cond.methodLink RX8 107 yX8_isQuarrel, Cond.instanceMethod yX8_isQuarrel, Cond.selects RX8 yX8_isQuarrel yX8_isQuarrel, Cond.initialized RX8, Cond.code yX8_isQuarrel cX8_isQuarrel 2 (some .boolean), Cond.fieldLink RX8 19 "LastWordModel" "now" "[I", Cond.methodLink RX8 42 yX8_in, Cond.static yX8_in, Cond.code yX8_in cX8_in 6 (some .boolean), Cond.methodLink RX8 156 yX8_asides, Cond.instanceMethod yX8_asides, Cond.selects RX8 yX8_asides yX8_asides, Cond.code yX8_asides cX8_asides 2 none, Cond.fieldLink RX8 25 "LastWordModel" "aside" "[I", Cond.methodLink RX8 162 yX8_closes, Cond.instanceMethod yX8_closes, Cond.selects RX8 yX8_closes yX8_closes, Cond.code yX8_closes cX8_closes 3 (some .int), Cond.methodLink RX8 96 yX8_at, Cond.instanceMethod yX8_at, Cond.selects RX8 yX8_at yX8_at, Cond.code yX8_at cX8_at 3 (some .int), Cond.methodLink RX8 145 yX8_goesBy, Cond.instanceMethod yX8_goesBy]
def wsX8_ends_r2 : List Cond := [Cond.selects RX8 yX8_goesBy yX8_goesBy, Cond.code yX8_goesBy cX8_goesBy 4 (some .int), Cond.fieldLink RX8 16 "LastWordModel" "paper" "[I", Cond.fieldLink RX8 139 "LastWordModel" "newly" "I", Cond.methodLink RX8 136 yX8_worksOn, Cond.instanceMethod yX8_worksOn, Cond.selects RX8 yX8_worksOn yX8_worksOn, Cond.code yX8_worksOn cX8_worksOn 4 (some .int), Cond.methodLink RX8 142 yX8_answers, Cond.instanceMethod yX8_answers, Cond.selects RX8 yX8_answers yX8_answers, Cond.code yX8_answers cX8_answers 4 (some .int), Cond.methodLink RX8 132 yX8_prints, Cond.instanceMethod yX8_prints, Cond.selects RX8 yX8_prints yX8_prints, Cond.code yX8_prints cX8_prints 5 none, Cond.methodLink RX8 122 yX8_means, Cond.instanceMethod yX8_means, Cond.selects RX8 yX8_means yX8_means, Cond.code yX8_means cX8_means 4 none, Cond.methodLink RX8 115 yX8_meantOf, Cond.instanceMethod yX8_meantOf, Cond.selects RX8 yX8_meantOf yX8_meantOf, Cond.code yX8_meantOf cX8_meantOf 7 (some .int)]
def wsX8_ends_r3 : List Cond := [Cond.methodLink RX8 92 yX8_near, Cond.instanceMethod yX8_near, Cond.selects RX8 yX8_near yX8_near, Cond.code yX8_near cX8_near 3 (some .int), Cond.methodLink RX8 119 yX8_pen, Cond.instanceMethod yX8_pen, Cond.selects RX8 yX8_pen yX8_pen, Cond.code yX8_pen cX8_pen 2 (some .int), Cond.methodLink RX8 159 yX8_backs, Cond.instanceMethod yX8_backs, Cond.selects RX8 yX8_backs yX8_backs, Cond.code yX8_backs cX8_backs 2 none]
def wsX8_ends : List Cond := .code yX8_ends cX8_ends 3 (some .int) :: ((wsX8_ends_r1 ++ (wsX8_ends_r2 ++ wsX8_ends_r3)) ++ wsX80)
def wsX8_letters : List Cond := .code yX8_letters cX8_letters 8 (some .int) :: ([.fieldLink RX8 165 "LastWordModel" "lastWriter" "I", .methodLink RX8 115 yX8_meantOf, .instanceMethod yX8_meantOf, .selects RX8 yX8_meantOf yX8_meantOf, .initialized RX8, .code yX8_meantOf cX8_meantOf 7 (some .int), .fieldLink RX8 16 "LastWordModel" "paper" "[I", .methodLink RX8 92 yX8_near, .instanceMethod yX8_near, .selects RX8 yX8_near yX8_near, .code yX8_near cX8_near 3 (some .int), .methodLink RX8 142 yX8_answers, .instanceMethod yX8_answers, .selects RX8 yX8_answers yX8_answers, .code yX8_answers cX8_answers 4 (some .int)] ++ wsX80)
def wsX8_round_r1 : List Cond := [Cond.fieldLink RX8 19 "LastWordModel" "now" "[I", Cond.fieldLink RX8 165 "LastWordModel" "lastWriter" "I", Cond.methodLink RX8 98 yX8_isWriter, Cond.instanceMethod yX8_isWriter, Cond.selects RX8 yX8_isWriter yX8_isWriter, Cond.initialized RX8, Cond.code yX8_isWriter cX8_isWriter 2 (some .boolean), Cond.fieldLink RX8 16 "LastWordModel" "paper" "[I", Cond.methodLink RX8 42 yX8_in, Cond.static yX8_in, Cond.code yX8_in cX8_in 6 (some .boolean), Cond.methodLink RX8 112 yX8_isSubject, Cond.static yX8_isSubject, Cond.code yX8_isSubject cX8_isSubject 1 (some .boolean), Cond.constantLong RX8 90 (4), Cond.methodLink RX8 126 yX8_hasLaid, Cond.instanceMethod yX8_hasLaid, Cond.selects RX8 yX8_hasLaid yX8_hasLaid, Cond.code yX8_hasLaid cX8_hasLaid 2 (some .boolean), Cond.methodLink RX8 168 yX8_letters, Cond.instanceMethod yX8_letters, Cond.selects RX8 yX8_letters yX8_letters, Cond.code yX8_letters cX8_letters 8 (some .int), Cond.methodLink RX8 115 yX8_meantOf]
def wsX8_round_r2 : List Cond := [Cond.instanceMethod yX8_meantOf, Cond.selects RX8 yX8_meantOf yX8_meantOf, Cond.code yX8_meantOf cX8_meantOf 7 (some .int), Cond.methodLink RX8 92 yX8_near, Cond.instanceMethod yX8_near, Cond.selects RX8 yX8_near yX8_near, Cond.code yX8_near cX8_near 3 (some .int), Cond.methodLink RX8 142 yX8_answers, Cond.instanceMethod yX8_answers, Cond.selects RX8 yX8_answers yX8_answers, Cond.code yX8_answers cX8_answers 4 (some .int)]
def wsX8_round : List Cond := .code yX8_round cX8_round 5 (some .int) :: ((wsX8_round_r1 ++ wsX8_round_r2) ++ wsX80)
def wsX8_last_r1 : List Cond := [Cond.fieldLink RX8 19 "LastWordModel" "now" "[I", Cond.fieldLink RX8 165 "LastWordModel" "lastWriter" "I", Cond.methodLink RX8 98 yX8_isWriter, Cond.instanceMethod yX8_isWriter, Cond.selects RX8 yX8_isWriter yX8_isWriter, Cond.initialized RX8, Cond.code yX8_isWriter cX8_isWriter 2 (some .boolean), Cond.fieldLink RX8 16 "LastWordModel" "paper" "[I", Cond.methodLink RX8 42 yX8_in, Cond.static yX8_in, Cond.code yX8_in cX8_in 6 (some .boolean), Cond.methodLink RX8 126 yX8_hasLaid, Cond.instanceMethod yX8_hasLaid, Cond.selects RX8 yX8_hasLaid yX8_hasLaid, Cond.code yX8_hasLaid cX8_hasLaid 2 (some .boolean), Cond.methodLink RX8 168 yX8_letters, Cond.instanceMethod yX8_letters, Cond.selects RX8 yX8_letters yX8_letters, Cond.code yX8_letters cX8_letters 8 (some .int), Cond.methodLink RX8 115 yX8_meantOf, Cond.instanceMethod yX8_meantOf, Cond.selects RX8 yX8_meantOf yX8_meantOf, Cond.code yX8_meantOf cX8_meantOf 7 (some .int), Cond.methodLink RX8 92 yX8_near]
def wsX8_last_r2 : List Cond := [Cond.instanceMethod yX8_near, Cond.selects RX8 yX8_near yX8_near, Cond.code yX8_near cX8_near 3 (some .int), Cond.methodLink RX8 142 yX8_answers, Cond.instanceMethod yX8_answers, Cond.selects RX8 yX8_answers yX8_answers, Cond.code yX8_answers cX8_answers 4 (some .int)]
def wsX8_last : List Cond := .code yX8_last cX8_last 3 (some .int) :: ((wsX8_last_r1 ++ wsX8_last_r2) ++ wsX80)
def wsX8_bindsNobody : List Cond := .code yX8_bindsNobody cX8_bindsNobody 4 (some .int) :: ([.fieldLink RX8 19 "LastWordModel" "now" "[I", .methodLink RX8 98 yX8_isWriter, .instanceMethod yX8_isWriter, .selects RX8 yX8_isWriter yX8_isWriter, .initialized RX8, .code yX8_isWriter cX8_isWriter 2 (some .boolean), .fieldLink RX8 16 "LastWordModel" "paper" "[I", .methodLink RX8 42 yX8_in, .static yX8_in, .code yX8_in cX8_in 6 (some .boolean), .methodLink RX8 115 yX8_meantOf, .instanceMethod yX8_meantOf, .selects RX8 yX8_meantOf yX8_meantOf, .code yX8_meantOf cX8_meantOf 7 (some .int), .methodLink RX8 92 yX8_near, .instanceMethod yX8_near, .selects RX8 yX8_near yX8_near, .code yX8_near cX8_near 3 (some .int)] ++ wsX80)
def wsX8_isInTime : List Cond := .code yX8_isInTime cX8_isInTime 7 (some .boolean) :: ([.fieldLink RX8 19 "LastWordModel" "now" "[I", .fieldLink RX8 16 "LastWordModel" "paper" "[I", .methodLink RX8 96 yX8_at, .instanceMethod yX8_at, .selects RX8 yX8_at yX8_at, .initialized RX8, .code yX8_at cX8_at 3 (some .int)] ++ wsX80)
def wsX8_many : List Cond := .code yX8_many cX8_many 3 (some .int) :: ([])
def wsX8_keeps : List Cond := .code yX8_keeps cX8_keeps 5 (some .int) :: ([.fieldLink RX8 19 "LastWordModel" "now" "[I", .methodLink RX8 98 yX8_isWriter, .instanceMethod yX8_isWriter, .selects RX8 yX8_isWriter yX8_isWriter, .initialized RX8, .code yX8_isWriter cX8_isWriter 2 (some .boolean), .fieldLink RX8 16 "LastWordModel" "paper" "[I", .methodLink RX8 42 yX8_in, .static yX8_in, .code yX8_in cX8_in 6 (some .boolean), .methodLink RX8 96 yX8_at, .instanceMethod yX8_at, .selects RX8 yX8_at yX8_at, .code yX8_at cX8_at 3 (some .int), .methodLink RX8 171 yX8_many, .static yX8_many, .code yX8_many cX8_many 3 (some .int), .methodLink RX8 174 yX8_isInTime, .instanceMethod yX8_isInTime, .selects RX8 yX8_isInTime yX8_isInTime, .code yX8_isInTime cX8_isInTime 7 (some .boolean)] ++ wsX80)
def wsX8_lateFirst_r1 : List Cond := [Cond.fieldLink RX8 139 "LastWordModel" "newly" "I", Cond.methodLink RX8 42 yX8_in, Cond.static yX8_in, Cond.initialized RX8, Cond.code yX8_in cX8_in 6 (some .boolean), Cond.methodLink RX8 156 yX8_asides, Cond.instanceMethod yX8_asides, Cond.selects RX8 yX8_asides yX8_asides, Cond.code yX8_asides cX8_asides 2 none, Cond.fieldLink RX8 25 "LastWordModel" "aside" "[I", Cond.fieldLink RX8 19 "LastWordModel" "now" "[I", Cond.methodLink RX8 145 yX8_goesBy, Cond.instanceMethod yX8_goesBy, Cond.selects RX8 yX8_goesBy yX8_goesBy, Cond.code yX8_goesBy cX8_goesBy 4 (some .int), Cond.fieldLink RX8 16 "LastWordModel" "paper" "[I", Cond.methodLink RX8 136 yX8_worksOn, Cond.instanceMethod yX8_worksOn, Cond.selects RX8 yX8_worksOn yX8_worksOn, Cond.code yX8_worksOn cX8_worksOn 4 (some .int), Cond.methodLink RX8 96 yX8_at, Cond.instanceMethod yX8_at, Cond.selects RX8 yX8_at yX8_at, Cond.code yX8_at cX8_at 3 (some .int)]
def wsX8_lateFirst_r2 : List Cond := [Cond.methodLink RX8 142 yX8_answers, Cond.instanceMethod yX8_answers, Cond.selects RX8 yX8_answers yX8_answers, Cond.code yX8_answers cX8_answers 4 (some .int), Cond.methodLink RX8 132 yX8_prints, Cond.instanceMethod yX8_prints, Cond.selects RX8 yX8_prints yX8_prints, Cond.code yX8_prints cX8_prints 5 none, Cond.methodLink RX8 122 yX8_means, Cond.instanceMethod yX8_means, Cond.selects RX8 yX8_means yX8_means, Cond.code yX8_means cX8_means 4 none, Cond.methodLink RX8 115 yX8_meantOf, Cond.instanceMethod yX8_meantOf, Cond.selects RX8 yX8_meantOf yX8_meantOf, Cond.code yX8_meantOf cX8_meantOf 7 (some .int), Cond.methodLink RX8 92 yX8_near, Cond.instanceMethod yX8_near, Cond.selects RX8 yX8_near yX8_near, Cond.code yX8_near cX8_near 3 (some .int), Cond.methodLink RX8 119 yX8_pen, Cond.instanceMethod yX8_pen, Cond.selects RX8 yX8_pen yX8_pen, Cond.code yX8_pen cX8_pen 2 (some .int)]
def wsX8_lateFirst_r3 : List Cond := [Cond.methodLink RX8 159 yX8_backs, Cond.instanceMethod yX8_backs, Cond.selects RX8 yX8_backs yX8_backs, Cond.code yX8_backs cX8_backs 2 none]
def wsX8_lateFirst : List Cond := .code yX8_lateFirst cX8_lateFirst 4 (some .int) :: ((wsX8_lateFirst_r1 ++ (wsX8_lateFirst_r2 ++ wsX8_lateFirst_r3)) ++ wsX80)
def wsX8_peace_r1 : List Cond := [Cond.fieldLink RX8 16 "LastWordModel" "paper" "[I", Cond.fieldLink RX8 25 "LastWordModel" "aside" "[I", Cond.methodLink RX8 107 yX8_isQuarrel, Cond.instanceMethod yX8_isQuarrel, Cond.selects RX8 yX8_isQuarrel yX8_isQuarrel, Cond.initialized RX8, Cond.code yX8_isQuarrel cX8_isQuarrel 2 (some .boolean), Cond.fieldLink RX8 19 "LastWordModel" "now" "[I", Cond.methodLink RX8 42 yX8_in, Cond.static yX8_in, Cond.code yX8_in cX8_in 6 (some .boolean), Cond.methodLink RX8 156 yX8_asides, Cond.instanceMethod yX8_asides, Cond.selects RX8 yX8_asides yX8_asides, Cond.code yX8_asides cX8_asides 2 none, Cond.methodLink RX8 171 yX8_many, Cond.static yX8_many, Cond.code yX8_many cX8_many 3 (some .int), Cond.methodLink RX8 149 yX8_laysDown, Cond.instanceMethod yX8_laysDown, Cond.selects RX8 yX8_laysDown yX8_laysDown, Cond.code yX8_laysDown cX8_laysDown 4 (some .int), Cond.methodLink RX8 96 yX8_at, Cond.instanceMethod yX8_at]
def wsX8_peace_r2 : List Cond := [Cond.selects RX8 yX8_at yX8_at, Cond.code yX8_at cX8_at 3 (some .int), Cond.methodLink RX8 122 yX8_means, Cond.instanceMethod yX8_means, Cond.selects RX8 yX8_means yX8_means, Cond.code yX8_means cX8_means 4 none, Cond.methodLink RX8 115 yX8_meantOf, Cond.instanceMethod yX8_meantOf, Cond.selects RX8 yX8_meantOf yX8_meantOf, Cond.code yX8_meantOf cX8_meantOf 7 (some .int), Cond.methodLink RX8 92 yX8_near, Cond.instanceMethod yX8_near, Cond.selects RX8 yX8_near yX8_near, Cond.code yX8_near cX8_near 3 (some .int), Cond.methodLink RX8 119 yX8_pen, Cond.instanceMethod yX8_pen, Cond.selects RX8 yX8_pen yX8_pen, Cond.code yX8_pen cX8_pen 2 (some .int), Cond.methodLink RX8 162 yX8_closes, Cond.instanceMethod yX8_closes, Cond.selects RX8 yX8_closes yX8_closes, Cond.code yX8_closes cX8_closes 3 (some .int), Cond.methodLink RX8 145 yX8_goesBy, Cond.instanceMethod yX8_goesBy]
def wsX8_peace_r3 : List Cond := [Cond.selects RX8 yX8_goesBy yX8_goesBy, Cond.code yX8_goesBy cX8_goesBy 4 (some .int), Cond.fieldLink RX8 139 "LastWordModel" "newly" "I", Cond.methodLink RX8 136 yX8_worksOn, Cond.instanceMethod yX8_worksOn, Cond.selects RX8 yX8_worksOn yX8_worksOn, Cond.code yX8_worksOn cX8_worksOn 4 (some .int), Cond.methodLink RX8 142 yX8_answers, Cond.instanceMethod yX8_answers, Cond.selects RX8 yX8_answers yX8_answers, Cond.code yX8_answers cX8_answers 4 (some .int), Cond.methodLink RX8 132 yX8_prints, Cond.instanceMethod yX8_prints, Cond.selects RX8 yX8_prints yX8_prints, Cond.code yX8_prints cX8_prints 5 none, Cond.methodLink RX8 159 yX8_backs, Cond.instanceMethod yX8_backs, Cond.selects RX8 yX8_backs yX8_backs, Cond.code yX8_backs cX8_backs 2 none]
def wsX8_peace : List Cond := .code yX8_peace cX8_peace 5 (some .int) :: ((wsX8_peace_r1 ++ (wsX8_peace_r2 ++ wsX8_peace_r3)) ++ wsX80)
def wsX8_found : List Cond := .code yX8_found cX8_found 4 (some .int) :: ([.fieldLink RX8 84 "LastWordModel" "founds" "I", .fieldLink RX8 28 "LastWordModel" "finds" "[I", .methodLink RX8 98 yX8_isWriter, .instanceMethod yX8_isWriter, .selects RX8 yX8_isWriter yX8_isWriter, .initialized RX8, .code yX8_isWriter cX8_isWriter 2 (some .boolean), .fieldLink RX8 16 "LastWordModel" "paper" "[I", .methodLink RX8 42 yX8_in, .static yX8_in, .code yX8_in cX8_in 6 (some .boolean), .methodLink RX8 112 yX8_isSubject, .static yX8_isSubject, .code yX8_isSubject cX8_isSubject 1 (some .boolean), .constantLong RX8 90 (4)] ++ wsX80)
def wsX8_forget : List Cond := .code yX8_forget cX8_forget 2 (some .int) :: ([.fieldLink RX8 84 "LastWordModel" "founds" "I"] ++ wsX80)
def wsX8_mayBe : List Cond := .code yX8_mayBe cX8_mayBe 9 (some .int) :: ([.fieldLink RX8 16 "LastWordModel" "paper" "[I", .fieldLink RX8 84 "LastWordModel" "founds" "I", .fieldLink RX8 28 "LastWordModel" "finds" "[I", .methodLink RX8 98 yX8_isWriter, .instanceMethod yX8_isWriter, .selects RX8 yX8_isWriter yX8_isWriter, .initialized RX8, .code yX8_isWriter cX8_isWriter 2 (some .boolean), .methodLink RX8 42 yX8_in, .static yX8_in, .code yX8_in cX8_in 6 (some .boolean), .methodLink RX8 112 yX8_isSubject, .static yX8_isSubject, .code yX8_isSubject cX8_isSubject 1 (some .boolean), .constantLong RX8 90 (4), .methodLink RX8 115 yX8_meantOf, .instanceMethod yX8_meantOf, .selects RX8 yX8_meantOf yX8_meantOf, .code yX8_meantOf cX8_meantOf 7 (some .int), .methodLink RX8 92 yX8_near, .instanceMethod yX8_near, .selects RX8 yX8_near yX8_near, .code yX8_near cX8_near 3 (some .int)] ++ wsX80)
def wsX8_odds_r1 : List Cond := [Cond.constantLong RX8 177 (10), Cond.fieldLink RX8 16 "LastWordModel" "paper" "[I", Cond.fieldLink RX8 19 "LastWordModel" "now" "[I", Cond.fieldLink RX8 165 "LastWordModel" "lastWriter" "I", Cond.methodLink RX8 98 yX8_isWriter, Cond.instanceMethod yX8_isWriter, Cond.selects RX8 yX8_isWriter yX8_isWriter, Cond.initialized RX8, Cond.code yX8_isWriter cX8_isWriter 2 (some .boolean), Cond.methodLink RX8 42 yX8_in, Cond.static yX8_in, Cond.code yX8_in cX8_in 6 (some .boolean), Cond.methodLink RX8 112 yX8_isSubject, Cond.static yX8_isSubject, Cond.code yX8_isSubject cX8_isSubject 1 (some .boolean), Cond.constantLong RX8 90 (4), Cond.methodLink RX8 126 yX8_hasLaid, Cond.instanceMethod yX8_hasLaid, Cond.selects RX8 yX8_hasLaid yX8_hasLaid, Cond.code yX8_hasLaid cX8_hasLaid 2 (some .boolean), Cond.methodLink RX8 168 yX8_letters, Cond.instanceMethod yX8_letters, Cond.selects RX8 yX8_letters yX8_letters, Cond.code yX8_letters cX8_letters 8 (some .int)]
def wsX8_odds_r2 : List Cond := [Cond.methodLink RX8 115 yX8_meantOf, Cond.instanceMethod yX8_meantOf, Cond.selects RX8 yX8_meantOf yX8_meantOf, Cond.code yX8_meantOf cX8_meantOf 7 (some .int), Cond.methodLink RX8 92 yX8_near, Cond.instanceMethod yX8_near, Cond.selects RX8 yX8_near yX8_near, Cond.code yX8_near cX8_near 3 (some .int), Cond.methodLink RX8 142 yX8_answers, Cond.instanceMethod yX8_answers, Cond.selects RX8 yX8_answers yX8_answers, Cond.code yX8_answers cX8_answers 4 (some .int)]
def wsX8_odds : List Cond := .code yX8_odds cX8_odds 11 (some .int) :: ((wsX8_odds_r1 ++ wsX8_odds_r2) ++ wsX80)
def wsX8_most : List Cond := .code yX8_most cX8_most 4 (some .int) :: ([.fieldLink RX8 16 "LastWordModel" "paper" "[I", .methodLink RX8 179 yX8_words, .instanceMethod yX8_words, .selects RX8 yX8_words yX8_words, .initialized RX8, .code yX8_words cX8_words 4 (some .int), .fieldLink RX8 19 "LastWordModel" "now" "[I", .methodLink RX8 96 yX8_at, .instanceMethod yX8_at, .selects RX8 yX8_at yX8_at, .code yX8_at cX8_at 3 (some .int)] ++ wsX80)
def wsX8_titles : List Cond := .code yX8_titles cX8_titles 5 (some .int) :: ([.methodLink RX8 98 yX8_isWriter, .instanceMethod yX8_isWriter, .selects RX8 yX8_isWriter yX8_isWriter, .initialized RX8, .code yX8_isWriter cX8_isWriter 2 (some .boolean), .fieldLink RX8 16 "LastWordModel" "paper" "[I", .methodLink RX8 42 yX8_in, .static yX8_in, .code yX8_in cX8_in 6 (some .boolean), .methodLink RX8 92 yX8_near, .instanceMethod yX8_near, .selects RX8 yX8_near yX8_near, .code yX8_near cX8_near 3 (some .int)] ++ wsX80)
def wsX8_rate_r1 : List Cond := [Cond.constantLong RX8 110 (5), Cond.constant RX8 182 (-1000000), Cond.fieldLink RX8 183 "LastWordModel" "trace" "J", Cond.constantLong RX8 187 (11), Cond.constantLong RX8 189 (101), Cond.constantLong RX8 191 (1011), Cond.constantLong RX8 193 (10101), Cond.constantLong RX8 195 (100001), Cond.fieldLink RX8 19 "LastWordModel" "now" "[I", Cond.methodLink RX8 42 yX8_in, Cond.static yX8_in, Cond.initialized RX8, Cond.code yX8_in cX8_in 6 (some .boolean), Cond.methodLink RX8 98 yX8_isWriter, Cond.instanceMethod yX8_isWriter, Cond.selects RX8 yX8_isWriter yX8_isWriter, Cond.code yX8_isWriter cX8_isWriter 2 (some .boolean), Cond.fieldLink RX8 16 "LastWordModel" "paper" "[I", Cond.methodLink RX8 119 yX8_pen, Cond.instanceMethod yX8_pen, Cond.selects RX8 yX8_pen yX8_pen, Cond.code yX8_pen cX8_pen 2 (some .int), Cond.methodLink RX8 103 yX8_owes, Cond.instanceMethod yX8_owes]
def wsX8_rate_r2 : List Cond := [Cond.selects RX8 yX8_owes yX8_owes, Cond.code yX8_owes cX8_owes 4 (some .int), Cond.methodLink RX8 96 yX8_at, Cond.instanceMethod yX8_at, Cond.selects RX8 yX8_at yX8_at, Cond.code yX8_at cX8_at 3 (some .int), Cond.methodLink RX8 179 yX8_words, Cond.instanceMethod yX8_words, Cond.selects RX8 yX8_words yX8_words, Cond.code yX8_words cX8_words 4 (some .int)]
def wsX8_rate : List Cond := .code yX8_rate cX8_rate 5 (some .int) :: ((wsX8_rate_r1 ++ wsX8_rate_r2) ++ wsX80)
def wsX8_trace : List Cond := .code yX8_trace cX8_trace 1 (some .long) :: ([.fieldLink RX8 183 "LastWordModel" "trace" "J"] ++ wsX80)
def wsX8_keep : List Cond := .code yX8_keep cX8_keep 3 (some .int) :: ([.fieldLink RX8 31 "LastWordModel" "kept" "[I", .fieldLink RX8 19 "LastWordModel" "now" "[I", .methodLink RX8 42 yX8_in, .static yX8_in, .initialized RX8, .code yX8_in cX8_in 6 (some .boolean)] ++ wsX80)
def wsX8_back : List Cond := .code yX8_back cX8_back 3 (some .int) :: ([.fieldLink RX8 31 "LastWordModel" "kept" "[I", .fieldLink RX8 19 "LastWordModel" "now" "[I", .fieldLink RX8 87 "LastWordModel" "undos" "I", .methodLink RX8 42 yX8_in, .static yX8_in, .initialized RX8, .code yX8_in cX8_in 6 (some .boolean)] ++ wsX80)
def wsX8_count : List Cond := .code yX8_count cX8_count 2 (some .int) :: ([.fieldLink RX8 16 "LastWordModel" "paper" "[I", .fieldLink RX8 84 "LastWordModel" "founds" "I", .fieldLink RX8 46 "LastWordModel" "size" "I"] ++ wsX80)
def wsJ9_min_7cf53 : List Cond := .code yJ9_min_7cf53 cJ9_min_7cf53 2 (some .int) :: ([])
end
section
theorem inJ6 : ∀ w ∈ wsJ60, w ∈ lw_tbl := by decide +kernel
theorem inJ9 : ∀ w ∈ wsJ90, w ∈ lw_tbl := by decide +kernel
theorem inJ10 : ∀ w ∈ wsJ100, w ∈ lw_tbl := by decide +kernel
theorem dX0_init_0 : decode cX0_init 0 = .ok (.aload_n 0, 1) := by decide +kernel
theorem dX0_init_1 : decode cX0_init 1 = .ok (.invokespecial 3, 3) := by decide +kernel
theorem dX0_init_4 : decode cX0_init 4 = .ok (.aload_n 0, 1) := by decide +kernel
theorem dX0_init_5 : decode cX0_init 5 = .ok (.bipush 6, 2) := by decide +kernel
theorem dX0_init_7 : decode cX0_init 7 = .ok (.newarray .int, 2) := by decide +kernel
theorem dX0_init_9 : decode cX0_init 9 = .ok (.putfield 9, 3) := by decide +kernel
theorem dX0_init_12 : decode cX0_init 12 = .ok (.aload_n 0, 1) := by decide +kernel
theorem dX0_init_13 : decode cX0_init 13 = .ok (.bipush 6, 2) := by decide +kernel
theorem dX0_init_15 : decode cX0_init 15 = .ok (.newarray .int, 2) := by decide +kernel
theorem dX0_init_17 : decode cX0_init 17 = .ok (.putfield 15, 3) := by decide +kernel
theorem dX0_init_20 : decode cX0_init 20 = .ok (.aload_n 0, 1) := by decide +kernel
theorem dX0_init_21 : decode cX0_init 21 = .ok (.bipush 6, 2) := by decide +kernel
theorem dX0_init_23 : decode cX0_init 23 = .ok (.newarray .int, 2) := by decide +kernel
theorem dX0_init_25 : decode cX0_init 25 = .ok (.putfield 18, 3) := by decide +kernel
theorem dX0_init_28 : decode cX0_init 28 = .ok (.aload_n 0, 1) := by decide +kernel
theorem dX0_init_29 : decode cX0_init 29 = .ok (.bipush 6, 2) := by decide +kernel
theorem dX0_init_31 : decode cX0_init 31 = .ok (.newarray .int, 2) := by decide +kernel
theorem dX0_init_33 : decode cX0_init 33 = .ok (.putfield 21, 3) := by decide +kernel
theorem dX0_init_36 : decode cX0_init 36 = .ok (.aload_n 0, 1) := by decide +kernel
theorem dX0_init_37 : decode cX0_init 37 = .ok (.bipush 6, 2) := by decide +kernel
theorem dX0_init_39 : decode cX0_init 39 = .ok (.newarray .int, 2) := by decide +kernel
theorem dX0_init_41 : decode cX0_init 41 = .ok (.putfield 24, 3) := by decide +kernel
theorem dX0_init_44 : decode cX0_init 44 = .ok (.aload_n 0, 1) := by decide +kernel
theorem dX0_init_45 : decode cX0_init 45 = .ok (.bipush 6, 2) := by decide +kernel
theorem dX0_init_47 : decode cX0_init 47 = .ok (.newarray .int, 2) := by decide +kernel
theorem dX0_init_49 : decode cX0_init 49 = .ok (.putfield 27, 3) := by decide +kernel
theorem dX0_init_52 : decode cX0_init 52 = .ok (.aload_n 0, 1) := by decide +kernel
theorem dX0_init_53 : decode cX0_init 53 = .ok (.bipush 6, 2) := by decide +kernel
theorem dX0_init_55 : decode cX0_init 55 = .ok (.newarray .int, 2) := by decide +kernel
theorem dX0_init_57 : decode cX0_init 57 = .ok (.putfield 30, 3) := by decide +kernel
theorem dX0_init_60 : decode cX0_init 60 = .ok (.return_, 1) := by decide +kernel
theorem dX0_copy_0 : decode cX0_copy 0 = .ok (.aload_n 0, 1) := by decide +kernel
theorem dX0_copy_1 : decode cX0_copy 1 = .ok (.aload_n 1, 1) := by decide +kernel
theorem dX0_copy_2 : decode cX0_copy 2 = .ok (.getfield 33, 3) := by decide +kernel
theorem dX0_copy_5 : decode cX0_copy 5 = .ok (.putfield 33, 3) := by decide +kernel
theorem dX0_copy_8 : decode cX0_copy 8 = .ok (.aload_n 0, 1) := by decide +kernel
theorem dX0_copy_9 : decode cX0_copy 9 = .ok (.aload_n 1, 1) := by decide +kernel
theorem dX0_copy_10 : decode cX0_copy 10 = .ok (.getfield 37, 3) := by decide +kernel
theorem dX0_copy_13 : decode cX0_copy 13 = .ok (.putfield 37, 3) := by decide +kernel
theorem dX0_copy_16 : decode cX0_copy 16 = .ok (.aload_n 0, 1) := by decide +kernel
theorem dX0_copy_17 : decode cX0_copy 17 = .ok (.aload_n 1, 1) := by decide +kernel
theorem dX0_copy_18 : decode cX0_copy 18 = .ok (.getfield 40, 3) := by decide +kernel
theorem dX0_copy_21 : decode cX0_copy 21 = .ok (.putfield 40, 3) := by decide +kernel
theorem dX0_copy_24 : decode cX0_copy 24 = .ok (.aload_n 0, 1) := by decide +kernel
theorem dX0_copy_25 : decode cX0_copy 25 = .ok (.aload_n 1, 1) := by decide +kernel
theorem dX0_copy_26 : decode cX0_copy 26 = .ok (.getfield 43, 3) := by decide +kernel
theorem dX0_copy_29 : decode cX0_copy 29 = .ok (.putfield 43, 3) := by decide +kernel
theorem dX0_copy_32 : decode cX0_copy 32 = .ok (.aload_n 1, 1) := by decide +kernel
theorem dX0_copy_33 : decode cX0_copy 33 = .ok (.getfield 9, 3) := by decide +kernel
theorem dX0_copy_36 : decode cX0_copy 36 = .ok (.iconst 0, 1) := by decide +kernel
theorem dX0_copy_37 : decode cX0_copy 37 = .ok (.aload_n 0, 1) := by decide +kernel
theorem dX0_copy_38 : decode cX0_copy 38 = .ok (.getfield 9, 3) := by decide +kernel
theorem dX0_copy_41 : decode cX0_copy 41 = .ok (.iconst 0, 1) := by decide +kernel
theorem dX0_copy_42 : decode cX0_copy 42 = .ok (.bipush 6, 2) := by decide +kernel
theorem dX0_copy_44 : decode cX0_copy 44 = .ok (.invokestatic 46, 3) := by decide +kernel
theorem dX0_copy_47 : decode cX0_copy 47 = .ok (.aload_n 1, 1) := by decide +kernel
theorem dX0_copy_48 : decode cX0_copy 48 = .ok (.getfield 15, 3) := by decide +kernel
theorem dX0_copy_51 : decode cX0_copy 51 = .ok (.iconst 0, 1) := by decide +kernel
theorem dX0_copy_52 : decode cX0_copy 52 = .ok (.aload_n 0, 1) := by decide +kernel
theorem dX0_copy_53 : decode cX0_copy 53 = .ok (.getfield 15, 3) := by decide +kernel
theorem dX0_copy_56 : decode cX0_copy 56 = .ok (.iconst 0, 1) := by decide +kernel
theorem dX0_copy_57 : decode cX0_copy 57 = .ok (.bipush 6, 2) := by decide +kernel
theorem dX0_copy_59 : decode cX0_copy 59 = .ok (.invokestatic 46, 3) := by decide +kernel
theorem dX0_copy_62 : decode cX0_copy 62 = .ok (.aload_n 1, 1) := by decide +kernel
theorem dX0_copy_63 : decode cX0_copy 63 = .ok (.getfield 18, 3) := by decide +kernel
theorem dX0_copy_66 : decode cX0_copy 66 = .ok (.iconst 0, 1) := by decide +kernel
theorem dX0_copy_67 : decode cX0_copy 67 = .ok (.aload_n 0, 1) := by decide +kernel
theorem dX0_copy_68 : decode cX0_copy 68 = .ok (.getfield 18, 3) := by decide +kernel
theorem dX0_copy_71 : decode cX0_copy 71 = .ok (.iconst 0, 1) := by decide +kernel
theorem dX0_copy_72 : decode cX0_copy 72 = .ok (.bipush 6, 2) := by decide +kernel
theorem dX0_copy_74 : decode cX0_copy 74 = .ok (.invokestatic 46, 3) := by decide +kernel
theorem dX0_copy_77 : decode cX0_copy 77 = .ok (.aload_n 1, 1) := by decide +kernel
theorem dX0_copy_78 : decode cX0_copy 78 = .ok (.getfield 21, 3) := by decide +kernel
theorem dX0_copy_81 : decode cX0_copy 81 = .ok (.iconst 0, 1) := by decide +kernel
theorem dX0_copy_82 : decode cX0_copy 82 = .ok (.aload_n 0, 1) := by decide +kernel
theorem dX0_copy_83 : decode cX0_copy 83 = .ok (.getfield 21, 3) := by decide +kernel
theorem dX0_copy_86 : decode cX0_copy 86 = .ok (.iconst 0, 1) := by decide +kernel
theorem dX0_copy_87 : decode cX0_copy 87 = .ok (.bipush 6, 2) := by decide +kernel
theorem dX0_copy_89 : decode cX0_copy 89 = .ok (.invokestatic 46, 3) := by decide +kernel
theorem dX0_copy_92 : decode cX0_copy 92 = .ok (.aload_n 1, 1) := by decide +kernel
theorem dX0_copy_93 : decode cX0_copy 93 = .ok (.getfield 24, 3) := by decide +kernel
theorem dX0_copy_96 : decode cX0_copy 96 = .ok (.iconst 0, 1) := by decide +kernel
theorem dX0_copy_97 : decode cX0_copy 97 = .ok (.aload_n 0, 1) := by decide +kernel
theorem dX0_copy_98 : decode cX0_copy 98 = .ok (.getfield 24, 3) := by decide +kernel
theorem dX0_copy_101 : decode cX0_copy 101 = .ok (.iconst 0, 1) := by decide +kernel
theorem dX0_copy_102 : decode cX0_copy 102 = .ok (.bipush 6, 2) := by decide +kernel
theorem dX0_copy_104 : decode cX0_copy 104 = .ok (.invokestatic 46, 3) := by decide +kernel
theorem dX0_copy_107 : decode cX0_copy 107 = .ok (.aload_n 1, 1) := by decide +kernel
theorem dX0_copy_108 : decode cX0_copy 108 = .ok (.getfield 27, 3) := by decide +kernel
theorem dX0_copy_111 : decode cX0_copy 111 = .ok (.iconst 0, 1) := by decide +kernel
theorem dX0_copy_112 : decode cX0_copy 112 = .ok (.aload_n 0, 1) := by decide +kernel
theorem dX0_copy_113 : decode cX0_copy 113 = .ok (.getfield 27, 3) := by decide +kernel
theorem dX0_copy_116 : decode cX0_copy 116 = .ok (.iconst 0, 1) := by decide +kernel
theorem dX0_copy_117 : decode cX0_copy 117 = .ok (.bipush 6, 2) := by decide +kernel
theorem dX0_copy_119 : decode cX0_copy 119 = .ok (.invokestatic 46, 3) := by decide +kernel
theorem dX0_copy_122 : decode cX0_copy 122 = .ok (.aload_n 1, 1) := by decide +kernel
theorem dX0_copy_123 : decode cX0_copy 123 = .ok (.getfield 30, 3) := by decide +kernel
theorem dX0_copy_126 : decode cX0_copy 126 = .ok (.iconst 0, 1) := by decide +kernel
theorem dX0_copy_127 : decode cX0_copy 127 = .ok (.aload_n 0, 1) := by decide +kernel
theorem dX0_copy_128 : decode cX0_copy 128 = .ok (.getfield 30, 3) := by decide +kernel
theorem dX0_copy_131 : decode cX0_copy 131 = .ok (.iconst 0, 1) := by decide +kernel
theorem dX0_copy_132 : decode cX0_copy 132 = .ok (.bipush 6, 2) := by decide +kernel
theorem dX0_copy_134 : decode cX0_copy 134 = .ok (.invokestatic 46, 3) := by decide +kernel
theorem dX0_copy_137 : decode cX0_copy 137 = .ok (.return_, 1) := by decide +kernel
theorem dX0_beginAnew_0 : decode cX0_beginAnew 0 = .ok (.aload_n 0, 1) := by decide +kernel
theorem dX0_beginAnew_1 : decode cX0_beginAnew 1 = .ok (.iconst 0, 1) := by decide +kernel
theorem dX0_beginAnew_2 : decode cX0_beginAnew 2 = .ok (.putfield 33, 3) := by decide +kernel
theorem dX0_beginAnew_5 : decode cX0_beginAnew 5 = .ok (.aload_n 0, 1) := by decide +kernel
theorem dX0_beginAnew_6 : decode cX0_beginAnew 6 = .ok (.iconst 0, 1) := by decide +kernel
theorem dX0_beginAnew_7 : decode cX0_beginAnew 7 = .ok (.putfield 37, 3) := by decide +kernel
theorem dX0_beginAnew_10 : decode cX0_beginAnew 10 = .ok (.aload_n 0, 1) := by decide +kernel
theorem dX0_beginAnew_11 : decode cX0_beginAnew 11 = .ok (.iconst 0, 1) := by decide +kernel
theorem dX0_beginAnew_12 : decode cX0_beginAnew 12 = .ok (.putfield 40, 3) := by decide +kernel
theorem dX0_beginAnew_15 : decode cX0_beginAnew 15 = .ok (.aload_n 0, 1) := by decide +kernel
theorem dX0_beginAnew_16 : decode cX0_beginAnew 16 = .ok (.iconst 0, 1) := by decide +kernel
theorem dX0_beginAnew_17 : decode cX0_beginAnew 17 = .ok (.putfield 43, 3) := by decide +kernel
theorem dX0_beginAnew_20 : decode cX0_beginAnew 20 = .ok (.iconst 0, 1) := by decide +kernel
theorem dX0_beginAnew_21 : decode cX0_beginAnew 21 = .ok (.istore_n 1, 1) := by decide +kernel
theorem dX0_beginAnew_22 : decode cX0_beginAnew 22 = .ok (.iload_n 1, 1) := by decide +kernel
theorem dX0_beginAnew_23 : decode cX0_beginAnew 23 = .ok (.bipush 6, 2) := by decide +kernel
theorem dX0_beginAnew_25 : decode cX0_beginAnew 25 = .ok (.if_icmp .ge 16, 3) := by decide +kernel
theorem dX0_beginAnew_28 : decode cX0_beginAnew 28 = .ok (.aload_n 0, 1) := by decide +kernel
theorem dX0_beginAnew_29 : decode cX0_beginAnew 29 = .ok (.getfield 9, 3) := by decide +kernel
theorem dX0_beginAnew_32 : decode cX0_beginAnew 32 = .ok (.iload_n 1, 1) := by decide +kernel
theorem dX0_beginAnew_33 : decode cX0_beginAnew 33 = .ok (.iconst 0, 1) := by decide +kernel
theorem dX0_beginAnew_34 : decode cX0_beginAnew 34 = .ok (.iastore, 1) := by decide +kernel
theorem dX0_beginAnew_35 : decode cX0_beginAnew 35 = .ok (.iinc 1 1, 3) := by decide +kernel
theorem dX0_beginAnew_38 : decode cX0_beginAnew 38 = .ok (.goto (-16), 3) := by decide +kernel
theorem dX0_beginAnew_41 : decode cX0_beginAnew 41 = .ok (.return_, 1) := by decide +kernel
theorem dX0_hasQuarrel_0 : decode cX0_hasQuarrel 0 = .ok (.iload_n 1, 1) := by decide +kernel
theorem dX0_hasQuarrel_1 : decode cX0_hasQuarrel 1 = .ok (.ifCond .lt 15, 3) := by decide +kernel
theorem dX0_hasQuarrel_4 : decode cX0_hasQuarrel 4 = .ok (.iload_n 1, 1) := by decide +kernel
theorem dX0_hasQuarrel_5 : decode cX0_hasQuarrel 5 = .ok (.aload_n 0, 1) := by decide +kernel
theorem dX0_hasQuarrel_6 : decode cX0_hasQuarrel 6 = .ok (.getfield 40, 3) := by decide +kernel
theorem dX0_hasQuarrel_9 : decode cX0_hasQuarrel 9 = .ok (.if_icmp .ge 7, 3) := by decide +kernel
theorem dX0_hasQuarrel_12 : decode cX0_hasQuarrel 12 = .ok (.iconst 1, 1) := by decide +kernel
theorem dX0_hasQuarrel_13 : decode cX0_hasQuarrel 13 = .ok (.goto 4, 3) := by decide +kernel
theorem dX0_hasQuarrel_16 : decode cX0_hasQuarrel 16 = .ok (.iconst 0, 1) := by decide +kernel
theorem dX0_hasQuarrel_17 : decode cX0_hasQuarrel 17 = .ok (.ireturn, 1) := by decide +kernel
theorem dX0_hasLaid_0 : decode cX0_hasLaid 0 = .ok (.aload_n 0, 1) := by decide +kernel
theorem dX0_hasLaid_1 : decode cX0_hasLaid 1 = .ok (.getfield 43, 3) := by decide +kernel
theorem dX0_hasLaid_4 : decode cX0_hasLaid 4 = .ok (.iload_n 1, 1) := by decide +kernel
theorem dX0_hasLaid_5 : decode cX0_hasLaid 5 = .ok (.ishr, 1) := by decide +kernel
theorem dX0_hasLaid_6 : decode cX0_hasLaid 6 = .ok (.iconst 1, 1) := by decide +kernel
theorem dX0_hasLaid_7 : decode cX0_hasLaid 7 = .ok (.iand, 1) := by decide +kernel
theorem dX0_hasLaid_8 : decode cX0_hasLaid 8 = .ok (.iconst 1, 1) := by decide +kernel
theorem dX0_hasLaid_9 : decode cX0_hasLaid 9 = .ok (.if_icmp .ne 7, 3) := by decide +kernel
theorem dX0_hasLaid_12 : decode cX0_hasLaid 12 = .ok (.iconst 1, 1) := by decide +kernel
theorem dX0_hasLaid_13 : decode cX0_hasLaid 13 = .ok (.goto 4, 3) := by decide +kernel
theorem dX0_hasLaid_16 : decode cX0_hasLaid 16 = .ok (.iconst 0, 1) := by decide +kernel
theorem dX0_hasLaid_17 : decode cX0_hasLaid 17 = .ok (.ireturn, 1) := by decide +kernel
theorem dX0_owedBits_0 : decode cX0_owedBits 0 = .ok (.iconst 0, 1) := by decide +kernel
theorem dX0_owedBits_1 : decode cX0_owedBits 1 = .ok (.istore_n 2, 1) := by decide +kernel
theorem dX0_owedBits_2 : decode cX0_owedBits 2 = .ok (.iconst 0, 1) := by decide +kernel
theorem dX0_owedBits_3 : decode cX0_owedBits 3 = .ok (.istore_n 3, 1) := by decide +kernel
theorem dX0_owedBits_4 : decode cX0_owedBits 4 = .ok (.iload_n 3, 1) := by decide +kernel
theorem dX0_owedBits_5 : decode cX0_owedBits 5 = .ok (.aload_n 0, 1) := by decide +kernel
theorem dX0_owedBits_6 : decode cX0_owedBits 6 = .ok (.getfield 40, 3) := by decide +kernel
theorem dX0_owedBits_9 : decode cX0_owedBits 9 = .ok (.if_icmp .ge 25, 3) := by decide +kernel
theorem dX0_owedBits_12 : decode cX0_owedBits 12 = .ok (.aload_n 0, 1) := by decide +kernel
theorem dX0_owedBits_13 : decode cX0_owedBits 13 = .ok (.getfield 24, 3) := by decide +kernel
theorem dX0_owedBits_16 : decode cX0_owedBits 16 = .ok (.iload_n 3, 1) := by decide +kernel
theorem dX0_owedBits_17 : decode cX0_owedBits 17 = .ok (.iaload, 1) := by decide +kernel
theorem dX0_owedBits_18 : decode cX0_owedBits 18 = .ok (.iload_n 1, 1) := by decide +kernel
theorem dX0_owedBits_19 : decode cX0_owedBits 19 = .ok (.if_icmp .ne 9, 3) := by decide +kernel
theorem dX0_owedBits_22 : decode cX0_owedBits 22 = .ok (.iload_n 2, 1) := by decide +kernel
theorem dX0_owedBits_23 : decode cX0_owedBits 23 = .ok (.iconst 1, 1) := by decide +kernel
theorem dX0_owedBits_24 : decode cX0_owedBits 24 = .ok (.iload_n 3, 1) := by decide +kernel
theorem dX0_owedBits_25 : decode cX0_owedBits 25 = .ok (.ishl, 1) := by decide +kernel
theorem dX0_owedBits_26 : decode cX0_owedBits 26 = .ok (.ior, 1) := by decide +kernel
theorem dX0_owedBits_27 : decode cX0_owedBits 27 = .ok (.istore_n 2, 1) := by decide +kernel
theorem dX0_owedBits_28 : decode cX0_owedBits 28 = .ok (.iinc 3 1, 3) := by decide +kernel
theorem dX0_owedBits_31 : decode cX0_owedBits 31 = .ok (.goto (-27), 3) := by decide +kernel
theorem dX0_owedBits_34 : decode cX0_owedBits 34 = .ok (.iload_n 2, 1) := by decide +kernel
theorem dX0_owedBits_35 : decode cX0_owedBits 35 = .ok (.ireturn, 1) := by decide +kernel
set_option maxRecDepth 20000 in
theorem ggX0_owedBy_X0_owedBits : GoodIn wsX0_owedBy wsX0_owedBits := goodIn_r _ [5, 6, 7, 15, 16, 17, 18, 19, 20, 21, 22, 23, 24, 25] (by decide +kernel) (by decide +kernel)
set_option maxRecDepth 20000 in
theorem gX0_owedBy_X0_owedBits : GoodIn wsX0_owedBy (wsV RX0 52 RX0 yX0_owedBits wsX0_owedBits) := goodIn_app (goodIn_of _ (by decide +kernel)) ggX0_owedBy_X0_owedBits
set_option maxRecDepth 20000 in
theorem ggX0_owedBy_J6_bitCount_0f7a4 : GoodIn wsX0_owedBy wsJ6_bitCount_0f7a4 := goodIn_r _ [11, 12, 13, 14] (by decide +kernel) (by decide +kernel)
set_option maxRecDepth 20000 in
theorem gX0_owedBy_J6_bitCount_0f7a4 : GoodIn wsX0_owedBy (va_wsS RX0 56 yJ6_bitCount_0f7a4 wsJ6_bitCount_0f7a4) := goodIn_app (goodIn_of _ (by decide +kernel)) ggX0_owedBy_J6_bitCount_0f7a4
theorem dX0_owedBy_0 : decode cX0_owedBy 0 = .ok (.aload_n 0, 1) := by decide +kernel
theorem dX0_owedBy_1 : decode cX0_owedBy 1 = .ok (.iload_n 1, 1) := by decide +kernel
theorem dX0_owedBy_2 : decode cX0_owedBy 2 = .ok (.invokevirtual 52, 3) := by decide +kernel
theorem dX0_owedBy_5 : decode cX0_owedBy 5 = .ok (.invokestatic 56, 3) := by decide +kernel
theorem dX0_owedBy_8 : decode cX0_owedBy 8 = .ok (.ireturn, 1) := by decide +kernel
set_option maxRecDepth 20000 in
theorem ggX0_closedBits_X0_owedBits : GoodIn wsX0_closedBits wsX0_owedBits := goodIn_r _ [5, 6, 7, 8, 9, 10, 11, 12, 13, 14, 15, 16, 17, 18] (by decide +kernel) (by decide +kernel)
set_option maxRecDepth 20000 in
theorem gX0_closedBits_X0_owedBits : GoodIn wsX0_closedBits (wsV RX0 52 RX0 yX0_owedBits wsX0_owedBits) := goodIn_app (goodIn_of _ (by decide +kernel)) ggX0_closedBits_X0_owedBits
theorem dX0_closedBits_0 : decode cX0_closedBits 0 = .ok (.aload_n 0, 1) := by decide +kernel
theorem dX0_closedBits_1 : decode cX0_closedBits 1 = .ok (.bipush (-9), 2) := by decide +kernel
theorem dX0_closedBits_3 : decode cX0_closedBits 3 = .ok (.invokevirtual 52, 3) := by decide +kernel
theorem dX0_closedBits_6 : decode cX0_closedBits 6 = .ok (.ireturn, 1) := by decide +kernel
theorem dX0_lastWordsOf_0 : decode cX0_lastWordsOf 0 = .ok (.iconst 0, 1) := by decide +kernel
theorem dX0_lastWordsOf_1 : decode cX0_lastWordsOf 1 = .ok (.istore_n 2, 1) := by decide +kernel
theorem dX0_lastWordsOf_2 : decode cX0_lastWordsOf 2 = .ok (.iconst 0, 1) := by decide +kernel
theorem dX0_lastWordsOf_3 : decode cX0_lastWordsOf 3 = .ok (.istore_n 3, 1) := by decide +kernel
theorem dX0_lastWordsOf_4 : decode cX0_lastWordsOf 4 = .ok (.iload_n 3, 1) := by decide +kernel
theorem dX0_lastWordsOf_5 : decode cX0_lastWordsOf 5 = .ok (.aload_n 0, 1) := by decide +kernel
theorem dX0_lastWordsOf_6 : decode cX0_lastWordsOf 6 = .ok (.getfield 40, 3) := by decide +kernel
theorem dX0_lastWordsOf_9 : decode cX0_lastWordsOf 9 = .ok (.if_icmp .ge 33, 3) := by decide +kernel
theorem dX0_lastWordsOf_12 : decode cX0_lastWordsOf 12 = .ok (.aload_n 0, 1) := by decide +kernel
theorem dX0_lastWordsOf_13 : decode cX0_lastWordsOf 13 = .ok (.getfield 24, 3) := by decide +kernel
theorem dX0_lastWordsOf_16 : decode cX0_lastWordsOf 16 = .ok (.iload_n 3, 1) := by decide +kernel
theorem dX0_lastWordsOf_17 : decode cX0_lastWordsOf 17 = .ok (.iaload, 1) := by decide +kernel
theorem dX0_lastWordsOf_18 : decode cX0_lastWordsOf 18 = .ok (.bipush (-9), 2) := by decide +kernel
theorem dX0_lastWordsOf_20 : decode cX0_lastWordsOf 20 = .ok (.if_icmp .ne 16, 3) := by decide +kernel
theorem dX0_lastWordsOf_23 : decode cX0_lastWordsOf 23 = .ok (.aload_n 0, 1) := by decide +kernel
theorem dX0_lastWordsOf_24 : decode cX0_lastWordsOf 24 = .ok (.getfield 15, 3) := by decide +kernel
theorem dX0_lastWordsOf_27 : decode cX0_lastWordsOf 27 = .ok (.iload_n 3, 1) := by decide +kernel
theorem dX0_lastWordsOf_28 : decode cX0_lastWordsOf 28 = .ok (.iaload, 1) := by decide +kernel
theorem dX0_lastWordsOf_29 : decode cX0_lastWordsOf 29 = .ok (.iload_n 1, 1) := by decide +kernel
theorem dX0_lastWordsOf_30 : decode cX0_lastWordsOf 30 = .ok (.if_icmp .ne 6, 3) := by decide +kernel
theorem dX0_lastWordsOf_33 : decode cX0_lastWordsOf 33 = .ok (.iinc 2 1, 3) := by decide +kernel
theorem dX0_lastWordsOf_36 : decode cX0_lastWordsOf 36 = .ok (.iinc 3 1, 3) := by decide +kernel
theorem dX0_lastWordsOf_39 : decode cX0_lastWordsOf 39 = .ok (.goto (-35), 3) := by decide +kernel
theorem dX0_lastWordsOf_42 : decode cX0_lastWordsOf 42 = .ok (.iload_n 2, 1) := by decide +kernel
theorem dX0_lastWordsOf_43 : decode cX0_lastWordsOf 43 = .ok (.ireturn, 1) := by decide +kernel
set_option maxRecDepth 20000 in
theorem ggX0_begin_X0_print : GoodIn wsX0_begin wsX0_print := goodIn_r _ [6, 7, 8, 9, 10, 11, 12, 13, 14, 15, 5, 16, 17, 18, 19, 20, 21, 22, 23, 24, 25, 26, 27, 28, 29, 30, 31, 32, 33, 34, 35, 36, 37, 38, 39, 40, 41, 42, 43] (by decide +kernel) (by decide +kernel)
set_option maxRecDepth 20000 in
theorem gX0_begin_X0_print : GoodIn wsX0_begin (wsV RX0 61 RX0 yX0_print wsX0_print) := goodIn_app (goodIn_of _ (by decide +kernel)) ggX0_begin_X0_print
theorem dX0_begin_0 : decode cX0_begin 0 = .ok (.aload_n 0, 1) := by decide +kernel
theorem dX0_begin_1 : decode cX0_begin 1 = .ok (.getfield 40, 3) := by decide +kernel
theorem dX0_begin_4 : decode cX0_begin 4 = .ok (.istore 4, 2) := by decide +kernel
theorem dX0_begin_6 : decode cX0_begin 6 = .ok (.aload_n 0, 1) := by decide +kernel
theorem dX0_begin_7 : decode cX0_begin 7 = .ok (.dup, 1) := by decide +kernel
theorem dX0_begin_8 : decode cX0_begin 8 = .ok (.getfield 40, 3) := by decide +kernel
theorem dX0_begin_11 : decode cX0_begin 11 = .ok (.iconst 1, 1) := by decide +kernel
theorem dX0_begin_12 : decode cX0_begin 12 = .ok (.iadd, 1) := by decide +kernel
theorem dX0_begin_13 : decode cX0_begin 13 = .ok (.putfield 40, 3) := by decide +kernel
theorem dX0_begin_16 : decode cX0_begin 16 = .ok (.aload_n 0, 1) := by decide +kernel
theorem dX0_begin_17 : decode cX0_begin 17 = .ok (.aload_n 1, 1) := by decide +kernel
theorem dX0_begin_18 : decode cX0_begin 18 = .ok (.iload 4, 2) := by decide +kernel
theorem dX0_begin_20 : decode cX0_begin 20 = .ok (.iload_n 2, 1) := by decide +kernel
theorem dX0_begin_21 : decode cX0_begin 21 = .ok (.iload_n 3, 1) := by decide +kernel
theorem dX0_begin_22 : decode cX0_begin 22 = .ok (.invokevirtual 61, 3) := by decide +kernel
theorem dX0_begin_25 : decode cX0_begin 25 = .ok (.iload 4, 2) := by decide +kernel
theorem dX0_begin_27 : decode cX0_begin 27 = .ok (.ireturn, 1) := by decide +kernel
set_option maxRecDepth 20000 in
theorem ggX0_layDown_X0_owedBits : GoodIn wsX0_layDown wsX0_owedBits := goodIn_r _ [7, 2, 8, 31, 32, 33, 34, 35, 36, 37, 38, 39, 40, 41] (by decide +kernel) (by decide +kernel)
set_option maxRecDepth 20000 in
theorem gX0_layDown_X0_owedBits : GoodIn wsX0_layDown (wsV RX0 52 RX0 yX0_owedBits wsX0_owedBits) := goodIn_app (goodIn_of _ (by decide +kernel)) ggX0_layDown_X0_owedBits
set_option maxRecDepth 20000 in
theorem ggX0_layDown_X0_charge : GoodIn wsX0_layDown wsX0_charge := goodIn_r _ [12, 13, 14, 1, 8, 15, 16, 17, 18, 19, 20, 21, 22, 23, 31, 32, 33, 34, 35, 36, 37, 38, 39, 40, 41, 42, 43, 44, 45, 46] (by decide +kernel) (by decide +kernel)
set_option maxRecDepth 20000 in
theorem gX0_layDown_X0_charge : GoodIn wsX0_layDown (wsV RX0 65 RX0 yX0_charge wsX0_charge) := goodIn_app (goodIn_of _ (by decide +kernel)) ggX0_layDown_X0_charge
set_option maxRecDepth 20000 in
theorem ggX0_layDown_J6_bitCount_0f7a4 : GoodIn wsX0_layDown wsJ6_bitCount_0f7a4 := goodIn_r _ [27, 28, 29, 30] (by decide +kernel) (by decide +kernel)
set_option maxRecDepth 20000 in
theorem gX0_layDown_J6_bitCount_0f7a4 : GoodIn wsX0_layDown (va_wsS RX0 56 yJ6_bitCount_0f7a4 wsJ6_bitCount_0f7a4) := goodIn_app (goodIn_of _ (by decide +kernel)) ggX0_layDown_J6_bitCount_0f7a4
theorem dX0_layDown_0 : decode cX0_layDown 0 = .ok (.aload_n 0, 1) := by decide +kernel
theorem dX0_layDown_1 : decode cX0_layDown 1 = .ok (.iload_n 2, 1) := by decide +kernel
theorem dX0_layDown_2 : decode cX0_layDown 2 = .ok (.invokevirtual 52, 3) := by decide +kernel
theorem dX0_layDown_5 : decode cX0_layDown 5 = .ok (.istore_n 3, 1) := by decide +kernel
theorem dX0_layDown_6 : decode cX0_layDown 6 = .ok (.aload_n 0, 1) := by decide +kernel
theorem dX0_layDown_7 : decode cX0_layDown 7 = .ok (.dup, 1) := by decide +kernel
theorem dX0_layDown_8 : decode cX0_layDown 8 = .ok (.getfield 43, 3) := by decide +kernel
theorem dX0_layDown_11 : decode cX0_layDown 11 = .ok (.iconst 1, 1) := by decide +kernel
theorem dX0_layDown_12 : decode cX0_layDown 12 = .ok (.iload_n 2, 1) := by decide +kernel
theorem dX0_layDown_13 : decode cX0_layDown 13 = .ok (.ishl, 1) := by decide +kernel
theorem dX0_layDown_14 : decode cX0_layDown 14 = .ok (.ior, 1) := by decide +kernel
theorem dX0_layDown_15 : decode cX0_layDown 15 = .ok (.putfield 43, 3) := by decide +kernel
theorem dX0_layDown_18 : decode cX0_layDown 18 = .ok (.iconst 0, 1) := by decide +kernel
theorem dX0_layDown_19 : decode cX0_layDown 19 = .ok (.istore 4, 2) := by decide +kernel
theorem dX0_layDown_21 : decode cX0_layDown 21 = .ok (.iload 4, 2) := by decide +kernel
theorem dX0_layDown_23 : decode cX0_layDown 23 = .ok (.aload_n 0, 1) := by decide +kernel
theorem dX0_layDown_24 : decode cX0_layDown 24 = .ok (.getfield 40, 3) := by decide +kernel
theorem dX0_layDown_27 : decode cX0_layDown 27 = .ok (.if_icmp .ge 26, 3) := by decide +kernel
theorem dX0_layDown_30 : decode cX0_layDown 30 = .ok (.iload_n 3, 1) := by decide +kernel
theorem dX0_layDown_31 : decode cX0_layDown 31 = .ok (.iload 4, 2) := by decide +kernel
theorem dX0_layDown_33 : decode cX0_layDown 33 = .ok (.ishr, 1) := by decide +kernel
theorem dX0_layDown_34 : decode cX0_layDown 34 = .ok (.iconst 1, 1) := by decide +kernel
theorem dX0_layDown_35 : decode cX0_layDown 35 = .ok (.iand, 1) := by decide +kernel
theorem dX0_layDown_36 : decode cX0_layDown 36 = .ok (.iconst 1, 1) := by decide +kernel
theorem dX0_layDown_37 : decode cX0_layDown 37 = .ok (.if_icmp .ne 10, 3) := by decide +kernel
theorem dX0_layDown_40 : decode cX0_layDown 40 = .ok (.aload_n 0, 1) := by decide +kernel
theorem dX0_layDown_41 : decode cX0_layDown 41 = .ok (.aload_n 1, 1) := by decide +kernel
theorem dX0_layDown_42 : decode cX0_layDown 42 = .ok (.iload 4, 2) := by decide +kernel
theorem dX0_layDown_44 : decode cX0_layDown 44 = .ok (.invokevirtual 65, 3) := by decide +kernel
theorem dX0_layDown_47 : decode cX0_layDown 47 = .ok (.iinc 4 1, 3) := by decide +kernel
theorem dX0_layDown_50 : decode cX0_layDown 50 = .ok (.goto (-29), 3) := by decide +kernel
theorem dX0_layDown_53 : decode cX0_layDown 53 = .ok (.iload_n 3, 1) := by decide +kernel
theorem dX0_layDown_54 : decode cX0_layDown 54 = .ok (.invokestatic 56, 3) := by decide +kernel
theorem dX0_layDown_57 : decode cX0_layDown 57 = .ok (.ireturn, 1) := by decide +kernel
set_option maxRecDepth 20000 in
theorem ggX0_passDay_X0_onDeskOf : GoodIn wsX0_passDay wsX0_onDeskOf := goodIn_r _ [14, 4, 5, 15, 49, 50, 51, 52, 53, 54, 55, 56, 57, 58, 59] (by decide +kernel) (by decide +kernel)
set_option maxRecDepth 20000 in
theorem gX0_passDay_X0_onDeskOf : GoodIn wsX0_passDay (wsV RX0 74 RX0 yX0_onDeskOf wsX0_onDeskOf) := goodIn_app (goodIn_of _ (by decide +kernel)) ggX0_passDay_X0_onDeskOf
set_option maxRecDepth 20000 in
theorem ggX0_passDay_X5_answerOn : GoodIn wsX0_passDay wsX5_answerOn := goodIn_r _ [20, 21, 44, 45, 46, 47, 48] (by decide +kernel) (by decide +kernel)
set_option maxRecDepth 20000 in
theorem gX0_passDay_X5_answerOn : GoodIn wsX0_passDay (wsV RX0 77 RX5 yX5_answerOn wsX5_answerOn) := goodIn_app (goodIn_of _ (by decide +kernel)) ggX0_passDay_X5_answerOn
set_option maxRecDepth 20000 in
theorem ggX0_passDay_X0_print : GoodIn wsX0_passDay wsX0_print := goodIn_r _ [25, 26, 6, 15, 3, 8, 27, 28, 29, 30, 13, 31, 32, 5, 2, 33, 34, 35, 36, 19, 37, 38, 39, 49, 50, 51, 52, 53, 54, 55, 56, 57, 58, 59, 44, 45, 46, 47, 48] (by decide +kernel) (by decide +kernel)
set_option maxRecDepth 20000 in
theorem gX0_passDay_X0_print : GoodIn wsX0_passDay (wsV RX0 61 RX0 yX0_print wsX0_print) := goodIn_app (goodIn_of _ (by decide +kernel)) ggX0_passDay_X0_print
set_option maxRecDepth 20000 in
theorem ggX0_passDay_X0_turnsLate : GoodIn wsX0_passDay wsX0_turnsLate := goodIn_r _ [43, 3, 15, 49, 50, 51, 52, 53, 54, 55, 56, 57, 58, 59] (by decide +kernel) (by decide +kernel)
set_option maxRecDepth 20000 in
theorem gX0_passDay_X0_turnsLate : GoodIn wsX0_passDay (wsV RX0 84 RX0 yX0_turnsLate wsX0_turnsLate) := goodIn_app (goodIn_of _ (by decide +kernel)) ggX0_passDay_X0_turnsLate
theorem dX0_passDay_0 : decode cX0_passDay 0 = .ok (.iconst 0, 1) := by decide +kernel
theorem dX0_passDay_1 : decode cX0_passDay 1 = .ok (.istore_n 2, 1) := by decide +kernel
theorem dX0_passDay_2 : decode cX0_passDay 2 = .ok (.iload_n 2, 1) := by decide +kernel
theorem dX0_passDay_3 : decode cX0_passDay 3 = .ok (.aload_n 1, 1) := by decide +kernel
theorem dX0_passDay_4 : decode cX0_passDay 4 = .ok (.getfield 69, 3) := by decide +kernel
theorem dX0_passDay_7 : decode cX0_passDay 7 = .ok (.if_icmp .ge 31, 3) := by decide +kernel
theorem dX0_passDay_10 : decode cX0_passDay 10 = .ok (.aload_n 0, 1) := by decide +kernel
theorem dX0_passDay_11 : decode cX0_passDay 11 = .ok (.iload_n 2, 1) := by decide +kernel
theorem dX0_passDay_12 : decode cX0_passDay 12 = .ok (.invokevirtual 74, 3) := by decide +kernel
theorem dX0_passDay_15 : decode cX0_passDay 15 = .ok (.istore_n 3, 1) := by decide +kernel
theorem dX0_passDay_16 : decode cX0_passDay 16 = .ok (.iload_n 3, 1) := by decide +kernel
theorem dX0_passDay_17 : decode cX0_passDay 17 = .ok (.bipush (-9), 2) := by decide +kernel
theorem dX0_passDay_19 : decode cX0_passDay 19 = .ok (.if_icmp .eq 13, 3) := by decide +kernel
theorem dX0_passDay_22 : decode cX0_passDay 22 = .ok (.aload_n 0, 1) := by decide +kernel
theorem dX0_passDay_23 : decode cX0_passDay 23 = .ok (.getfield 27, 3) := by decide +kernel
theorem dX0_passDay_26 : decode cX0_passDay 26 = .ok (.iload_n 3, 1) := by decide +kernel
theorem dX0_passDay_27 : decode cX0_passDay 27 = .ok (.dup2, 1) := by decide +kernel
theorem dX0_passDay_28 : decode cX0_passDay 28 = .ok (.iaload, 1) := by decide +kernel
theorem dX0_passDay_29 : decode cX0_passDay 29 = .ok (.iconst 1, 1) := by decide +kernel
theorem dX0_passDay_30 : decode cX0_passDay 30 = .ok (.isub, 1) := by decide +kernel
theorem dX0_passDay_31 : decode cX0_passDay 31 = .ok (.iastore, 1) := by decide +kernel
theorem dX0_passDay_32 : decode cX0_passDay 32 = .ok (.iinc 2 1, 3) := by decide +kernel
theorem dX0_passDay_35 : decode cX0_passDay 35 = .ok (.goto (-33), 3) := by decide +kernel
theorem dX0_passDay_38 : decode cX0_passDay 38 = .ok (.aload_n 0, 1) := by decide +kernel
theorem dX0_passDay_39 : decode cX0_passDay 39 = .ok (.dup, 1) := by decide +kernel
theorem dX0_passDay_40 : decode cX0_passDay 40 = .ok (.getfield 33, 3) := by decide +kernel
theorem dX0_passDay_43 : decode cX0_passDay 43 = .ok (.iconst 1, 1) := by decide +kernel
theorem dX0_passDay_44 : decode cX0_passDay 44 = .ok (.iadd, 1) := by decide +kernel
theorem dX0_passDay_45 : decode cX0_passDay 45 = .ok (.putfield 33, 3) := by decide +kernel
theorem dX0_passDay_48 : decode cX0_passDay 48 = .ok (.iconst 0, 1) := by decide +kernel
theorem dX0_passDay_49 : decode cX0_passDay 49 = .ok (.istore_n 2, 1) := by decide +kernel
theorem dX0_passDay_50 : decode cX0_passDay 50 = .ok (.iconst 0, 1) := by decide +kernel
theorem dX0_passDay_51 : decode cX0_passDay 51 = .ok (.istore_n 3, 1) := by decide +kernel
theorem dX0_passDay_52 : decode cX0_passDay 52 = .ok (.iload_n 3, 1) := by decide +kernel
theorem dX0_passDay_53 : decode cX0_passDay 53 = .ok (.aload_n 0, 1) := by decide +kernel
theorem dX0_passDay_54 : decode cX0_passDay 54 = .ok (.getfield 40, 3) := by decide +kernel
theorem dX0_passDay_57 : decode cX0_passDay 57 = .ok (.if_icmp .ge 92, 3) := by decide +kernel
theorem dX0_passDay_60 : decode cX0_passDay 60 = .ok (.aload_n 0, 1) := by decide +kernel
theorem dX0_passDay_61 : decode cX0_passDay 61 = .ok (.getfield 24, 3) := by decide +kernel
theorem dX0_passDay_64 : decode cX0_passDay 64 = .ok (.iload_n 3, 1) := by decide +kernel
theorem dX0_passDay_65 : decode cX0_passDay 65 = .ok (.iaload, 1) := by decide +kernel
theorem dX0_passDay_66 : decode cX0_passDay 66 = .ok (.istore 4, 2) := by decide +kernel
theorem dX0_passDay_68 : decode cX0_passDay 68 = .ok (.iload 4, 2) := by decide +kernel
theorem dX0_passDay_70 : decode cX0_passDay 70 = .ok (.bipush (-9), 2) := by decide +kernel
theorem dX0_passDay_72 : decode cX0_passDay 72 = .ok (.if_icmp .ne 6, 3) := by decide +kernel
theorem dX0_passDay_75 : decode cX0_passDay 75 = .ok (.goto 68, 3) := by decide +kernel
theorem dX0_passDay_78 : decode cX0_passDay 78 = .ok (.aload_n 0, 1) := by decide +kernel
theorem dX0_passDay_79 : decode cX0_passDay 79 = .ok (.getfield 27, 3) := by decide +kernel
theorem dX0_passDay_82 : decode cX0_passDay 82 = .ok (.iload_n 3, 1) := by decide +kernel
theorem dX0_passDay_83 : decode cX0_passDay 83 = .ok (.iaload, 1) := by decide +kernel
theorem dX0_passDay_84 : decode cX0_passDay 84 = .ok (.ifCond .ne 29, 3) := by decide +kernel
theorem dX0_passDay_87 : decode cX0_passDay 87 = .ok (.aload_n 0, 1) := by decide +kernel
theorem dX0_passDay_88 : decode cX0_passDay 88 = .ok (.aload_n 1, 1) := by decide +kernel
theorem dX0_passDay_89 : decode cX0_passDay 89 = .ok (.iload_n 3, 1) := by decide +kernel
theorem dX0_passDay_90 : decode cX0_passDay 90 = .ok (.iload 4, 2) := by decide +kernel
theorem dX0_passDay_92 : decode cX0_passDay 92 = .ok (.aload_n 1, 1) := by decide +kernel
theorem dX0_passDay_93 : decode cX0_passDay 93 = .ok (.iload 4, 2) := by decide +kernel
theorem dX0_passDay_95 : decode cX0_passDay 95 = .ok (.aload_n 0, 1) := by decide +kernel
theorem dX0_passDay_96 : decode cX0_passDay 96 = .ok (.getfield 18, 3) := by decide +kernel
theorem dX0_passDay_99 : decode cX0_passDay 99 = .ok (.iload_n 3, 1) := by decide +kernel
theorem dX0_passDay_100 : decode cX0_passDay 100 = .ok (.iaload, 1) := by decide +kernel
theorem dX0_passDay_101 : decode cX0_passDay 101 = .ok (.invokevirtual 77, 3) := by decide +kernel
theorem dX0_passDay_104 : decode cX0_passDay 104 = .ok (.invokevirtual 61, 3) := by decide +kernel
theorem dX0_passDay_107 : decode cX0_passDay 107 = .ok (.iinc 2 1, 3) := by decide +kernel
theorem dX0_passDay_110 : decode cX0_passDay 110 = .ok (.goto 33, 3) := by decide +kernel
theorem dX0_passDay_113 : decode cX0_passDay 113 = .ok (.aload_n 0, 1) := by decide +kernel
theorem dX0_passDay_114 : decode cX0_passDay 114 = .ok (.iload_n 3, 1) := by decide +kernel
theorem dX0_passDay_115 : decode cX0_passDay 115 = .ok (.aload_n 1, 1) := by decide +kernel
theorem dX0_passDay_116 : decode cX0_passDay 116 = .ok (.getfield 81, 3) := by decide +kernel
theorem dX0_passDay_119 : decode cX0_passDay 119 = .ok (.invokevirtual 84, 3) := by decide +kernel
theorem dX0_passDay_122 : decode cX0_passDay 122 = .ok (.ifCond .eq 21, 3) := by decide +kernel
theorem dX0_passDay_125 : decode cX0_passDay 125 = .ok (.aload_n 0, 1) := by decide +kernel
theorem dX0_passDay_126 : decode cX0_passDay 126 = .ok (.getfield 30, 3) := by decide +kernel
theorem dX0_passDay_129 : decode cX0_passDay 129 = .ok (.iload_n 3, 1) := by decide +kernel
theorem dX0_passDay_130 : decode cX0_passDay 130 = .ok (.iconst 1, 1) := by decide +kernel
theorem dX0_passDay_131 : decode cX0_passDay 131 = .ok (.iastore, 1) := by decide +kernel
theorem dX0_passDay_132 : decode cX0_passDay 132 = .ok (.aload_n 0, 1) := by decide +kernel
theorem dX0_passDay_133 : decode cX0_passDay 133 = .ok (.getfield 9, 3) := by decide +kernel
theorem dX0_passDay_136 : decode cX0_passDay 136 = .ok (.iload 4, 2) := by decide +kernel
theorem dX0_passDay_138 : decode cX0_passDay 138 = .ok (.dup2, 1) := by decide +kernel
theorem dX0_passDay_139 : decode cX0_passDay 139 = .ok (.iaload, 1) := by decide +kernel
theorem dX0_passDay_140 : decode cX0_passDay 140 = .ok (.iconst 1, 1) := by decide +kernel
theorem dX0_passDay_141 : decode cX0_passDay 141 = .ok (.iadd, 1) := by decide +kernel
theorem dX0_passDay_142 : decode cX0_passDay 142 = .ok (.iastore, 1) := by decide +kernel
theorem dX0_passDay_143 : decode cX0_passDay 143 = .ok (.iinc 3 1, 3) := by decide +kernel
theorem dX0_passDay_146 : decode cX0_passDay 146 = .ok (.goto (-94), 3) := by decide +kernel
theorem dX0_passDay_149 : decode cX0_passDay 149 = .ok (.iload_n 2, 1) := by decide +kernel
theorem dX0_passDay_150 : decode cX0_passDay 150 = .ok (.ireturn, 1) := by decide +kernel
set_option maxRecDepth 20000 in
theorem ggX0_firstNewlyLate_X0_turnsLate : GoodIn wsX0_firstNewlyLate wsX0_turnsLate := goodIn_r _ [7, 8, 9, 10, 11, 12, 13, 14, 15, 16, 17, 18, 19, 20] (by decide +kernel) (by decide +kernel)
set_option maxRecDepth 20000 in
theorem gX0_firstNewlyLate_X0_turnsLate : GoodIn wsX0_firstNewlyLate (wsV RX0 84 RX0 yX0_turnsLate wsX0_turnsLate) := goodIn_app (goodIn_of _ (by decide +kernel)) ggX0_firstNewlyLate_X0_turnsLate
theorem dX0_firstNewlyLate_0 : decode cX0_firstNewlyLate 0 = .ok (.iconst 0, 1) := by decide +kernel
theorem dX0_firstNewlyLate_1 : decode cX0_firstNewlyLate 1 = .ok (.istore_n 2, 1) := by decide +kernel
theorem dX0_firstNewlyLate_2 : decode cX0_firstNewlyLate 2 = .ok (.iload_n 2, 1) := by decide +kernel
theorem dX0_firstNewlyLate_3 : decode cX0_firstNewlyLate 3 = .ok (.aload_n 0, 1) := by decide +kernel
theorem dX0_firstNewlyLate_4 : decode cX0_firstNewlyLate 4 = .ok (.getfield 40, 3) := by decide +kernel
theorem dX0_firstNewlyLate_7 : decode cX0_firstNewlyLate 7 = .ok (.if_icmp .ge 31, 3) := by decide +kernel
theorem dX0_firstNewlyLate_10 : decode cX0_firstNewlyLate 10 = .ok (.aload_n 0, 1) := by decide +kernel
theorem dX0_firstNewlyLate_11 : decode cX0_firstNewlyLate 11 = .ok (.getfield 24, 3) := by decide +kernel
theorem dX0_firstNewlyLate_14 : decode cX0_firstNewlyLate 14 = .ok (.iload_n 2, 1) := by decide +kernel
theorem dX0_firstNewlyLate_15 : decode cX0_firstNewlyLate 15 = .ok (.iaload, 1) := by decide +kernel
theorem dX0_firstNewlyLate_16 : decode cX0_firstNewlyLate 16 = .ok (.bipush (-9), 2) := by decide +kernel
theorem dX0_firstNewlyLate_18 : decode cX0_firstNewlyLate 18 = .ok (.if_icmp .eq 14, 3) := by decide +kernel
theorem dX0_firstNewlyLate_21 : decode cX0_firstNewlyLate 21 = .ok (.aload_n 0, 1) := by decide +kernel
theorem dX0_firstNewlyLate_22 : decode cX0_firstNewlyLate 22 = .ok (.iload_n 2, 1) := by decide +kernel
theorem dX0_firstNewlyLate_23 : decode cX0_firstNewlyLate 23 = .ok (.iload_n 1, 1) := by decide +kernel
theorem dX0_firstNewlyLate_24 : decode cX0_firstNewlyLate 24 = .ok (.invokevirtual 84, 3) := by decide +kernel
theorem dX0_firstNewlyLate_27 : decode cX0_firstNewlyLate 27 = .ok (.ifCond .eq 5, 3) := by decide +kernel
theorem dX0_firstNewlyLate_30 : decode cX0_firstNewlyLate 30 = .ok (.iload_n 2, 1) := by decide +kernel
theorem dX0_firstNewlyLate_31 : decode cX0_firstNewlyLate 31 = .ok (.ireturn, 1) := by decide +kernel
theorem dX0_firstNewlyLate_32 : decode cX0_firstNewlyLate 32 = .ok (.iinc 2 1, 3) := by decide +kernel
theorem dX0_firstNewlyLate_35 : decode cX0_firstNewlyLate 35 = .ok (.goto (-33), 3) := by decide +kernel
theorem dX0_firstNewlyLate_38 : decode cX0_firstNewlyLate 38 = .ok (.bipush (-9), 2) := by decide +kernel
theorem dX0_firstNewlyLate_40 : decode cX0_firstNewlyLate 40 = .ok (.ireturn, 1) := by decide +kernel
set_option maxRecDepth 20000 in
theorem ggX0_canKeep_X0_workUpTo : GoodIn wsX0_canKeep wsX0_workUpTo := goodIn_r _ [8, 1, 3, 9, 10, 11, 12, 13, 14, 15, 16, 17, 18, 19, 20] (by decide +kernel) (by decide +kernel)
set_option maxRecDepth 20000 in
theorem gX0_canKeep_X0_workUpTo : GoodIn wsX0_canKeep (wsV RX0 88 RX0 yX0_workUpTo wsX0_workUpTo) := goodIn_app (goodIn_of _ (by decide +kernel)) ggX0_canKeep_X0_workUpTo
theorem dX0_canKeep_0 : decode cX0_canKeep 0 = .ok (.iconst 0, 1) := by decide +kernel
theorem dX0_canKeep_1 : decode cX0_canKeep 1 = .ok (.istore_n 3, 1) := by decide +kernel
theorem dX0_canKeep_2 : decode cX0_canKeep 2 = .ok (.iload_n 3, 1) := by decide +kernel
theorem dX0_canKeep_3 : decode cX0_canKeep 3 = .ok (.aload_n 0, 1) := by decide +kernel
theorem dX0_canKeep_4 : decode cX0_canKeep 4 = .ok (.getfield 40, 3) := by decide +kernel
theorem dX0_canKeep_7 : decode cX0_canKeep 7 = .ok (.if_icmp .ge 47, 3) := by decide +kernel
theorem dX0_canKeep_10 : decode cX0_canKeep 10 = .ok (.iload_n 1, 1) := by decide +kernel
theorem dX0_canKeep_11 : decode cX0_canKeep 11 = .ok (.iload_n 3, 1) := by decide +kernel
theorem dX0_canKeep_12 : decode cX0_canKeep 12 = .ok (.ishr, 1) := by decide +kernel
theorem dX0_canKeep_13 : decode cX0_canKeep 13 = .ok (.iconst 1, 1) := by decide +kernel
theorem dX0_canKeep_14 : decode cX0_canKeep 14 = .ok (.iand, 1) := by decide +kernel
theorem dX0_canKeep_15 : decode cX0_canKeep 15 = .ok (.iconst 1, 1) := by decide +kernel
theorem dX0_canKeep_16 : decode cX0_canKeep 16 = .ok (.if_icmp .ne 32, 3) := by decide +kernel
theorem dX0_canKeep_19 : decode cX0_canKeep 19 = .ok (.aload_n 0, 1) := by decide +kernel
theorem dX0_canKeep_20 : decode cX0_canKeep 20 = .ok (.getfield 33, 3) := by decide +kernel
theorem dX0_canKeep_23 : decode cX0_canKeep 23 = .ok (.aload_n 0, 1) := by decide +kernel
theorem dX0_canKeep_24 : decode cX0_canKeep 24 = .ok (.iload_n 1, 1) := by decide +kernel
theorem dX0_canKeep_25 : decode cX0_canKeep 25 = .ok (.aload_n 0, 1) := by decide +kernel
theorem dX0_canKeep_26 : decode cX0_canKeep 26 = .ok (.getfield 21, 3) := by decide +kernel
theorem dX0_canKeep_29 : decode cX0_canKeep 29 = .ok (.iload_n 3, 1) := by decide +kernel
theorem dX0_canKeep_30 : decode cX0_canKeep 30 = .ok (.iaload, 1) := by decide +kernel
theorem dX0_canKeep_31 : decode cX0_canKeep 31 = .ok (.invokevirtual 88, 3) := by decide +kernel
theorem dX0_canKeep_34 : decode cX0_canKeep 34 = .ok (.iadd, 1) := by decide +kernel
theorem dX0_canKeep_35 : decode cX0_canKeep 35 = .ok (.aload_n 0, 1) := by decide +kernel
theorem dX0_canKeep_36 : decode cX0_canKeep 36 = .ok (.getfield 21, 3) := by decide +kernel
theorem dX0_canKeep_39 : decode cX0_canKeep 39 = .ok (.iload_n 3, 1) := by decide +kernel
theorem dX0_canKeep_40 : decode cX0_canKeep 40 = .ok (.iaload, 1) := by decide +kernel
theorem dX0_canKeep_41 : decode cX0_canKeep 41 = .ok (.iload_n 2, 1) := by decide +kernel
theorem dX0_canKeep_42 : decode cX0_canKeep 42 = .ok (.iadd, 1) := by decide +kernel
theorem dX0_canKeep_43 : decode cX0_canKeep 43 = .ok (.if_icmp .le 5, 3) := by decide +kernel
theorem dX0_canKeep_46 : decode cX0_canKeep 46 = .ok (.iconst 0, 1) := by decide +kernel
theorem dX0_canKeep_47 : decode cX0_canKeep 47 = .ok (.ireturn, 1) := by decide +kernel
theorem dX0_canKeep_48 : decode cX0_canKeep 48 = .ok (.iinc 3 1, 3) := by decide +kernel
theorem dX0_canKeep_51 : decode cX0_canKeep 51 = .ok (.goto (-49), 3) := by decide +kernel
theorem dX0_canKeep_54 : decode cX0_canKeep 54 = .ok (.iconst 1, 1) := by decide +kernel
theorem dX0_canKeep_55 : decode cX0_canKeep 55 = .ok (.ireturn, 1) := by decide +kernel
theorem dX0_workUpTo_0 : decode cX0_workUpTo 0 = .ok (.iconst 0, 1) := by decide +kernel
theorem dX0_workUpTo_1 : decode cX0_workUpTo 1 = .ok (.istore_n 3, 1) := by decide +kernel
theorem dX0_workUpTo_2 : decode cX0_workUpTo 2 = .ok (.iconst 0, 1) := by decide +kernel
theorem dX0_workUpTo_3 : decode cX0_workUpTo 3 = .ok (.istore 4, 2) := by decide +kernel
theorem dX0_workUpTo_5 : decode cX0_workUpTo 5 = .ok (.iload 4, 2) := by decide +kernel
theorem dX0_workUpTo_7 : decode cX0_workUpTo 7 = .ok (.aload_n 0, 1) := by decide +kernel
theorem dX0_workUpTo_8 : decode cX0_workUpTo 8 = .ok (.getfield 40, 3) := by decide +kernel
theorem dX0_workUpTo_11 : decode cX0_workUpTo 11 = .ok (.if_icmp .ge 40, 3) := by decide +kernel
theorem dX0_workUpTo_14 : decode cX0_workUpTo 14 = .ok (.iload_n 1, 1) := by decide +kernel
theorem dX0_workUpTo_15 : decode cX0_workUpTo 15 = .ok (.iload 4, 2) := by decide +kernel
theorem dX0_workUpTo_17 : decode cX0_workUpTo 17 = .ok (.ishr, 1) := by decide +kernel
theorem dX0_workUpTo_18 : decode cX0_workUpTo 18 = .ok (.iconst 1, 1) := by decide +kernel
theorem dX0_workUpTo_19 : decode cX0_workUpTo 19 = .ok (.iand, 1) := by decide +kernel
theorem dX0_workUpTo_20 : decode cX0_workUpTo 20 = .ok (.iconst 1, 1) := by decide +kernel
theorem dX0_workUpTo_21 : decode cX0_workUpTo 21 = .ok (.if_icmp .ne 24, 3) := by decide +kernel
theorem dX0_workUpTo_24 : decode cX0_workUpTo 24 = .ok (.aload_n 0, 1) := by decide +kernel
theorem dX0_workUpTo_25 : decode cX0_workUpTo 25 = .ok (.getfield 21, 3) := by decide +kernel
theorem dX0_workUpTo_28 : decode cX0_workUpTo 28 = .ok (.iload 4, 2) := by decide +kernel
theorem dX0_workUpTo_30 : decode cX0_workUpTo 30 = .ok (.iaload, 1) := by decide +kernel
theorem dX0_workUpTo_31 : decode cX0_workUpTo 31 = .ok (.iload_n 2, 1) := by decide +kernel
theorem dX0_workUpTo_32 : decode cX0_workUpTo 32 = .ok (.if_icmp .gt 13, 3) := by decide +kernel
theorem dX0_workUpTo_35 : decode cX0_workUpTo 35 = .ok (.iload_n 3, 1) := by decide +kernel
theorem dX0_workUpTo_36 : decode cX0_workUpTo 36 = .ok (.aload_n 0, 1) := by decide +kernel
theorem dX0_workUpTo_37 : decode cX0_workUpTo 37 = .ok (.getfield 27, 3) := by decide +kernel
theorem dX0_workUpTo_40 : decode cX0_workUpTo 40 = .ok (.iload 4, 2) := by decide +kernel
theorem dX0_workUpTo_42 : decode cX0_workUpTo 42 = .ok (.iaload, 1) := by decide +kernel
theorem dX0_workUpTo_43 : decode cX0_workUpTo 43 = .ok (.iadd, 1) := by decide +kernel
theorem dX0_workUpTo_44 : decode cX0_workUpTo 44 = .ok (.istore_n 3, 1) := by decide +kernel
theorem dX0_workUpTo_45 : decode cX0_workUpTo 45 = .ok (.iinc 4 1, 3) := by decide +kernel
theorem dX0_workUpTo_48 : decode cX0_workUpTo 48 = .ok (.goto (-43), 3) := by decide +kernel
theorem dX0_workUpTo_51 : decode cX0_workUpTo 51 = .ok (.iload_n 3, 1) := by decide +kernel
theorem dX0_workUpTo_52 : decode cX0_workUpTo 52 = .ok (.ireturn, 1) := by decide +kernel
theorem dX0_turnsLate_0 : decode cX0_turnsLate 0 = .ok (.aload_n 0, 1) := by decide +kernel
theorem dX0_turnsLate_1 : decode cX0_turnsLate 1 = .ok (.getfield 33, 3) := by decide +kernel
theorem dX0_turnsLate_4 : decode cX0_turnsLate 4 = .ok (.aload_n 0, 1) := by decide +kernel
theorem dX0_turnsLate_5 : decode cX0_turnsLate 5 = .ok (.getfield 21, 3) := by decide +kernel
theorem dX0_turnsLate_8 : decode cX0_turnsLate 8 = .ok (.iload_n 1, 1) := by decide +kernel
theorem dX0_turnsLate_9 : decode cX0_turnsLate 9 = .ok (.iaload, 1) := by decide +kernel
theorem dX0_turnsLate_10 : decode cX0_turnsLate 10 = .ok (.isub, 1) := by decide +kernel
theorem dX0_turnsLate_11 : decode cX0_turnsLate 11 = .ok (.iload_n 2, 1) := by decide +kernel
theorem dX0_turnsLate_12 : decode cX0_turnsLate 12 = .ok (.if_icmp .ne 7, 3) := by decide +kernel
theorem dX0_turnsLate_15 : decode cX0_turnsLate 15 = .ok (.iconst 1, 1) := by decide +kernel
theorem dX0_turnsLate_16 : decode cX0_turnsLate 16 = .ok (.goto 4, 3) := by decide +kernel
theorem dX0_turnsLate_19 : decode cX0_turnsLate 19 = .ok (.iconst 0, 1) := by decide +kernel
theorem dX0_turnsLate_20 : decode cX0_turnsLate 20 = .ok (.ireturn, 1) := by decide +kernel
theorem dX0_onDeskOf_0 : decode cX0_onDeskOf 0 = .ok (.bipush (-9), 2) := by decide +kernel
theorem dX0_onDeskOf_2 : decode cX0_onDeskOf 2 = .ok (.istore_n 2, 1) := by decide +kernel
theorem dX0_onDeskOf_3 : decode cX0_onDeskOf 3 = .ok (.iconst 0, 1) := by decide +kernel
theorem dX0_onDeskOf_4 : decode cX0_onDeskOf 4 = .ok (.istore_n 3, 1) := by decide +kernel
theorem dX0_onDeskOf_5 : decode cX0_onDeskOf 5 = .ok (.iload_n 3, 1) := by decide +kernel
theorem dX0_onDeskOf_6 : decode cX0_onDeskOf 6 = .ok (.aload_n 0, 1) := by decide +kernel
theorem dX0_onDeskOf_7 : decode cX0_onDeskOf 7 = .ok (.getfield 40, 3) := by decide +kernel
theorem dX0_onDeskOf_10 : decode cX0_onDeskOf 10 = .ok (.if_icmp .ge 42, 3) := by decide +kernel
theorem dX0_onDeskOf_13 : decode cX0_onDeskOf 13 = .ok (.aload_n 0, 1) := by decide +kernel
theorem dX0_onDeskOf_14 : decode cX0_onDeskOf 14 = .ok (.getfield 24, 3) := by decide +kernel
theorem dX0_onDeskOf_17 : decode cX0_onDeskOf 17 = .ok (.iload_n 3, 1) := by decide +kernel
theorem dX0_onDeskOf_18 : decode cX0_onDeskOf 18 = .ok (.iaload, 1) := by decide +kernel
theorem dX0_onDeskOf_19 : decode cX0_onDeskOf 19 = .ok (.iload_n 1, 1) := by decide +kernel
theorem dX0_onDeskOf_20 : decode cX0_onDeskOf 20 = .ok (.if_icmp .ne 26, 3) := by decide +kernel
theorem dX0_onDeskOf_23 : decode cX0_onDeskOf 23 = .ok (.iload_n 2, 1) := by decide +kernel
theorem dX0_onDeskOf_24 : decode cX0_onDeskOf 24 = .ok (.bipush (-9), 2) := by decide +kernel
theorem dX0_onDeskOf_26 : decode cX0_onDeskOf 26 = .ok (.if_icmp .eq 18, 3) := by decide +kernel
theorem dX0_onDeskOf_29 : decode cX0_onDeskOf 29 = .ok (.aload_n 0, 1) := by decide +kernel
theorem dX0_onDeskOf_30 : decode cX0_onDeskOf 30 = .ok (.getfield 21, 3) := by decide +kernel
theorem dX0_onDeskOf_33 : decode cX0_onDeskOf 33 = .ok (.iload_n 3, 1) := by decide +kernel
theorem dX0_onDeskOf_34 : decode cX0_onDeskOf 34 = .ok (.iaload, 1) := by decide +kernel
theorem dX0_onDeskOf_35 : decode cX0_onDeskOf 35 = .ok (.aload_n 0, 1) := by decide +kernel
theorem dX0_onDeskOf_36 : decode cX0_onDeskOf 36 = .ok (.getfield 21, 3) := by decide +kernel
theorem dX0_onDeskOf_39 : decode cX0_onDeskOf 39 = .ok (.iload_n 2, 1) := by decide +kernel
theorem dX0_onDeskOf_40 : decode cX0_onDeskOf 40 = .ok (.iaload, 1) := by decide +kernel
theorem dX0_onDeskOf_41 : decode cX0_onDeskOf 41 = .ok (.if_icmp .ge 5, 3) := by decide +kernel
theorem dX0_onDeskOf_44 : decode cX0_onDeskOf 44 = .ok (.iload_n 3, 1) := by decide +kernel
theorem dX0_onDeskOf_45 : decode cX0_onDeskOf 45 = .ok (.istore_n 2, 1) := by decide +kernel
theorem dX0_onDeskOf_46 : decode cX0_onDeskOf 46 = .ok (.iinc 3 1, 3) := by decide +kernel
theorem dX0_onDeskOf_49 : decode cX0_onDeskOf 49 = .ok (.goto (-44), 3) := by decide +kernel
theorem dX0_onDeskOf_52 : decode cX0_onDeskOf 52 = .ok (.iload_n 2, 1) := by decide +kernel
theorem dX0_onDeskOf_53 : decode cX0_onDeskOf 53 = .ok (.ireturn, 1) := by decide +kernel
set_option maxRecDepth 20000 in
theorem ggX0_print_X0_charge : GoodIn wsX0_print wsX0_charge := goodIn_r _ [11, 1, 2, 12, 13, 14, 15, 16, 17, 18, 19, 20, 21, 22, 23, 24, 25, 26, 27, 28, 29, 30, 31, 32, 33, 34, 35, 36, 37, 38] (by decide +kernel) (by decide +kernel)
set_option maxRecDepth 20000 in
theorem gX0_print_X0_charge : GoodIn wsX0_print (wsV RX0 65 RX0 yX0_charge wsX0_charge) := goodIn_app (goodIn_of _ (by decide +kernel)) ggX0_print_X0_charge
theorem dX0_print_0 : decode cX0_print 0 = .ok (.aload_n 0, 1) := by decide +kernel
theorem dX0_print_1 : decode cX0_print 1 = .ok (.getfield 15, 3) := by decide +kernel
theorem dX0_print_4 : decode cX0_print 4 = .ok (.iload_n 2, 1) := by decide +kernel
theorem dX0_print_5 : decode cX0_print 5 = .ok (.iload_n 3, 1) := by decide +kernel
theorem dX0_print_6 : decode cX0_print 6 = .ok (.iastore, 1) := by decide +kernel
theorem dX0_print_7 : decode cX0_print 7 = .ok (.aload_n 0, 1) := by decide +kernel
theorem dX0_print_8 : decode cX0_print 8 = .ok (.getfield 18, 3) := by decide +kernel
theorem dX0_print_11 : decode cX0_print 11 = .ok (.iload_n 2, 1) := by decide +kernel
theorem dX0_print_12 : decode cX0_print 12 = .ok (.iload 4, 2) := by decide +kernel
theorem dX0_print_14 : decode cX0_print 14 = .ok (.iastore, 1) := by decide +kernel
theorem dX0_print_15 : decode cX0_print 15 = .ok (.aload_n 0, 1) := by decide +kernel
theorem dX0_print_16 : decode cX0_print 16 = .ok (.getfield 21, 3) := by decide +kernel
theorem dX0_print_19 : decode cX0_print 19 = .ok (.iload_n 2, 1) := by decide +kernel
theorem dX0_print_20 : decode cX0_print 20 = .ok (.aload_n 0, 1) := by decide +kernel
theorem dX0_print_21 : decode cX0_print 21 = .ok (.getfield 33, 3) := by decide +kernel
theorem dX0_print_24 : decode cX0_print 24 = .ok (.iastore, 1) := by decide +kernel
theorem dX0_print_25 : decode cX0_print 25 = .ok (.aload_n 0, 1) := by decide +kernel
theorem dX0_print_26 : decode cX0_print 26 = .ok (.getfield 30, 3) := by decide +kernel
theorem dX0_print_29 : decode cX0_print 29 = .ok (.iload_n 2, 1) := by decide +kernel
theorem dX0_print_30 : decode cX0_print 30 = .ok (.iconst 0, 1) := by decide +kernel
theorem dX0_print_31 : decode cX0_print 31 = .ok (.iastore, 1) := by decide +kernel
theorem dX0_print_32 : decode cX0_print 32 = .ok (.aload_n 0, 1) := by decide +kernel
theorem dX0_print_33 : decode cX0_print 33 = .ok (.dup, 1) := by decide +kernel
theorem dX0_print_34 : decode cX0_print 34 = .ok (.getfield 37, 3) := by decide +kernel
theorem dX0_print_37 : decode cX0_print 37 = .ok (.iconst 1, 1) := by decide +kernel
theorem dX0_print_38 : decode cX0_print 38 = .ok (.iadd, 1) := by decide +kernel
theorem dX0_print_39 : decode cX0_print 39 = .ok (.putfield 37, 3) := by decide +kernel
theorem dX0_print_42 : decode cX0_print 42 = .ok (.aload_n 0, 1) := by decide +kernel
theorem dX0_print_43 : decode cX0_print 43 = .ok (.aload_n 1, 1) := by decide +kernel
theorem dX0_print_44 : decode cX0_print 44 = .ok (.iload_n 2, 1) := by decide +kernel
theorem dX0_print_45 : decode cX0_print 45 = .ok (.invokevirtual 65, 3) := by decide +kernel
theorem dX0_print_48 : decode cX0_print 48 = .ok (.return_, 1) := by decide +kernel
set_option maxRecDepth 20000 in
theorem ggX0_charge_X5_answerer : GoodIn wsX0_charge wsX5_answerer := goodIn_r _ [11, 12, 13, 25, 26, 27, 28, 29] (by decide +kernel) (by decide +kernel)
set_option maxRecDepth 20000 in
theorem gX0_charge_X5_answerer : GoodIn wsX0_charge (wsV RX0 91 RX5 yX5_answerer wsX5_answerer) := goodIn_app (goodIn_of _ (by decide +kernel)) ggX0_charge_X5_answerer
theorem dX0_charge_0 : decode cX0_charge 0 = .ok (.aload_n 1, 1) := by decide +kernel
theorem dX0_charge_1 : decode cX0_charge 1 = .ok (.aload_n 0, 1) := by decide +kernel
theorem dX0_charge_2 : decode cX0_charge 2 = .ok (.getfield 15, 3) := by decide +kernel
theorem dX0_charge_5 : decode cX0_charge 5 = .ok (.iload_n 2, 1) := by decide +kernel
theorem dX0_charge_6 : decode cX0_charge 6 = .ok (.iaload, 1) := by decide +kernel
theorem dX0_charge_7 : decode cX0_charge 7 = .ok (.aload_n 0, 1) := by decide +kernel
theorem dX0_charge_8 : decode cX0_charge 8 = .ok (.getfield 18, 3) := by decide +kernel
theorem dX0_charge_11 : decode cX0_charge 11 = .ok (.iload_n 2, 1) := by decide +kernel
theorem dX0_charge_12 : decode cX0_charge 12 = .ok (.iaload, 1) := by decide +kernel
theorem dX0_charge_13 : decode cX0_charge 13 = .ok (.aload_n 0, 1) := by decide +kernel
theorem dX0_charge_14 : decode cX0_charge 14 = .ok (.getfield 43, 3) := by decide +kernel
theorem dX0_charge_17 : decode cX0_charge 17 = .ok (.invokevirtual 91, 3) := by decide +kernel
theorem dX0_charge_20 : decode cX0_charge 20 = .ok (.istore_n 3, 1) := by decide +kernel
theorem dX0_charge_21 : decode cX0_charge 21 = .ok (.aload_n 0, 1) := by decide +kernel
theorem dX0_charge_22 : decode cX0_charge 22 = .ok (.getfield 24, 3) := by decide +kernel
theorem dX0_charge_25 : decode cX0_charge 25 = .ok (.iload_n 2, 1) := by decide +kernel
theorem dX0_charge_26 : decode cX0_charge 26 = .ok (.iload_n 3, 1) := by decide +kernel
theorem dX0_charge_27 : decode cX0_charge 27 = .ok (.iastore, 1) := by decide +kernel
theorem dX0_charge_28 : decode cX0_charge 28 = .ok (.aload_n 0, 1) := by decide +kernel
theorem dX0_charge_29 : decode cX0_charge 29 = .ok (.getfield 27, 3) := by decide +kernel
theorem dX0_charge_32 : decode cX0_charge 32 = .ok (.iload_n 2, 1) := by decide +kernel
theorem dX0_charge_33 : decode cX0_charge 33 = .ok (.iload_n 3, 1) := by decide +kernel
theorem dX0_charge_34 : decode cX0_charge 34 = .ok (.bipush (-9), 2) := by decide +kernel
theorem dX0_charge_36 : decode cX0_charge 36 = .ok (.if_icmp .ne 7, 3) := by decide +kernel
theorem dX0_charge_39 : decode cX0_charge 39 = .ok (.iconst 0, 1) := by decide +kernel
theorem dX0_charge_40 : decode cX0_charge 40 = .ok (.goto 9, 3) := by decide +kernel
theorem dX0_charge_43 : decode cX0_charge 43 = .ok (.aload_n 1, 1) := by decide +kernel
theorem dX0_charge_44 : decode cX0_charge 44 = .ok (.getfield 95, 3) := by decide +kernel
theorem dX0_charge_47 : decode cX0_charge 47 = .ok (.iload_n 3, 1) := by decide +kernel
theorem dX0_charge_48 : decode cX0_charge 48 = .ok (.iaload, 1) := by decide +kernel
theorem dX0_charge_49 : decode cX0_charge 49 = .ok (.iastore, 1) := by decide +kernel
theorem dX0_charge_50 : decode cX0_charge 50 = .ok (.return_, 1) := by decide +kernel
set_option maxRecDepth 20000 in
theorem ggX1_init_X0_init : GoodIn wsX1_init wsX0_init := goodIn_r _ [9, 10, 2, 3, 11, 12, 13, 14, 15, 16, 17, 18, 21, 22, 23, 24, 25, 26, 27, 28, 29, 30, 31] (by decide +kernel) (by decide +kernel)
set_option maxRecDepth 20000 in
theorem gX1_init_X0_init_n17 : GoodIn wsX1_init (wsX0_init) := ggX1_init_X0_init
theorem dX1_init_0 : decode cX1_init 0 = .ok (.aload_n 0, 1) := by decide +kernel
theorem dX1_init_1 : decode cX1_init 1 = .ok (.invokespecial 3, 3) := by decide +kernel
theorem dX1_init_4 : decode cX1_init 4 = .ok (.aload_n 0, 1) := by decide +kernel
theorem dX1_init_5 : decode cX1_init 5 = .ok (.iconst 2, 1) := by decide +kernel
theorem dX1_init_6 : decode cX1_init 6 = .ok (.anewarray 9, 3) := by decide +kernel
theorem dX1_init_9 : decode cX1_init 9 = .ok (.putfield 11, 3) := by decide +kernel
theorem dX1_init_12 : decode cX1_init 12 = .ok (.iconst 0, 1) := by decide +kernel
theorem dX1_init_13 : decode cX1_init 13 = .ok (.istore_n 1, 1) := by decide +kernel
theorem dX1_init_14 : decode cX1_init 14 = .ok (.iload_n 1, 1) := by decide +kernel
theorem dX1_init_15 : decode cX1_init 15 = .ok (.iconst 2, 1) := by decide +kernel
theorem dX1_init_16 : decode cX1_init 16 = .ok (.if_icmp .ge 22, 3) := by decide +kernel
theorem dX1_init_19 : decode cX1_init 19 = .ok (.aload_n 0, 1) := by decide +kernel
theorem dX1_init_20 : decode cX1_init 20 = .ok (.getfield 11, 3) := by decide +kernel
theorem dX1_init_23 : decode cX1_init 23 = .ok (.iload_n 1, 1) := by decide +kernel
theorem dX1_init_24 : decode cX1_init 24 = .ok (.new 9, 3) := by decide +kernel
theorem dX1_init_27 : decode cX1_init 27 = .ok (.dup, 1) := by decide +kernel
theorem dX1_init_28 : decode cX1_init 28 = .ok (.invokespecial 17, 3) := by decide +kernel
theorem dX1_init_31 : decode cX1_init 31 = .ok (.aastore, 1) := by decide +kernel
theorem dX1_init_32 : decode cX1_init 32 = .ok (.iinc 1 1, 3) := by decide +kernel
theorem dX1_init_35 : decode cX1_init 35 = .ok (.goto (-21), 3) := by decide +kernel
theorem dX1_init_38 : decode cX1_init 38 = .ok (.return_, 1) := by decide +kernel
theorem dX1_hasPlace_0 : decode cX1_hasPlace 0 = .ok (.iload_n 1, 1) := by decide +kernel
theorem dX1_hasPlace_1 : decode cX1_hasPlace 1 = .ok (.ifCond .lt 12, 3) := by decide +kernel
theorem dX1_hasPlace_4 : decode cX1_hasPlace 4 = .ok (.iload_n 1, 1) := by decide +kernel
theorem dX1_hasPlace_5 : decode cX1_hasPlace 5 = .ok (.iconst 2, 1) := by decide +kernel
theorem dX1_hasPlace_6 : decode cX1_hasPlace 6 = .ok (.if_icmp .ge 7, 3) := by decide +kernel
theorem dX1_hasPlace_9 : decode cX1_hasPlace 9 = .ok (.iconst 1, 1) := by decide +kernel
theorem dX1_hasPlace_10 : decode cX1_hasPlace 10 = .ok (.goto 4, 3) := by decide +kernel
theorem dX1_hasPlace_13 : decode cX1_hasPlace 13 = .ok (.iconst 0, 1) := by decide +kernel
theorem dX1_hasPlace_14 : decode cX1_hasPlace 14 = .ok (.ireturn, 1) := by decide +kernel
theorem dX1_isKept_0 : decode cX1_isKept 0 = .ok (.aload_n 0, 1) := by decide +kernel
theorem dX1_isKept_1 : decode cX1_isKept 1 = .ok (.getfield 18, 3) := by decide +kernel
theorem dX1_isKept_4 : decode cX1_isKept 4 = .ok (.iload_n 1, 1) := by decide +kernel
theorem dX1_isKept_5 : decode cX1_isKept 5 = .ok (.ishr, 1) := by decide +kernel
theorem dX1_isKept_6 : decode cX1_isKept 6 = .ok (.iconst 1, 1) := by decide +kernel
theorem dX1_isKept_7 : decode cX1_isKept 7 = .ok (.iand, 1) := by decide +kernel
theorem dX1_isKept_8 : decode cX1_isKept 8 = .ok (.iconst 1, 1) := by decide +kernel
theorem dX1_isKept_9 : decode cX1_isKept 9 = .ok (.if_icmp .ne 7, 3) := by decide +kernel
theorem dX1_isKept_12 : decode cX1_isKept 12 = .ok (.iconst 1, 1) := by decide +kernel
theorem dX1_isKept_13 : decode cX1_isKept 13 = .ok (.goto 4, 3) := by decide +kernel
theorem dX1_isKept_16 : decode cX1_isKept 16 = .ok (.iconst 0, 1) := by decide +kernel
theorem dX1_isKept_17 : decode cX1_isKept 17 = .ok (.ireturn, 1) := by decide +kernel
set_option maxRecDepth 20000 in
theorem ggX1_put_X0_copy : GoodIn wsX1_put wsX0_copy := goodIn_r _ [7, 8, 9, 10, 11, 12, 13, 14, 15, 16, 17, 18, 19, 20, 21, 22, 25, 26, 27, 28, 29, 30, 31, 32, 33, 34, 35] (by decide +kernel) (by decide +kernel)
set_option maxRecDepth 20000 in
theorem gX1_put_X0_copy : GoodIn wsX1_put (wsV RX1 22 RX0 yX0_copy wsX0_copy) := goodIn_app (goodIn_of _ (by decide +kernel)) ggX1_put_X0_copy
theorem dX1_put_0 : decode cX1_put 0 = .ok (.aload_n 0, 1) := by decide +kernel
theorem dX1_put_1 : decode cX1_put 1 = .ok (.getfield 11, 3) := by decide +kernel
theorem dX1_put_4 : decode cX1_put 4 = .ok (.iload_n 1, 1) := by decide +kernel
theorem dX1_put_5 : decode cX1_put 5 = .ok (.aaload, 1) := by decide +kernel
theorem dX1_put_6 : decode cX1_put 6 = .ok (.aload_n 2, 1) := by decide +kernel
theorem dX1_put_7 : decode cX1_put 7 = .ok (.invokevirtual 22, 3) := by decide +kernel
theorem dX1_put_10 : decode cX1_put 10 = .ok (.aload_n 0, 1) := by decide +kernel
theorem dX1_put_11 : decode cX1_put 11 = .ok (.dup, 1) := by decide +kernel
theorem dX1_put_12 : decode cX1_put 12 = .ok (.getfield 18, 3) := by decide +kernel
theorem dX1_put_15 : decode cX1_put 15 = .ok (.iconst 1, 1) := by decide +kernel
theorem dX1_put_16 : decode cX1_put 16 = .ok (.iload_n 1, 1) := by decide +kernel
theorem dX1_put_17 : decode cX1_put 17 = .ok (.ishl, 1) := by decide +kernel
theorem dX1_put_18 : decode cX1_put 18 = .ok (.ior, 1) := by decide +kernel
theorem dX1_put_19 : decode cX1_put 19 = .ok (.putfield 18, 3) := by decide +kernel
theorem dX1_put_22 : decode cX1_put 22 = .ok (.return_, 1) := by decide +kernel
set_option maxRecDepth 20000 in
theorem ggX1_take_X0_copy : GoodIn wsX1_take wsX0_copy := goodIn_r _ [6, 7, 8, 9, 10, 11, 12, 13, 14, 15, 16, 17, 18, 19, 20, 21, 24, 25, 26, 27, 28, 29, 30, 31, 32, 33, 34] (by decide +kernel) (by decide +kernel)
set_option maxRecDepth 20000 in
theorem gX1_take_X0_copy : GoodIn wsX1_take (wsV RX1 22 RX0 yX0_copy wsX0_copy) := goodIn_app (goodIn_of _ (by decide +kernel)) ggX1_take_X0_copy
theorem dX1_take_0 : decode cX1_take 0 = .ok (.aload_n 2, 1) := by decide +kernel
theorem dX1_take_1 : decode cX1_take 1 = .ok (.aload_n 0, 1) := by decide +kernel
theorem dX1_take_2 : decode cX1_take 2 = .ok (.getfield 11, 3) := by decide +kernel
theorem dX1_take_5 : decode cX1_take 5 = .ok (.iload_n 1, 1) := by decide +kernel
theorem dX1_take_6 : decode cX1_take 6 = .ok (.aaload, 1) := by decide +kernel
theorem dX1_take_7 : decode cX1_take 7 = .ok (.invokevirtual 22, 3) := by decide +kernel
theorem dX1_take_10 : decode cX1_take 10 = .ok (.return_, 1) := by decide +kernel
theorem dX1_drop_0 : decode cX1_drop 0 = .ok (.aload_n 0, 1) := by decide +kernel
theorem dX1_drop_1 : decode cX1_drop 1 = .ok (.iconst 0, 1) := by decide +kernel
theorem dX1_drop_2 : decode cX1_drop 2 = .ok (.putfield 18, 3) := by decide +kernel
theorem dX1_drop_5 : decode cX1_drop 5 = .ok (.return_, 1) := by decide +kernel
theorem dX2_init_0 : decode cX2_init 0 = .ok (.aload_n 0, 1) := by decide +kernel
theorem dX2_init_1 : decode cX2_init 1 = .ok (.invokespecial 3, 3) := by decide +kernel
theorem dX2_init_4 : decode cX2_init 4 = .ok (.return_, 1) := by decide +kernel
set_option maxRecDepth 20000 in
theorem ggX2_follow_X5_answerer : GoodIn wsX2_follow wsX5_answerer := goodIn_r _ [7, 8, 9, 17, 18, 19, 20, 21] (by decide +kernel) (by decide +kernel)
set_option maxRecDepth 20000 in
theorem gX2_follow_X5_answerer : GoodIn wsX2_follow (wsV RX2 11 RX5 yX5_answerer wsX5_answerer) := goodIn_app (goodIn_of _ (by decide +kernel)) ggX2_follow_X5_answerer
set_option maxRecDepth 20000 in
theorem ggX2_follow_X5_answerOn : GoodIn wsX2_follow wsX5_answerOn := goodIn_r _ [13, 14, 17, 18, 19, 20, 21] (by decide +kernel) (by decide +kernel)
set_option maxRecDepth 20000 in
theorem gX2_follow_X5_answerOn : GoodIn wsX2_follow (wsV RX2 24 RX5 yX5_answerOn wsX5_answerOn) := goodIn_app (goodIn_of _ (by decide +kernel)) ggX2_follow_X5_answerOn
theorem dX2_follow_0 : decode cX2_follow 0 = .ok (.iload_n 2, 1) := by decide +kernel
theorem dX2_follow_1 : decode cX2_follow 1 = .ok (.istore 5, 2) := by decide +kernel
theorem dX2_follow_3 : decode cX2_follow 3 = .ok (.iload_n 3, 1) := by decide +kernel
theorem dX2_follow_4 : decode cX2_follow 4 = .ok (.istore 6, 2) := by decide +kernel
theorem dX2_follow_6 : decode cX2_follow 6 = .ok (.iconst 1, 1) := by decide +kernel
theorem dX2_follow_7 : decode cX2_follow 7 = .ok (.istore 7, 2) := by decide +kernel
theorem dX2_follow_9 : decode cX2_follow 9 = .ok (.iload 7, 2) := by decide +kernel
theorem dX2_follow_11 : decode cX2_follow 11 = .ok (.bipush 30, 2) := by decide +kernel
theorem dX2_follow_13 : decode cX2_follow 13 = .ok (.if_icmp .gt 55, 3) := by decide +kernel
theorem dX2_follow_16 : decode cX2_follow 16 = .ok (.aload_n 1, 1) := by decide +kernel
theorem dX2_follow_17 : decode cX2_follow 17 = .ok (.iload 5, 2) := by decide +kernel
theorem dX2_follow_19 : decode cX2_follow 19 = .ok (.iload 6, 2) := by decide +kernel
theorem dX2_follow_21 : decode cX2_follow 21 = .ok (.iload 4, 2) := by decide +kernel
theorem dX2_follow_23 : decode cX2_follow 23 = .ok (.invokevirtual 11, 3) := by decide +kernel
theorem dX2_follow_26 : decode cX2_follow 26 = .ok (.istore 8, 2) := by decide +kernel
theorem dX2_follow_28 : decode cX2_follow 28 = .ok (.iload 8, 2) := by decide +kernel
theorem dX2_follow_30 : decode cX2_follow 30 = .ok (.bipush (-9), 2) := by decide +kernel
theorem dX2_follow_32 : decode cX2_follow 32 = .ok (.if_icmp .ne 16, 3) := by decide +kernel
theorem dX2_follow_35 : decode cX2_follow 35 = .ok (.aload_n 0, 1) := by decide +kernel
theorem dX2_follow_36 : decode cX2_follow 36 = .ok (.iload 7, 2) := by decide +kernel
theorem dX2_follow_38 : decode cX2_follow 38 = .ok (.putfield 17, 3) := by decide +kernel
theorem dX2_follow_41 : decode cX2_follow 41 = .ok (.aload_n 0, 1) := by decide +kernel
theorem dX2_follow_42 : decode cX2_follow 42 = .ok (.iload 5, 2) := by decide +kernel
theorem dX2_follow_44 : decode cX2_follow 44 = .ok (.putfield 21, 3) := by decide +kernel
theorem dX2_follow_47 : decode cX2_follow 47 = .ok (.return_, 1) := by decide +kernel
theorem dX2_follow_48 : decode cX2_follow 48 = .ok (.aload_n 1, 1) := by decide +kernel
theorem dX2_follow_49 : decode cX2_follow 49 = .ok (.iload 8, 2) := by decide +kernel
theorem dX2_follow_51 : decode cX2_follow 51 = .ok (.iload 6, 2) := by decide +kernel
theorem dX2_follow_53 : decode cX2_follow 53 = .ok (.invokevirtual 24, 3) := by decide +kernel
theorem dX2_follow_56 : decode cX2_follow 56 = .ok (.istore 6, 2) := by decide +kernel
theorem dX2_follow_58 : decode cX2_follow 58 = .ok (.iload 8, 2) := by decide +kernel
theorem dX2_follow_60 : decode cX2_follow 60 = .ok (.istore 5, 2) := by decide +kernel
theorem dX2_follow_62 : decode cX2_follow 62 = .ok (.iinc 7 1, 3) := by decide +kernel
theorem dX2_follow_65 : decode cX2_follow 65 = .ok (.goto (-56), 3) := by decide +kernel
theorem dX2_follow_68 : decode cX2_follow 68 = .ok (.aload_n 0, 1) := by decide +kernel
theorem dX2_follow_69 : decode cX2_follow 69 = .ok (.bipush (-9), 2) := by decide +kernel
theorem dX2_follow_71 : decode cX2_follow 71 = .ok (.putfield 17, 3) := by decide +kernel
theorem dX2_follow_74 : decode cX2_follow 74 = .ok (.aload_n 0, 1) := by decide +kernel
theorem dX2_follow_75 : decode cX2_follow 75 = .ok (.bipush (-9), 2) := by decide +kernel
theorem dX2_follow_77 : decode cX2_follow 77 = .ok (.putfield 21, 3) := by decide +kernel
theorem dX2_follow_80 : decode cX2_follow 80 = .ok (.return_, 1) := by decide +kernel
theorem dX3_init_0 : decode cX3_init 0 = .ok (.aload_n 0, 1) := by decide +kernel
theorem dX3_init_1 : decode cX3_init 1 = .ok (.invokespecial 3, 3) := by decide +kernel
theorem dX3_init_4 : decode cX3_init 4 = .ok (.aload_n 0, 1) := by decide +kernel
theorem dX3_init_5 : decode cX3_init 5 = .ok (.iconst 5, 1) := by decide +kernel
theorem dX3_init_6 : decode cX3_init 6 = .ok (.newarray .int, 2) := by decide +kernel
theorem dX3_init_8 : decode cX3_init 8 = .ok (.putfield 9, 3) := by decide +kernel
theorem dX3_init_11 : decode cX3_init 11 = .ok (.aload_n 0, 1) := by decide +kernel
theorem dX3_init_12 : decode cX3_init 12 = .ok (.iconst 5, 1) := by decide +kernel
theorem dX3_init_13 : decode cX3_init 13 = .ok (.newarray .int, 2) := by decide +kernel
theorem dX3_init_15 : decode cX3_init 15 = .ok (.putfield 15, 3) := by decide +kernel
theorem dX3_init_18 : decode cX3_init 18 = .ok (.aload_n 0, 1) := by decide +kernel
theorem dX3_init_19 : decode cX3_init 19 = .ok (.iconst 5, 1) := by decide +kernel
theorem dX3_init_20 : decode cX3_init 20 = .ok (.newarray .int, 2) := by decide +kernel
theorem dX3_init_22 : decode cX3_init 22 = .ok (.putfield 18, 3) := by decide +kernel
theorem dX3_init_25 : decode cX3_init 25 = .ok (.return_, 1) := by decide +kernel
theorem dX3_add_0 : decode cX3_add 0 = .ok (.aload_n 0, 1) := by decide +kernel
theorem dX3_add_1 : decode cX3_add 1 = .ok (.getfield 21, 3) := by decide +kernel
theorem dX3_add_4 : decode cX3_add 4 = .ok (.iconst 5, 1) := by decide +kernel
theorem dX3_add_5 : decode cX3_add 5 = .ok (.if_icmp .lt 6, 3) := by decide +kernel
theorem dX3_add_8 : decode cX3_add 8 = .ok (.bipush (-3), 2) := by decide +kernel
theorem dX3_add_10 : decode cX3_add 10 = .ok (.ireturn, 1) := by decide +kernel
theorem dX3_add_11 : decode cX3_add 11 = .ok (.aload_n 0, 1) := by decide +kernel
theorem dX3_add_12 : decode cX3_add 12 = .ok (.getfield 9, 3) := by decide +kernel
theorem dX3_add_15 : decode cX3_add 15 = .ok (.aload_n 0, 1) := by decide +kernel
theorem dX3_add_16 : decode cX3_add 16 = .ok (.getfield 21, 3) := by decide +kernel
theorem dX3_add_19 : decode cX3_add 19 = .ok (.iload_n 1, 1) := by decide +kernel
theorem dX3_add_20 : decode cX3_add 20 = .ok (.iastore, 1) := by decide +kernel
theorem dX3_add_21 : decode cX3_add 21 = .ok (.aload_n 0, 1) := by decide +kernel
theorem dX3_add_22 : decode cX3_add 22 = .ok (.getfield 15, 3) := by decide +kernel
theorem dX3_add_25 : decode cX3_add 25 = .ok (.aload_n 0, 1) := by decide +kernel
theorem dX3_add_26 : decode cX3_add 26 = .ok (.getfield 21, 3) := by decide +kernel
theorem dX3_add_29 : decode cX3_add 29 = .ok (.iload_n 2, 1) := by decide +kernel
theorem dX3_add_30 : decode cX3_add 30 = .ok (.iastore, 1) := by decide +kernel
theorem dX3_add_31 : decode cX3_add 31 = .ok (.aload_n 0, 1) := by decide +kernel
theorem dX3_add_32 : decode cX3_add 32 = .ok (.getfield 18, 3) := by decide +kernel
theorem dX3_add_35 : decode cX3_add 35 = .ok (.aload_n 0, 1) := by decide +kernel
theorem dX3_add_36 : decode cX3_add 36 = .ok (.getfield 21, 3) := by decide +kernel
theorem dX3_add_39 : decode cX3_add 39 = .ok (.iload_n 3, 1) := by decide +kernel
theorem dX3_add_40 : decode cX3_add 40 = .ok (.iconst (-1), 1) := by decide +kernel
theorem dX3_add_41 : decode cX3_add 41 = .ok (.if_icmp .ne 8, 3) := by decide +kernel
theorem dX3_add_44 : decode cX3_add 44 = .ok (.bipush (-9), 2) := by decide +kernel
theorem dX3_add_46 : decode cX3_add 46 = .ok (.goto 4, 3) := by decide +kernel
theorem dX3_add_49 : decode cX3_add 49 = .ok (.iload_n 3, 1) := by decide +kernel
theorem dX3_add_50 : decode cX3_add 50 = .ok (.iastore, 1) := by decide +kernel
theorem dX3_add_51 : decode cX3_add 51 = .ok (.aload_n 0, 1) := by decide +kernel
theorem dX3_add_52 : decode cX3_add 52 = .ok (.dup, 1) := by decide +kernel
theorem dX3_add_53 : decode cX3_add 53 = .ok (.getfield 21, 3) := by decide +kernel
theorem dX3_add_56 : decode cX3_add 56 = .ok (.iconst 1, 1) := by decide +kernel
theorem dX3_add_57 : decode cX3_add 57 = .ok (.iadd, 1) := by decide +kernel
theorem dX3_add_58 : decode cX3_add 58 = .ok (.putfield 21, 3) := by decide +kernel
theorem dX3_add_61 : decode cX3_add 61 = .ok (.aload_n 0, 1) := by decide +kernel
theorem dX3_add_62 : decode cX3_add 62 = .ok (.getfield 21, 3) := by decide +kernel
theorem dX3_add_65 : decode cX3_add 65 = .ok (.ireturn, 1) := by decide +kernel
theorem dX3_drop_0 : decode cX3_drop 0 = .ok (.aload_n 0, 1) := by decide +kernel
theorem dX3_drop_1 : decode cX3_drop 1 = .ok (.getfield 21, 3) := by decide +kernel
theorem dX3_drop_4 : decode cX3_drop 4 = .ok (.istore_n 1, 1) := by decide +kernel
theorem dX3_drop_5 : decode cX3_drop 5 = .ok (.aload_n 0, 1) := by decide +kernel
theorem dX3_drop_6 : decode cX3_drop 6 = .ok (.iconst 0, 1) := by decide +kernel
theorem dX3_drop_7 : decode cX3_drop 7 = .ok (.putfield 21, 3) := by decide +kernel
theorem dX3_drop_10 : decode cX3_drop 10 = .ok (.iload_n 1, 1) := by decide +kernel
theorem dX3_drop_11 : decode cX3_drop 11 = .ok (.ireturn, 1) := by decide +kernel
set_option maxRecDepth 20000 in
theorem ggX3_areSo_X5_answerer : GoodIn wsX3_areSo wsX5_answerer := goodIn_r _ [9, 10, 11, 16, 17, 18, 19, 20] (by decide +kernel) (by decide +kernel)
set_option maxRecDepth 20000 in
theorem gX3_areSo_X5_answerer : GoodIn wsX3_areSo (wsV RX3 25 RX5 yX5_answerer wsX5_answerer) := goodIn_app (goodIn_of _ (by decide +kernel)) ggX3_areSo_X5_answerer
theorem dX3_areSo_0 : decode cX3_areSo 0 = .ok (.iconst 0, 1) := by decide +kernel
theorem dX3_areSo_1 : decode cX3_areSo 1 = .ok (.istore_n 2, 1) := by decide +kernel
theorem dX3_areSo_2 : decode cX3_areSo 2 = .ok (.iload_n 2, 1) := by decide +kernel
theorem dX3_areSo_3 : decode cX3_areSo 3 = .ok (.aload_n 0, 1) := by decide +kernel
theorem dX3_areSo_4 : decode cX3_areSo 4 = .ok (.getfield 21, 3) := by decide +kernel
theorem dX3_areSo_7 : decode cX3_areSo 7 = .ok (.if_icmp .ge 37, 3) := by decide +kernel
theorem dX3_areSo_10 : decode cX3_areSo 10 = .ok (.aload_n 1, 1) := by decide +kernel
theorem dX3_areSo_11 : decode cX3_areSo 11 = .ok (.aload_n 0, 1) := by decide +kernel
theorem dX3_areSo_12 : decode cX3_areSo 12 = .ok (.getfield 9, 3) := by decide +kernel
theorem dX3_areSo_15 : decode cX3_areSo 15 = .ok (.iload_n 2, 1) := by decide +kernel
theorem dX3_areSo_16 : decode cX3_areSo 16 = .ok (.iaload, 1) := by decide +kernel
theorem dX3_areSo_17 : decode cX3_areSo 17 = .ok (.aload_n 0, 1) := by decide +kernel
theorem dX3_areSo_18 : decode cX3_areSo 18 = .ok (.getfield 15, 3) := by decide +kernel
theorem dX3_areSo_21 : decode cX3_areSo 21 = .ok (.iload_n 2, 1) := by decide +kernel
theorem dX3_areSo_22 : decode cX3_areSo 22 = .ok (.iaload, 1) := by decide +kernel
theorem dX3_areSo_23 : decode cX3_areSo 23 = .ok (.iconst 0, 1) := by decide +kernel
theorem dX3_areSo_24 : decode cX3_areSo 24 = .ok (.invokevirtual 25, 3) := by decide +kernel
theorem dX3_areSo_27 : decode cX3_areSo 27 = .ok (.aload_n 0, 1) := by decide +kernel
theorem dX3_areSo_28 : decode cX3_areSo 28 = .ok (.getfield 18, 3) := by decide +kernel
theorem dX3_areSo_31 : decode cX3_areSo 31 = .ok (.iload_n 2, 1) := by decide +kernel
theorem dX3_areSo_32 : decode cX3_areSo 32 = .ok (.iaload, 1) := by decide +kernel
theorem dX3_areSo_33 : decode cX3_areSo 33 = .ok (.if_icmp .eq 5, 3) := by decide +kernel
theorem dX3_areSo_36 : decode cX3_areSo 36 = .ok (.iconst 0, 1) := by decide +kernel
theorem dX3_areSo_37 : decode cX3_areSo 37 = .ok (.ireturn, 1) := by decide +kernel
theorem dX3_areSo_38 : decode cX3_areSo 38 = .ok (.iinc 2 1, 3) := by decide +kernel
theorem dX3_areSo_41 : decode cX3_areSo 41 = .ok (.goto (-39), 3) := by decide +kernel
theorem dX3_areSo_44 : decode cX3_areSo 44 = .ok (.iconst 1, 1) := by decide +kernel
theorem dX3_areSo_45 : decode cX3_areSo 45 = .ok (.ireturn, 1) := by decide +kernel
set_option maxRecDepth 20000 in
theorem ggX4_init_X0_init : GoodIn wsX4_init wsX0_init := goodIn_r _ [9, 10, 2, 3, 11, 12, 13, 14, 15, 16, 17, 18, 22, 23, 24, 25, 26, 27, 28, 29, 30, 31, 32] (by decide +kernel) (by decide +kernel)
set_option maxRecDepth 20000 in
theorem gX4_init_X0_init_n17 : GoodIn wsX4_init (wsX0_init) := ggX4_init_X0_init
theorem dX4_init_0 : decode cX4_init 0 = .ok (.aload_n 0, 1) := by decide +kernel
theorem dX4_init_1 : decode cX4_init 1 = .ok (.invokespecial 3, 3) := by decide +kernel
theorem dX4_init_4 : decode cX4_init 4 = .ok (.aload_n 0, 1) := by decide +kernel
theorem dX4_init_5 : decode cX4_init 5 = .ok (.bipush 10, 2) := by decide +kernel
theorem dX4_init_7 : decode cX4_init 7 = .ok (.anewarray 9, 3) := by decide +kernel
theorem dX4_init_10 : decode cX4_init 10 = .ok (.putfield 11, 3) := by decide +kernel
theorem dX4_init_13 : decode cX4_init 13 = .ok (.iconst 0, 1) := by decide +kernel
theorem dX4_init_14 : decode cX4_init 14 = .ok (.istore_n 1, 1) := by decide +kernel
theorem dX4_init_15 : decode cX4_init 15 = .ok (.iload_n 1, 1) := by decide +kernel
theorem dX4_init_16 : decode cX4_init 16 = .ok (.bipush 10, 2) := by decide +kernel
theorem dX4_init_18 : decode cX4_init 18 = .ok (.if_icmp .ge 22, 3) := by decide +kernel
theorem dX4_init_21 : decode cX4_init 21 = .ok (.aload_n 0, 1) := by decide +kernel
theorem dX4_init_22 : decode cX4_init 22 = .ok (.getfield 11, 3) := by decide +kernel
theorem dX4_init_25 : decode cX4_init 25 = .ok (.iload_n 1, 1) := by decide +kernel
theorem dX4_init_26 : decode cX4_init 26 = .ok (.new 9, 3) := by decide +kernel
theorem dX4_init_29 : decode cX4_init 29 = .ok (.dup, 1) := by decide +kernel
theorem dX4_init_30 : decode cX4_init 30 = .ok (.invokespecial 17, 3) := by decide +kernel
theorem dX4_init_33 : decode cX4_init 33 = .ok (.aastore, 1) := by decide +kernel
theorem dX4_init_34 : decode cX4_init 34 = .ok (.iinc 1 1, 3) := by decide +kernel
theorem dX4_init_37 : decode cX4_init 37 = .ok (.goto (-22), 3) := by decide +kernel
theorem dX4_init_40 : decode cX4_init 40 = .ok (.return_, 1) := by decide +kernel
set_option maxRecDepth 20000 in
theorem ggX4_remember_X0_copy : GoodIn wsX4_remember wsX0_copy := goodIn_r _ [12, 13, 14, 15, 16, 17, 18, 19, 20, 21, 22, 23, 24, 25, 26, 27, 31, 32, 33, 34, 35, 36, 37, 38, 39, 40, 41] (by decide +kernel) (by decide +kernel)
set_option maxRecDepth 20000 in
theorem gX4_remember_X0_copy : GoodIn wsX4_remember (wsV RX4 22 RX0 yX0_copy wsX0_copy) := goodIn_app (goodIn_of _ (by decide +kernel)) ggX4_remember_X0_copy
theorem dX4_remember_0 : decode cX4_remember 0 = .ok (.aload_n 0, 1) := by decide +kernel
theorem dX4_remember_1 : decode cX4_remember 1 = .ok (.getfield 11, 3) := by decide +kernel
theorem dX4_remember_4 : decode cX4_remember 4 = .ok (.aload_n 0, 1) := by decide +kernel
theorem dX4_remember_5 : decode cX4_remember 5 = .ok (.getfield 18, 3) := by decide +kernel
theorem dX4_remember_8 : decode cX4_remember 8 = .ok (.aaload, 1) := by decide +kernel
theorem dX4_remember_9 : decode cX4_remember 9 = .ok (.aload_n 1, 1) := by decide +kernel
theorem dX4_remember_10 : decode cX4_remember 10 = .ok (.invokevirtual 22, 3) := by decide +kernel
theorem dX4_remember_13 : decode cX4_remember 13 = .ok (.aload_n 0, 1) := by decide +kernel
theorem dX4_remember_14 : decode cX4_remember 14 = .ok (.aload_n 0, 1) := by decide +kernel
theorem dX4_remember_15 : decode cX4_remember 15 = .ok (.getfield 18, 3) := by decide +kernel
theorem dX4_remember_18 : decode cX4_remember 18 = .ok (.iconst 1, 1) := by decide +kernel
theorem dX4_remember_19 : decode cX4_remember 19 = .ok (.iadd, 1) := by decide +kernel
theorem dX4_remember_20 : decode cX4_remember 20 = .ok (.bipush 10, 2) := by decide +kernel
theorem dX4_remember_22 : decode cX4_remember 22 = .ok (.irem, 1) := by decide +kernel
theorem dX4_remember_23 : decode cX4_remember 23 = .ok (.putfield 18, 3) := by decide +kernel
theorem dX4_remember_26 : decode cX4_remember 26 = .ok (.aload_n 0, 1) := by decide +kernel
theorem dX4_remember_27 : decode cX4_remember 27 = .ok (.aload_n 0, 1) := by decide +kernel
theorem dX4_remember_28 : decode cX4_remember 28 = .ok (.getfield 26, 3) := by decide +kernel
theorem dX4_remember_31 : decode cX4_remember 31 = .ok (.iconst 1, 1) := by decide +kernel
theorem dX4_remember_32 : decode cX4_remember 32 = .ok (.iadd, 1) := by decide +kernel
theorem dX4_remember_33 : decode cX4_remember 33 = .ok (.bipush 10, 2) := by decide +kernel
theorem dX4_remember_35 : decode cX4_remember 35 = .ok (.invokestatic 29, 3) := by decide +kernel
theorem dX4_remember_38 : decode cX4_remember 38 = .ok (.putfield 26, 3) := by decide +kernel
theorem dX4_remember_41 : decode cX4_remember 41 = .ok (.return_, 1) := by decide +kernel
set_option maxRecDepth 20000 in
theorem ggX4_recall_X0_copy : GoodIn wsX4_recall wsX0_copy := goodIn_r _ [8, 9, 10, 11, 12, 13, 14, 15, 16, 17, 18, 19, 20, 21, 22, 23, 27, 28, 29, 30, 31, 32, 33, 34, 35, 36, 37] (by decide +kernel) (by decide +kernel)
set_option maxRecDepth 20000 in
theorem gX4_recall_X0_copy : GoodIn wsX4_recall (wsV RX4 22 RX0 yX0_copy wsX0_copy) := goodIn_app (goodIn_of _ (by decide +kernel)) ggX4_recall_X0_copy
theorem dX4_recall_0 : decode cX4_recall 0 = .ok (.aload_n 0, 1) := by decide +kernel
theorem dX4_recall_1 : decode cX4_recall 1 = .ok (.aload_n 0, 1) := by decide +kernel
theorem dX4_recall_2 : decode cX4_recall 2 = .ok (.getfield 18, 3) := by decide +kernel
theorem dX4_recall_5 : decode cX4_recall 5 = .ok (.bipush 10, 2) := by decide +kernel
theorem dX4_recall_7 : decode cX4_recall 7 = .ok (.iadd, 1) := by decide +kernel
theorem dX4_recall_8 : decode cX4_recall 8 = .ok (.iconst 1, 1) := by decide +kernel
theorem dX4_recall_9 : decode cX4_recall 9 = .ok (.isub, 1) := by decide +kernel
theorem dX4_recall_10 : decode cX4_recall 10 = .ok (.bipush 10, 2) := by decide +kernel
theorem dX4_recall_12 : decode cX4_recall 12 = .ok (.irem, 1) := by decide +kernel
theorem dX4_recall_13 : decode cX4_recall 13 = .ok (.putfield 18, 3) := by decide +kernel
theorem dX4_recall_16 : decode cX4_recall 16 = .ok (.aload_n 0, 1) := by decide +kernel
theorem dX4_recall_17 : decode cX4_recall 17 = .ok (.dup, 1) := by decide +kernel
theorem dX4_recall_18 : decode cX4_recall 18 = .ok (.getfield 26, 3) := by decide +kernel
theorem dX4_recall_21 : decode cX4_recall 21 = .ok (.iconst 1, 1) := by decide +kernel
theorem dX4_recall_22 : decode cX4_recall 22 = .ok (.isub, 1) := by decide +kernel
theorem dX4_recall_23 : decode cX4_recall 23 = .ok (.putfield 26, 3) := by decide +kernel
theorem dX4_recall_26 : decode cX4_recall 26 = .ok (.aload_n 1, 1) := by decide +kernel
theorem dX4_recall_27 : decode cX4_recall 27 = .ok (.aload_n 0, 1) := by decide +kernel
theorem dX4_recall_28 : decode cX4_recall 28 = .ok (.getfield 11, 3) := by decide +kernel
theorem dX4_recall_31 : decode cX4_recall 31 = .ok (.aload_n 0, 1) := by decide +kernel
theorem dX4_recall_32 : decode cX4_recall 32 = .ok (.getfield 18, 3) := by decide +kernel
theorem dX4_recall_35 : decode cX4_recall 35 = .ok (.aaload, 1) := by decide +kernel
theorem dX4_recall_36 : decode cX4_recall 36 = .ok (.invokevirtual 22, 3) := by decide +kernel
theorem dX4_recall_39 : decode cX4_recall 39 = .ok (.return_, 1) := by decide +kernel
theorem dX4_drop_0 : decode cX4_drop 0 = .ok (.aload_n 0, 1) := by decide +kernel
theorem dX4_drop_1 : decode cX4_drop 1 = .ok (.iconst 0, 1) := by decide +kernel
theorem dX4_drop_2 : decode cX4_drop 2 = .ok (.putfield 26, 3) := by decide +kernel
theorem dX4_drop_5 : decode cX4_drop 5 = .ok (.return_, 1) := by decide +kernel
theorem dX5_init_0 : decode cX5_init 0 = .ok (.aload_n 0, 1) := by decide +kernel
theorem dX5_init_1 : decode cX5_init 1 = .ok (.invokespecial 3, 3) := by decide +kernel
theorem dX5_init_4 : decode cX5_init 4 = .ok (.aload_n 0, 1) := by decide +kernel
theorem dX5_init_5 : decode cX5_init 5 = .ok (.bipush 9, 2) := by decide +kernel
theorem dX5_init_7 : decode cX5_init 7 = .ok (.putfield 9, 3) := by decide +kernel
theorem dX5_init_10 : decode cX5_init 10 = .ok (.aload_n 0, 1) := by decide +kernel
theorem dX5_init_11 : decode cX5_init 11 = .ok (.bipush 6, 2) := by decide +kernel
theorem dX5_init_13 : decode cX5_init 13 = .ok (.newarray .int, 2) := by decide +kernel
theorem dX5_init_15 : decode cX5_init 15 = .ok (.putfield 15, 3) := by decide +kernel
theorem dX5_init_18 : decode cX5_init 18 = .ok (.aload_n 0, 1) := by decide +kernel
theorem dX5_init_19 : decode cX5_init 19 = .ok (.bipush 6, 2) := by decide +kernel
theorem dX5_init_21 : decode cX5_init 21 = .ok (.newarray .int, 2) := by decide +kernel
theorem dX5_init_23 : decode cX5_init 23 = .ok (.putfield 19, 3) := by decide +kernel
theorem dX5_init_26 : decode cX5_init 26 = .ok (.aload_n 0, 1) := by decide +kernel
theorem dX5_init_27 : decode cX5_init 27 = .ok (.bipush 6, 2) := by decide +kernel
theorem dX5_init_29 : decode cX5_init 29 = .ok (.iconst 5, 1) := by decide +kernel
theorem dX5_init_30 : decode cX5_init 30 = .ok (.multianewarray 22 2, 4) := by decide +kernel
theorem dX5_init_34 : decode cX5_init 34 = .ok (.putfield 24, 3) := by decide +kernel
theorem dX5_init_37 : decode cX5_init 37 = .ok (.return_, 1) := by decide +kernel
theorem dX5_blank_0 : decode cX5_blank 0 = .ok (.aload_n 0, 1) := by decide +kernel
theorem dX5_blank_1 : decode cX5_blank 1 = .ok (.iconst 0, 1) := by decide +kernel
theorem dX5_blank_2 : decode cX5_blank 2 = .ok (.putfield 27, 3) := by decide +kernel
theorem dX5_blank_5 : decode cX5_blank 5 = .ok (.aload_n 0, 1) := by decide +kernel
theorem dX5_blank_6 : decode cX5_blank 6 = .ok (.bipush 9, 2) := by decide +kernel
theorem dX5_blank_8 : decode cX5_blank 8 = .ok (.putfield 9, 3) := by decide +kernel
theorem dX5_blank_11 : decode cX5_blank 11 = .ok (.return_, 1) := by decide +kernel
theorem dX5_hasWriter_0 : decode cX5_hasWriter 0 = .ok (.iload_n 1, 1) := by decide +kernel
theorem dX5_hasWriter_1 : decode cX5_hasWriter 1 = .ok (.ifCond .lt 15, 3) := by decide +kernel
theorem dX5_hasWriter_4 : decode cX5_hasWriter 4 = .ok (.iload_n 1, 1) := by decide +kernel
theorem dX5_hasWriter_5 : decode cX5_hasWriter 5 = .ok (.aload_n 0, 1) := by decide +kernel
theorem dX5_hasWriter_6 : decode cX5_hasWriter 6 = .ok (.getfield 27, 3) := by decide +kernel
theorem dX5_hasWriter_9 : decode cX5_hasWriter 9 = .ok (.if_icmp .ge 7, 3) := by decide +kernel
theorem dX5_hasWriter_12 : decode cX5_hasWriter 12 = .ok (.iconst 1, 1) := by decide +kernel
theorem dX5_hasWriter_13 : decode cX5_hasWriter 13 = .ok (.goto 4, 3) := by decide +kernel
theorem dX5_hasWriter_16 : decode cX5_hasWriter 16 = .ok (.iconst 0, 1) := by decide +kernel
theorem dX5_hasWriter_17 : decode cX5_hasWriter 17 = .ok (.ireturn, 1) := by decide +kernel
end
section
theorem dX5_everybody_0 : decode cX5_everybody 0 = .ok (.iconst 1, 1) := by decide +kernel
theorem dX5_everybody_1 : decode cX5_everybody 1 = .ok (.aload_n 0, 1) := by decide +kernel
theorem dX5_everybody_2 : decode cX5_everybody 2 = .ok (.getfield 27, 3) := by decide +kernel
theorem dX5_everybody_5 : decode cX5_everybody 5 = .ok (.ishl, 1) := by decide +kernel
theorem dX5_everybody_6 : decode cX5_everybody 6 = .ok (.iconst 1, 1) := by decide +kernel
theorem dX5_everybody_7 : decode cX5_everybody 7 = .ok (.isub, 1) := by decide +kernel
theorem dX5_everybody_8 : decode cX5_everybody 8 = .ok (.ireturn, 1) := by decide +kernel
theorem dX5_answerer_0 : decode cX5_answerer 0 = .ok (.bipush (-9), 2) := by decide +kernel
theorem dX5_answerer_2 : decode cX5_answerer 2 = .ok (.istore 4, 2) := by decide +kernel
theorem dX5_answerer_4 : decode cX5_answerer 4 = .ok (.iconst 0, 1) := by decide +kernel
theorem dX5_answerer_5 : decode cX5_answerer 5 = .ok (.istore 5, 2) := by decide +kernel
theorem dX5_answerer_7 : decode cX5_answerer 7 = .ok (.iconst 0, 1) := by decide +kernel
theorem dX5_answerer_8 : decode cX5_answerer 8 = .ok (.istore 6, 2) := by decide +kernel
theorem dX5_answerer_10 : decode cX5_answerer 10 = .ok (.iload 6, 2) := by decide +kernel
theorem dX5_answerer_12 : decode cX5_answerer 12 = .ok (.aload_n 0, 1) := by decide +kernel
theorem dX5_answerer_13 : decode cX5_answerer 13 = .ok (.getfield 27, 3) := by decide +kernel
theorem dX5_answerer_16 : decode cX5_answerer 16 = .ok (.if_icmp .ge 65, 3) := by decide +kernel
theorem dX5_answerer_19 : decode cX5_answerer 19 = .ok (.iload 6, 2) := by decide +kernel
theorem dX5_answerer_21 : decode cX5_answerer 21 = .ok (.iload_n 1, 1) := by decide +kernel
theorem dX5_answerer_22 : decode cX5_answerer 22 = .ok (.if_icmp .eq 16, 3) := by decide +kernel
theorem dX5_answerer_25 : decode cX5_answerer 25 = .ok (.iload_n 3, 1) := by decide +kernel
theorem dX5_answerer_26 : decode cX5_answerer 26 = .ok (.iload 6, 2) := by decide +kernel
theorem dX5_answerer_28 : decode cX5_answerer 28 = .ok (.ishr, 1) := by decide +kernel
theorem dX5_answerer_29 : decode cX5_answerer 29 = .ok (.iconst 1, 1) := by decide +kernel
theorem dX5_answerer_30 : decode cX5_answerer 30 = .ok (.iand, 1) := by decide +kernel
theorem dX5_answerer_31 : decode cX5_answerer 31 = .ok (.ifCond .ne 7, 3) := by decide +kernel
theorem dX5_answerer_34 : decode cX5_answerer 34 = .ok (.iconst 1, 1) := by decide +kernel
theorem dX5_answerer_35 : decode cX5_answerer 35 = .ok (.goto 4, 3) := by decide +kernel
theorem dX5_answerer_38 : decode cX5_answerer 38 = .ok (.iconst 0, 1) := by decide +kernel
theorem dX5_answerer_39 : decode cX5_answerer 39 = .ok (.istore 7, 2) := by decide +kernel
theorem dX5_answerer_41 : decode cX5_answerer 41 = .ok (.iload 7, 2) := by decide +kernel
theorem dX5_answerer_43 : decode cX5_answerer 43 = .ok (.ifCond .eq 32, 3) := by decide +kernel
theorem dX5_answerer_46 : decode cX5_answerer 46 = .ok (.aload_n 0, 1) := by decide +kernel
theorem dX5_answerer_47 : decode cX5_answerer 47 = .ok (.getfield 24, 3) := by decide +kernel
theorem dX5_answerer_50 : decode cX5_answerer 50 = .ok (.iload 6, 2) := by decide +kernel
theorem dX5_answerer_52 : decode cX5_answerer 52 = .ok (.aaload, 1) := by decide +kernel
theorem dX5_answerer_53 : decode cX5_answerer 53 = .ok (.iload_n 2, 1) := by decide +kernel
theorem dX5_answerer_54 : decode cX5_answerer 54 = .ok (.iaload, 1) := by decide +kernel
theorem dX5_answerer_55 : decode cX5_answerer 55 = .ok (.iload 5, 2) := by decide +kernel
theorem dX5_answerer_57 : decode cX5_answerer 57 = .ok (.if_icmp .le 18, 3) := by decide +kernel
theorem dX5_answerer_60 : decode cX5_answerer 60 = .ok (.aload_n 0, 1) := by decide +kernel
theorem dX5_answerer_61 : decode cX5_answerer 61 = .ok (.getfield 24, 3) := by decide +kernel
theorem dX5_answerer_64 : decode cX5_answerer 64 = .ok (.iload 6, 2) := by decide +kernel
theorem dX5_answerer_66 : decode cX5_answerer 66 = .ok (.aaload, 1) := by decide +kernel
theorem dX5_answerer_67 : decode cX5_answerer 67 = .ok (.iload_n 2, 1) := by decide +kernel
theorem dX5_answerer_68 : decode cX5_answerer 68 = .ok (.iaload, 1) := by decide +kernel
theorem dX5_answerer_69 : decode cX5_answerer 69 = .ok (.istore 5, 2) := by decide +kernel
theorem dX5_answerer_71 : decode cX5_answerer 71 = .ok (.iload 6, 2) := by decide +kernel
theorem dX5_answerer_73 : decode cX5_answerer 73 = .ok (.istore 4, 2) := by decide +kernel
theorem dX5_answerer_75 : decode cX5_answerer 75 = .ok (.iinc 6 1, 3) := by decide +kernel
theorem dX5_answerer_78 : decode cX5_answerer 78 = .ok (.goto (-68), 3) := by decide +kernel
theorem dX5_answerer_81 : decode cX5_answerer 81 = .ok (.iload 4, 2) := by decide +kernel
theorem dX5_answerer_83 : decode cX5_answerer 83 = .ok (.ireturn, 1) := by decide +kernel
theorem dX5_answerOn_0 : decode cX5_answerOn 0 = .ok (.aload_n 0, 1) := by decide +kernel
theorem dX5_answerOn_1 : decode cX5_answerOn 1 = .ok (.getfield 19, 3) := by decide +kernel
theorem dX5_answerOn_4 : decode cX5_answerOn 4 = .ok (.iload_n 1, 1) := by decide +kernel
theorem dX5_answerOn_5 : decode cX5_answerOn 5 = .ok (.iaload, 1) := by decide +kernel
theorem dX5_answerOn_6 : decode cX5_answerOn 6 = .ok (.iconst 5, 1) := by decide +kernel
theorem dX5_answerOn_7 : decode cX5_answerOn 7 = .ok (.if_icmp .ne 7, 3) := by decide +kernel
theorem dX5_answerOn_10 : decode cX5_answerOn 10 = .ok (.iload_n 2, 1) := by decide +kernel
theorem dX5_answerOn_11 : decode cX5_answerOn 11 = .ok (.goto 9, 3) := by decide +kernel
theorem dX5_answerOn_14 : decode cX5_answerOn 14 = .ok (.aload_n 0, 1) := by decide +kernel
theorem dX5_answerOn_15 : decode cX5_answerOn 15 = .ok (.getfield 19, 3) := by decide +kernel
theorem dX5_answerOn_18 : decode cX5_answerOn 18 = .ok (.iload_n 1, 1) := by decide +kernel
theorem dX5_answerOn_19 : decode cX5_answerOn 19 = .ok (.iaload, 1) := by decide +kernel
theorem dX5_answerOn_20 : decode cX5_answerOn 20 = .ok (.ireturn, 1) := by decide +kernel
theorem dX6_init_0 : decode cX6_init 0 = .ok (.aload_n 0, 1) := by decide +kernel
theorem dX6_init_1 : decode cX6_init 1 = .ok (.invokespecial 3, 3) := by decide +kernel
theorem dX6_init_4 : decode cX6_init 4 = .ok (.aload_n 0, 1) := by decide +kernel
theorem dX6_init_5 : decode cX6_init 5 = .ok (.sipush 200, 3) := by decide +kernel
theorem dX6_init_8 : decode cX6_init 8 = .ok (.newarray .int, 2) := by decide +kernel
theorem dX6_init_10 : decode cX6_init 10 = .ok (.putfield 9, 3) := by decide +kernel
theorem dX6_init_13 : decode cX6_init 13 = .ok (.return_, 1) := by decide +kernel
theorem dX6_add_0 : decode cX6_add 0 = .ok (.aload_n 0, 1) := by decide +kernel
theorem dX6_add_1 : decode cX6_add 1 = .ok (.getfield 15, 3) := by decide +kernel
theorem dX6_add_4 : decode cX6_add 4 = .ok (.sipush 200, 3) := by decide +kernel
theorem dX6_add_7 : decode cX6_add 7 = .ok (.if_icmp .lt 6, 3) := by decide +kernel
theorem dX6_add_10 : decode cX6_add 10 = .ok (.bipush (-3), 2) := by decide +kernel
theorem dX6_add_12 : decode cX6_add 12 = .ok (.ireturn, 1) := by decide +kernel
theorem dX6_add_13 : decode cX6_add 13 = .ok (.aload_n 0, 1) := by decide +kernel
theorem dX6_add_14 : decode cX6_add 14 = .ok (.getfield 9, 3) := by decide +kernel
theorem dX6_add_17 : decode cX6_add 17 = .ok (.aload_n 0, 1) := by decide +kernel
theorem dX6_add_18 : decode cX6_add 18 = .ok (.getfield 15, 3) := by decide +kernel
theorem dX6_add_21 : decode cX6_add 21 = .ok (.iload_n 1, 1) := by decide +kernel
theorem dX6_add_22 : decode cX6_add 22 = .ok (.iastore, 1) := by decide +kernel
theorem dX6_add_23 : decode cX6_add 23 = .ok (.aload_n 0, 1) := by decide +kernel
theorem dX6_add_24 : decode cX6_add 24 = .ok (.dup, 1) := by decide +kernel
theorem dX6_add_25 : decode cX6_add 25 = .ok (.getfield 15, 3) := by decide +kernel
theorem dX6_add_28 : decode cX6_add 28 = .ok (.iconst 1, 1) := by decide +kernel
theorem dX6_add_29 : decode cX6_add 29 = .ok (.iadd, 1) := by decide +kernel
theorem dX6_add_30 : decode cX6_add 30 = .ok (.putfield 15, 3) := by decide +kernel
theorem dX6_add_33 : decode cX6_add 33 = .ok (.aload_n 0, 1) := by decide +kernel
theorem dX6_add_34 : decode cX6_add 34 = .ok (.getfield 15, 3) := by decide +kernel
theorem dX6_add_37 : decode cX6_add 37 = .ok (.ireturn, 1) := by decide +kernel
theorem dX6_empty_0 : decode cX6_empty 0 = .ok (.aload_n 0, 1) := by decide +kernel
theorem dX6_empty_1 : decode cX6_empty 1 = .ok (.getfield 15, 3) := by decide +kernel
theorem dX6_empty_4 : decode cX6_empty 4 = .ok (.istore_n 1, 1) := by decide +kernel
theorem dX6_empty_5 : decode cX6_empty 5 = .ok (.aload_n 0, 1) := by decide +kernel
theorem dX6_empty_6 : decode cX6_empty 6 = .ok (.iconst 0, 1) := by decide +kernel
theorem dX6_empty_7 : decode cX6_empty 7 = .ok (.putfield 15, 3) := by decide +kernel
theorem dX6_empty_10 : decode cX6_empty 10 = .ok (.iload_n 1, 1) := by decide +kernel
theorem dX6_empty_11 : decode cX6_empty 11 = .ok (.ireturn, 1) := by decide +kernel
set_option maxRecDepth 20000 in
theorem ggX6_readInto_X5_blank : GoodIn wsX6_readInto wsX5_blank := goodIn_r _ [9, 10, 11, 55, 56, 57, 58, 59] (by decide +kernel) (by decide +kernel)
set_option maxRecDepth 20000 in
theorem gX6_readInto_X5_blank : GoodIn wsX6_readInto (wsV RX6 19 RX5 yX5_blank wsX5_blank) := goodIn_app (goodIn_of _ (by decide +kernel)) ggX6_readInto_X5_blank
set_option maxRecDepth 20000 in
theorem ggX6_readInto_X6_nextToken : GoodIn wsX6_readInto wsX6_nextToken := goodIn_r _ [16, 1, 17, 18, 4, 3, 19, 20, 15, 21, 22, 23, 24, 25, 26, 48, 49, 50, 51, 52, 53, 54] (by decide +kernel) (by decide +kernel)
set_option maxRecDepth 20000 in
theorem gX6_readInto_X6_nextToken : GoodIn wsX6_readInto (wsV RX6 31 RX6 yX6_nextToken wsX6_nextToken) := goodIn_app (goodIn_of _ (by decide +kernel)) ggX6_readInto_X6_nextToken
set_option maxRecDepth 20000 in
theorem ggX6_readInto_X6_readWriter : GoodIn wsX6_readInto wsX6_readWriter := goodIn_r _ [30, 31, 32, 26, 33, 34, 35, 36, 37, 15, 38, 3, 12, 13, 14, 16, 1, 17, 18, 4, 19, 20, 21, 22, 23, 24, 25, 55, 56, 57, 58, 59, 48, 49, 50, 51, 52, 53, 54] (by decide +kernel) (by decide +kernel)
set_option maxRecDepth 20000 in
theorem gX6_readInto_X6_readWriter : GoodIn wsX6_readInto (wsV RX6 37 RX6 yX6_readWriter wsX6_readWriter) := goodIn_app (goodIn_of _ (by decide +kernel)) ggX6_readInto_X6_readWriter
set_option maxRecDepth 20000 in
theorem ggX6_readInto_X6_readTerm : GoodIn wsX6_readInto wsX6_readTerm := goodIn_r _ [42, 2, 26, 43, 35, 36, 37, 15, 38, 3, 12, 13, 14, 16, 1, 17, 18, 4, 19, 20, 21, 22, 23, 24, 25, 48, 49, 50, 51, 52, 53, 54, 55, 56, 57, 58, 59] (by decide +kernel) (by decide +kernel)
set_option maxRecDepth 20000 in
theorem gX6_readInto_X6_readTerm : GoodIn wsX6_readInto (wsV RX6 41 RX6 yX6_readTerm wsX6_readTerm) := goodIn_app (goodIn_of _ (by decide +kernel)) ggX6_readInto_X6_readTerm
set_option maxRecDepth 20000 in
theorem ggX6_readInto_X6_readSemicolon : GoodIn wsX6_readInto wsX6_readSemicolon := goodIn_r _ [47, 3, 12, 13, 14, 15, 16, 1, 17, 18, 4, 19, 20, 21, 22, 23, 24, 25, 26, 48, 49, 50, 51, 52, 53, 54] (by decide +kernel) (by decide +kernel)
set_option maxRecDepth 20000 in
theorem gX6_readInto_X6_readSemicolon : GoodIn wsX6_readInto (wsV RX6 44 RX6 yX6_readSemicolon wsX6_readSemicolon) := goodIn_app (goodIn_of _ (by decide +kernel)) ggX6_readInto_X6_readSemicolon
theorem dX6_readInto_0 : decode cX6_readInto 0 = .ok (.aload_n 1, 1) := by decide +kernel
theorem dX6_readInto_1 : decode cX6_readInto 1 = .ok (.invokevirtual 19, 3) := by decide +kernel
theorem dX6_readInto_4 : decode cX6_readInto 4 = .ok (.aload_n 0, 1) := by decide +kernel
theorem dX6_readInto_5 : decode cX6_readInto 5 = .ok (.iconst 0, 1) := by decide +kernel
theorem dX6_readInto_6 : decode cX6_readInto 6 = .ok (.putfield 24, 3) := by decide +kernel
theorem dX6_readInto_9 : decode cX6_readInto 9 = .ok (.aload_n 0, 1) := by decide +kernel
theorem dX6_readInto_10 : decode cX6_readInto 10 = .ok (.iconst 0, 1) := by decide +kernel
theorem dX6_readInto_11 : decode cX6_readInto 11 = .ok (.putfield 27, 3) := by decide +kernel
theorem dX6_readInto_14 : decode cX6_readInto 14 = .ok (.iconst 0, 1) := by decide +kernel
theorem dX6_readInto_15 : decode cX6_readInto 15 = .ok (.istore_n 2, 1) := by decide +kernel
theorem dX6_readInto_16 : decode cX6_readInto 16 = .ok (.iload_n 2, 1) := by decide +kernel
theorem dX6_readInto_17 : decode cX6_readInto 17 = .ok (.bipush 7, 2) := by decide +kernel
theorem dX6_readInto_19 : decode cX6_readInto 19 = .ok (.if_icmp .gt 77, 3) := by decide +kernel
theorem dX6_readInto_22 : decode cX6_readInto 22 = .ok (.aload_n 0, 1) := by decide +kernel
theorem dX6_readInto_23 : decode cX6_readInto 23 = .ok (.invokevirtual 31, 3) := by decide +kernel
theorem dX6_readInto_26 : decode cX6_readInto 26 = .ok (.aload_n 0, 1) := by decide +kernel
theorem dX6_readInto_27 : decode cX6_readInto 27 = .ok (.getfield 34, 3) := by decide +kernel
theorem dX6_readInto_30 : decode cX6_readInto 30 = .ok (.iconst (-1), 1) := by decide +kernel
theorem dX6_readInto_31 : decode cX6_readInto 31 = .ok (.if_icmp .ne 5, 3) := by decide +kernel
theorem dX6_readInto_34 : decode cX6_readInto 34 = .ok (.iload_n 2, 1) := by decide +kernel
theorem dX6_readInto_35 : decode cX6_readInto 35 = .ok (.ireturn, 1) := by decide +kernel
theorem dX6_readInto_36 : decode cX6_readInto 36 = .ok (.aload_n 0, 1) := by decide +kernel
theorem dX6_readInto_37 : decode cX6_readInto 37 = .ok (.getfield 34, 3) := by decide +kernel
theorem dX6_readInto_40 : decode cX6_readInto 40 = .ok (.bipush 119, 2) := by decide +kernel
theorem dX6_readInto_42 : decode cX6_readInto 42 = .ok (.if_icmp .ne 11, 3) := by decide +kernel
theorem dX6_readInto_45 : decode cX6_readInto 45 = .ok (.aload_n 0, 1) := by decide +kernel
theorem dX6_readInto_46 : decode cX6_readInto 46 = .ok (.aload_n 1, 1) := by decide +kernel
theorem dX6_readInto_47 : decode cX6_readInto 47 = .ok (.invokevirtual 37, 3) := by decide +kernel
theorem dX6_readInto_50 : decode cX6_readInto 50 = .ok (.goto 25, 3) := by decide +kernel
theorem dX6_readInto_53 : decode cX6_readInto 53 = .ok (.aload_n 0, 1) := by decide +kernel
theorem dX6_readInto_54 : decode cX6_readInto 54 = .ok (.getfield 34, 3) := by decide +kernel
theorem dX6_readInto_57 : decode cX6_readInto 57 = .ok (.bipush 116, 2) := by decide +kernel
theorem dX6_readInto_59 : decode cX6_readInto 59 = .ok (.if_icmp .ne 15, 3) := by decide +kernel
theorem dX6_readInto_62 : decode cX6_readInto 62 = .ok (.aload_n 0, 1) := by decide +kernel
theorem dX6_readInto_63 : decode cX6_readInto 63 = .ok (.aload_n 1, 1) := by decide +kernel
theorem dX6_readInto_64 : decode cX6_readInto 64 = .ok (.invokevirtual 41, 3) := by decide +kernel
theorem dX6_readInto_67 : decode cX6_readInto 67 = .ok (.ifCond .eq 7, 3) := by decide +kernel
theorem dX6_readInto_70 : decode cX6_readInto 70 = .ok (.iconst 1, 1) := by decide +kernel
theorem dX6_readInto_71 : decode cX6_readInto 71 = .ok (.goto 4, 3) := by decide +kernel
theorem dX6_readInto_74 : decode cX6_readInto 74 = .ok (.iconst 0, 1) := by decide +kernel
theorem dX6_readInto_75 : decode cX6_readInto 75 = .ok (.istore_n 3, 1) := by decide +kernel
theorem dX6_readInto_76 : decode cX6_readInto 76 = .ok (.iload_n 3, 1) := by decide +kernel
theorem dX6_readInto_77 : decode cX6_readInto 77 = .ok (.ifCond .eq 19, 3) := by decide +kernel
theorem dX6_readInto_80 : decode cX6_readInto 80 = .ok (.aload_n 0, 1) := by decide +kernel
theorem dX6_readInto_81 : decode cX6_readInto 81 = .ok (.invokevirtual 44, 3) := by decide +kernel
theorem dX6_readInto_84 : decode cX6_readInto 84 = .ok (.ifCond .ne 6, 3) := by decide +kernel
theorem dX6_readInto_87 : decode cX6_readInto 87 = .ok (.goto 9, 3) := by decide +kernel
theorem dX6_readInto_90 : decode cX6_readInto 90 = .ok (.iinc 2 1, 3) := by decide +kernel
theorem dX6_readInto_93 : decode cX6_readInto 93 = .ok (.goto (-77), 3) := by decide +kernel
theorem dX6_readInto_96 : decode cX6_readInto 96 = .ok (.bipush (-10), 2) := by decide +kernel
theorem dX6_readInto_98 : decode cX6_readInto 98 = .ok (.aload_n 0, 1) := by decide +kernel
theorem dX6_readInto_99 : decode cX6_readInto 99 = .ok (.getfield 48, 3) := by decide +kernel
theorem dX6_readInto_102 : decode cX6_readInto 102 = .ok (.isub, 1) := by decide +kernel
theorem dX6_readInto_103 : decode cX6_readInto 103 = .ok (.ireturn, 1) := by decide +kernel
set_option maxRecDepth 20000 in
theorem ggX6_readWriter_X6_readNumber : GoodIn wsX6_readWriter wsX6_readNumber := goodIn_r _ [10, 11, 3, 12, 13, 14, 9, 15, 16, 17, 18, 19, 20, 21, 22, 23, 24, 25, 26, 32, 33, 34, 35, 36, 37, 38] (by decide +kernel) (by decide +kernel)
set_option maxRecDepth 20000 in
theorem gX6_readWriter_X6_readNumber : GoodIn wsX6_readWriter (wsV RX6 54 RX6 yX6_readNumber wsX6_readNumber) := goodIn_app (goodIn_of _ (by decide +kernel)) ggX6_readWriter_X6_readNumber
theorem dX6_readWriter_0 : decode cX6_readWriter 0 = .ok (.aload_n 1, 1) := by decide +kernel
theorem dX6_readWriter_1 : decode cX6_readWriter 1 = .ok (.getfield 51, 3) := by decide +kernel
theorem dX6_readWriter_4 : decode cX6_readWriter 4 = .ok (.istore_n 2, 1) := by decide +kernel
theorem dX6_readWriter_5 : decode cX6_readWriter 5 = .ok (.iload_n 2, 1) := by decide +kernel
theorem dX6_readWriter_6 : decode cX6_readWriter 6 = .ok (.bipush 6, 2) := by decide +kernel
theorem dX6_readWriter_8 : decode cX6_readWriter 8 = .ok (.if_icmp .ge 13, 3) := by decide +kernel
theorem dX6_readWriter_11 : decode cX6_readWriter 11 = .ok (.aload_n 0, 1) := by decide +kernel
theorem dX6_readWriter_12 : decode cX6_readWriter 12 = .ok (.iconst 1, 1) := by decide +kernel
theorem dX6_readWriter_13 : decode cX6_readWriter 13 = .ok (.bipush 9, 2) := by decide +kernel
theorem dX6_readWriter_15 : decode cX6_readWriter 15 = .ok (.invokevirtual 54, 3) := by decide +kernel
theorem dX6_readWriter_18 : decode cX6_readWriter 18 = .ok (.ifCond .ne 5, 3) := by decide +kernel
theorem dX6_readWriter_21 : decode cX6_readWriter 21 = .ok (.iconst 0, 1) := by decide +kernel
theorem dX6_readWriter_22 : decode cX6_readWriter 22 = .ok (.ireturn, 1) := by decide +kernel
theorem dX6_readWriter_23 : decode cX6_readWriter 23 = .ok (.aload_n 1, 1) := by decide +kernel
theorem dX6_readWriter_24 : decode cX6_readWriter 24 = .ok (.getfield 58, 3) := by decide +kernel
theorem dX6_readWriter_27 : decode cX6_readWriter 27 = .ok (.iload_n 2, 1) := by decide +kernel
theorem dX6_readWriter_28 : decode cX6_readWriter 28 = .ok (.aload_n 0, 1) := by decide +kernel
theorem dX6_readWriter_29 : decode cX6_readWriter 29 = .ok (.getfield 61, 3) := by decide +kernel
theorem dX6_readWriter_32 : decode cX6_readWriter 32 = .ok (.iastore, 1) := by decide +kernel
theorem dX6_readWriter_33 : decode cX6_readWriter 33 = .ok (.aload_n 0, 1) := by decide +kernel
theorem dX6_readWriter_34 : decode cX6_readWriter 34 = .ok (.iconst 0, 1) := by decide +kernel
theorem dX6_readWriter_35 : decode cX6_readWriter 35 = .ok (.iconst 5, 1) := by decide +kernel
theorem dX6_readWriter_36 : decode cX6_readWriter 36 = .ok (.invokevirtual 54, 3) := by decide +kernel
theorem dX6_readWriter_39 : decode cX6_readWriter 39 = .ok (.ifCond .ne 5, 3) := by decide +kernel
theorem dX6_readWriter_42 : decode cX6_readWriter 42 = .ok (.iconst 0, 1) := by decide +kernel
theorem dX6_readWriter_43 : decode cX6_readWriter 43 = .ok (.ireturn, 1) := by decide +kernel
theorem dX6_readWriter_44 : decode cX6_readWriter 44 = .ok (.aload_n 1, 1) := by decide +kernel
theorem dX6_readWriter_45 : decode cX6_readWriter 45 = .ok (.getfield 64, 3) := by decide +kernel
theorem dX6_readWriter_48 : decode cX6_readWriter 48 = .ok (.iload_n 2, 1) := by decide +kernel
theorem dX6_readWriter_49 : decode cX6_readWriter 49 = .ok (.aload_n 0, 1) := by decide +kernel
theorem dX6_readWriter_50 : decode cX6_readWriter 50 = .ok (.getfield 61, 3) := by decide +kernel
theorem dX6_readWriter_53 : decode cX6_readWriter 53 = .ok (.iastore, 1) := by decide +kernel
theorem dX6_readWriter_54 : decode cX6_readWriter 54 = .ok (.iconst 0, 1) := by decide +kernel
theorem dX6_readWriter_55 : decode cX6_readWriter 55 = .ok (.istore_n 3, 1) := by decide +kernel
theorem dX6_readWriter_56 : decode cX6_readWriter 56 = .ok (.iload_n 3, 1) := by decide +kernel
theorem dX6_readWriter_57 : decode cX6_readWriter 57 = .ok (.iconst 5, 1) := by decide +kernel
theorem dX6_readWriter_58 : decode cX6_readWriter 58 = .ok (.if_icmp .ge 33, 3) := by decide +kernel
theorem dX6_readWriter_61 : decode cX6_readWriter 61 = .ok (.aload_n 0, 1) := by decide +kernel
theorem dX6_readWriter_62 : decode cX6_readWriter 62 = .ok (.iconst 0, 1) := by decide +kernel
theorem dX6_readWriter_63 : decode cX6_readWriter 63 = .ok (.bipush 9, 2) := by decide +kernel
theorem dX6_readWriter_65 : decode cX6_readWriter 65 = .ok (.invokevirtual 54, 3) := by decide +kernel
theorem dX6_readWriter_68 : decode cX6_readWriter 68 = .ok (.ifCond .ne 5, 3) := by decide +kernel
theorem dX6_readWriter_71 : decode cX6_readWriter 71 = .ok (.iconst 0, 1) := by decide +kernel
theorem dX6_readWriter_72 : decode cX6_readWriter 72 = .ok (.ireturn, 1) := by decide +kernel
theorem dX6_readWriter_73 : decode cX6_readWriter 73 = .ok (.aload_n 1, 1) := by decide +kernel
theorem dX6_readWriter_74 : decode cX6_readWriter 74 = .ok (.getfield 67, 3) := by decide +kernel
theorem dX6_readWriter_77 : decode cX6_readWriter 77 = .ok (.iload_n 2, 1) := by decide +kernel
theorem dX6_readWriter_78 : decode cX6_readWriter 78 = .ok (.aaload, 1) := by decide +kernel
theorem dX6_readWriter_79 : decode cX6_readWriter 79 = .ok (.iload_n 3, 1) := by decide +kernel
theorem dX6_readWriter_80 : decode cX6_readWriter 80 = .ok (.aload_n 0, 1) := by decide +kernel
theorem dX6_readWriter_81 : decode cX6_readWriter 81 = .ok (.getfield 61, 3) := by decide +kernel
theorem dX6_readWriter_84 : decode cX6_readWriter 84 = .ok (.iastore, 1) := by decide +kernel
theorem dX6_readWriter_85 : decode cX6_readWriter 85 = .ok (.iinc 3 1, 3) := by decide +kernel
theorem dX6_readWriter_88 : decode cX6_readWriter 88 = .ok (.goto (-32), 3) := by decide +kernel
theorem dX6_readWriter_91 : decode cX6_readWriter 91 = .ok (.aload_n 1, 1) := by decide +kernel
theorem dX6_readWriter_92 : decode cX6_readWriter 92 = .ok (.iload_n 2, 1) := by decide +kernel
theorem dX6_readWriter_93 : decode cX6_readWriter 93 = .ok (.iconst 1, 1) := by decide +kernel
theorem dX6_readWriter_94 : decode cX6_readWriter 94 = .ok (.iadd, 1) := by decide +kernel
theorem dX6_readWriter_95 : decode cX6_readWriter 95 = .ok (.putfield 51, 3) := by decide +kernel
theorem dX6_readWriter_98 : decode cX6_readWriter 98 = .ok (.iconst 1, 1) := by decide +kernel
theorem dX6_readWriter_99 : decode cX6_readWriter 99 = .ok (.ireturn, 1) := by decide +kernel
set_option maxRecDepth 20000 in
theorem ggX6_readTerm_X6_readNumber : GoodIn wsX6_readTerm wsX6_readNumber := goodIn_r _ [8, 9, 2, 10, 11, 12, 7, 13, 14, 15, 16, 17, 18, 19, 20, 21, 22, 23, 24, 25, 26, 27, 28, 29, 30, 31] (by decide +kernel) (by decide +kernel)
set_option maxRecDepth 20000 in
theorem gX6_readTerm_X6_readNumber : GoodIn wsX6_readTerm (wsV RX6 54 RX6 yX6_readNumber wsX6_readNumber) := goodIn_app (goodIn_of _ (by decide +kernel)) ggX6_readTerm_X6_readNumber
theorem dX6_readTerm_0 : decode cX6_readTerm 0 = .ok (.aload_n 0, 1) := by decide +kernel
theorem dX6_readTerm_1 : decode cX6_readTerm 1 = .ok (.getfield 27, 3) := by decide +kernel
theorem dX6_readTerm_4 : decode cX6_readTerm 4 = .ok (.ifCond .ne 13, 3) := by decide +kernel
theorem dX6_readTerm_7 : decode cX6_readTerm 7 = .ok (.aload_n 0, 1) := by decide +kernel
theorem dX6_readTerm_8 : decode cX6_readTerm 8 = .ok (.iconst 1, 1) := by decide +kernel
theorem dX6_readTerm_9 : decode cX6_readTerm 9 = .ok (.bipush 20, 2) := by decide +kernel
theorem dX6_readTerm_11 : decode cX6_readTerm 11 = .ok (.invokevirtual 54, 3) := by decide +kernel
theorem dX6_readTerm_14 : decode cX6_readTerm 14 = .ok (.ifCond .ne 5, 3) := by decide +kernel
theorem dX6_readTerm_17 : decode cX6_readTerm 17 = .ok (.iconst 0, 1) := by decide +kernel
theorem dX6_readTerm_18 : decode cX6_readTerm 18 = .ok (.ireturn, 1) := by decide +kernel
theorem dX6_readTerm_19 : decode cX6_readTerm 19 = .ok (.aload_n 0, 1) := by decide +kernel
theorem dX6_readTerm_20 : decode cX6_readTerm 20 = .ok (.iconst 1, 1) := by decide +kernel
theorem dX6_readTerm_21 : decode cX6_readTerm 21 = .ok (.putfield 27, 3) := by decide +kernel
theorem dX6_readTerm_24 : decode cX6_readTerm 24 = .ok (.aload_n 1, 1) := by decide +kernel
theorem dX6_readTerm_25 : decode cX6_readTerm 25 = .ok (.aload_n 0, 1) := by decide +kernel
theorem dX6_readTerm_26 : decode cX6_readTerm 26 = .ok (.getfield 61, 3) := by decide +kernel
theorem dX6_readTerm_29 : decode cX6_readTerm 29 = .ok (.putfield 71, 3) := by decide +kernel
theorem dX6_readTerm_32 : decode cX6_readTerm 32 = .ok (.iconst 1, 1) := by decide +kernel
theorem dX6_readTerm_33 : decode cX6_readTerm 33 = .ok (.ireturn, 1) := by decide +kernel
set_option maxRecDepth 20000 in
theorem ggX6_readSemicolon_X6_nextToken : GoodIn wsX6_readSemicolon wsX6_nextToken := goodIn_r _ [6, 7, 8, 9, 10, 1, 11, 12, 5, 13, 14, 15, 16, 17, 18, 19, 20, 21, 22, 23, 24, 25] (by decide +kernel) (by decide +kernel)
set_option maxRecDepth 20000 in
theorem gX6_readSemicolon_X6_nextToken : GoodIn wsX6_readSemicolon (wsV RX6 31 RX6 yX6_nextToken wsX6_nextToken) := goodIn_app (goodIn_of _ (by decide +kernel)) ggX6_readSemicolon_X6_nextToken
theorem dX6_readSemicolon_0 : decode cX6_readSemicolon 0 = .ok (.aload_n 0, 1) := by decide +kernel
theorem dX6_readSemicolon_1 : decode cX6_readSemicolon 1 = .ok (.invokevirtual 31, 3) := by decide +kernel
theorem dX6_readSemicolon_4 : decode cX6_readSemicolon 4 = .ok (.aload_n 0, 1) := by decide +kernel
theorem dX6_readSemicolon_5 : decode cX6_readSemicolon 5 = .ok (.getfield 34, 3) := by decide +kernel
theorem dX6_readSemicolon_8 : decode cX6_readSemicolon 8 = .ok (.bipush 59, 2) := by decide +kernel
theorem dX6_readSemicolon_10 : decode cX6_readSemicolon 10 = .ok (.if_icmp .ne 7, 3) := by decide +kernel
theorem dX6_readSemicolon_13 : decode cX6_readSemicolon 13 = .ok (.iconst 1, 1) := by decide +kernel
theorem dX6_readSemicolon_14 : decode cX6_readSemicolon 14 = .ok (.goto 4, 3) := by decide +kernel
theorem dX6_readSemicolon_17 : decode cX6_readSemicolon 17 = .ok (.iconst 0, 1) := by decide +kernel
theorem dX6_readSemicolon_18 : decode cX6_readSemicolon 18 = .ok (.ireturn, 1) := by decide +kernel
set_option maxRecDepth 20000 in
theorem ggX6_readNumber_X6_nextToken : GoodIn wsX6_readNumber wsX6_nextToken := goodIn_r _ [7, 8, 9, 10, 11, 1, 12, 13, 6, 14, 15, 16, 17, 18, 2, 19, 20, 21, 22, 23, 24, 25] (by decide +kernel) (by decide +kernel)
set_option maxRecDepth 20000 in
theorem gX6_readNumber_X6_nextToken : GoodIn wsX6_readNumber (wsV RX6 31 RX6 yX6_nextToken wsX6_nextToken) := goodIn_app (goodIn_of _ (by decide +kernel)) ggX6_readNumber_X6_nextToken
theorem dX6_readNumber_0 : decode cX6_readNumber 0 = .ok (.aload_n 0, 1) := by decide +kernel
theorem dX6_readNumber_1 : decode cX6_readNumber 1 = .ok (.invokevirtual 31, 3) := by decide +kernel
theorem dX6_readNumber_4 : decode cX6_readNumber 4 = .ok (.aload_n 0, 1) := by decide +kernel
theorem dX6_readNumber_5 : decode cX6_readNumber 5 = .ok (.getfield 34, 3) := by decide +kernel
theorem dX6_readNumber_8 : decode cX6_readNumber 8 = .ok (.bipush (-2), 2) := by decide +kernel
theorem dX6_readNumber_10 : decode cX6_readNumber 10 = .ok (.if_icmp .ne 23, 3) := by decide +kernel
theorem dX6_readNumber_13 : decode cX6_readNumber 13 = .ok (.aload_n 0, 1) := by decide +kernel
theorem dX6_readNumber_14 : decode cX6_readNumber 14 = .ok (.getfield 61, 3) := by decide +kernel
theorem dX6_readNumber_17 : decode cX6_readNumber 17 = .ok (.iload_n 1, 1) := by decide +kernel
theorem dX6_readNumber_18 : decode cX6_readNumber 18 = .ok (.if_icmp .lt 15, 3) := by decide +kernel
theorem dX6_readNumber_21 : decode cX6_readNumber 21 = .ok (.aload_n 0, 1) := by decide +kernel
theorem dX6_readNumber_22 : decode cX6_readNumber 22 = .ok (.getfield 61, 3) := by decide +kernel
theorem dX6_readNumber_25 : decode cX6_readNumber 25 = .ok (.iload_n 2, 1) := by decide +kernel
theorem dX6_readNumber_26 : decode cX6_readNumber 26 = .ok (.if_icmp .gt 7, 3) := by decide +kernel
theorem dX6_readNumber_29 : decode cX6_readNumber 29 = .ok (.iconst 1, 1) := by decide +kernel
theorem dX6_readNumber_30 : decode cX6_readNumber 30 = .ok (.goto 4, 3) := by decide +kernel
theorem dX6_readNumber_33 : decode cX6_readNumber 33 = .ok (.iconst 0, 1) := by decide +kernel
theorem dX6_readNumber_34 : decode cX6_readNumber 34 = .ok (.ireturn, 1) := by decide +kernel
set_option maxRecDepth 20000 in
theorem ggX6_nextToken_X6_isDigit : GoodIn wsX6_nextToken wsX6_isDigit := goodIn_r _ [9] (by decide +kernel) (by decide +kernel)
set_option maxRecDepth 20000 in
theorem gX6_nextToken_X6_isDigit : GoodIn wsX6_nextToken (va_wsS RX6 74 yX6_isDigit wsX6_isDigit) := goodIn_app (goodIn_of _ (by decide +kernel)) ggX6_nextToken_X6_isDigit
set_option maxRecDepth 20000 in
theorem ggX6_nextToken_X6_takeDigits : GoodIn wsX6_nextToken wsX6_takeDigits := goodIn_r _ [13, 14, 1, 2, 3, 4, 5, 6, 7, 8, 9, 15, 16, 17, 18, 19, 20, 21] (by decide +kernel) (by decide +kernel)
set_option maxRecDepth 20000 in
theorem gX6_nextToken_X6_takeDigits : GoodIn wsX6_nextToken (wsV RX6 78 RX6 yX6_takeDigits wsX6_takeDigits) := goodIn_app (goodIn_of _ (by decide +kernel)) ggX6_nextToken_X6_takeDigits
theorem dX6_nextToken_0 : decode cX6_nextToken 0 = .ok (.aload_n 0, 1) := by decide +kernel
theorem dX6_nextToken_1 : decode cX6_nextToken 1 = .ok (.getfield 24, 3) := by decide +kernel
theorem dX6_nextToken_4 : decode cX6_nextToken 4 = .ok (.aload_n 0, 1) := by decide +kernel
theorem dX6_nextToken_5 : decode cX6_nextToken 5 = .ok (.getfield 15, 3) := by decide +kernel
theorem dX6_nextToken_8 : decode cX6_nextToken 8 = .ok (.if_icmp .ge 30, 3) := by decide +kernel
theorem dX6_nextToken_11 : decode cX6_nextToken 11 = .ok (.aload_n 0, 1) := by decide +kernel
theorem dX6_nextToken_12 : decode cX6_nextToken 12 = .ok (.getfield 9, 3) := by decide +kernel
theorem dX6_nextToken_15 : decode cX6_nextToken 15 = .ok (.aload_n 0, 1) := by decide +kernel
theorem dX6_nextToken_16 : decode cX6_nextToken 16 = .ok (.getfield 24, 3) := by decide +kernel
theorem dX6_nextToken_19 : decode cX6_nextToken 19 = .ok (.iaload, 1) := by decide +kernel
theorem dX6_nextToken_20 : decode cX6_nextToken 20 = .ok (.bipush 32, 2) := by decide +kernel
theorem dX6_nextToken_22 : decode cX6_nextToken 22 = .ok (.if_icmp .ne 16, 3) := by decide +kernel
theorem dX6_nextToken_25 : decode cX6_nextToken 25 = .ok (.aload_n 0, 1) := by decide +kernel
theorem dX6_nextToken_26 : decode cX6_nextToken 26 = .ok (.dup, 1) := by decide +kernel
theorem dX6_nextToken_27 : decode cX6_nextToken 27 = .ok (.getfield 24, 3) := by decide +kernel
theorem dX6_nextToken_30 : decode cX6_nextToken 30 = .ok (.iconst 1, 1) := by decide +kernel
theorem dX6_nextToken_31 : decode cX6_nextToken 31 = .ok (.iadd, 1) := by decide +kernel
theorem dX6_nextToken_32 : decode cX6_nextToken 32 = .ok (.putfield 24, 3) := by decide +kernel
theorem dX6_nextToken_35 : decode cX6_nextToken 35 = .ok (.goto (-35), 3) := by decide +kernel
theorem dX6_nextToken_38 : decode cX6_nextToken 38 = .ok (.aload_n 0, 1) := by decide +kernel
theorem dX6_nextToken_39 : decode cX6_nextToken 39 = .ok (.aload_n 0, 1) := by decide +kernel
theorem dX6_nextToken_40 : decode cX6_nextToken 40 = .ok (.getfield 24, 3) := by decide +kernel
theorem dX6_nextToken_43 : decode cX6_nextToken 43 = .ok (.putfield 48, 3) := by decide +kernel
theorem dX6_nextToken_46 : decode cX6_nextToken 46 = .ok (.aload_n 0, 1) := by decide +kernel
theorem dX6_nextToken_47 : decode cX6_nextToken 47 = .ok (.getfield 24, 3) := by decide +kernel
theorem dX6_nextToken_50 : decode cX6_nextToken 50 = .ok (.aload_n 0, 1) := by decide +kernel
theorem dX6_nextToken_51 : decode cX6_nextToken 51 = .ok (.getfield 15, 3) := by decide +kernel
theorem dX6_nextToken_54 : decode cX6_nextToken 54 = .ok (.if_icmp .lt 11, 3) := by decide +kernel
theorem dX6_nextToken_57 : decode cX6_nextToken 57 = .ok (.aload_n 0, 1) := by decide +kernel
theorem dX6_nextToken_58 : decode cX6_nextToken 58 = .ok (.iconst (-1), 1) := by decide +kernel
theorem dX6_nextToken_59 : decode cX6_nextToken 59 = .ok (.putfield 34, 3) := by decide +kernel
theorem dX6_nextToken_62 : decode cX6_nextToken 62 = .ok (.goto 73, 3) := by decide +kernel
theorem dX6_nextToken_65 : decode cX6_nextToken 65 = .ok (.aload_n 0, 1) := by decide +kernel
theorem dX6_nextToken_66 : decode cX6_nextToken 66 = .ok (.getfield 9, 3) := by decide +kernel
theorem dX6_nextToken_69 : decode cX6_nextToken 69 = .ok (.aload_n 0, 1) := by decide +kernel
theorem dX6_nextToken_70 : decode cX6_nextToken 70 = .ok (.getfield 24, 3) := by decide +kernel
theorem dX6_nextToken_73 : decode cX6_nextToken 73 = .ok (.iaload, 1) := by decide +kernel
theorem dX6_nextToken_74 : decode cX6_nextToken 74 = .ok (.invokestatic 74, 3) := by decide +kernel
theorem dX6_nextToken_77 : decode cX6_nextToken 77 = .ok (.ifCond .eq 10, 3) := by decide +kernel
theorem dX6_nextToken_80 : decode cX6_nextToken 80 = .ok (.aload_n 0, 1) := by decide +kernel
theorem dX6_nextToken_81 : decode cX6_nextToken 81 = .ok (.invokevirtual 78, 3) := by decide +kernel
theorem dX6_nextToken_84 : decode cX6_nextToken 84 = .ok (.goto 51, 3) := by decide +kernel
theorem dX6_nextToken_87 : decode cX6_nextToken 87 = .ok (.aload_n 0, 1) := by decide +kernel
theorem dX6_nextToken_88 : decode cX6_nextToken 88 = .ok (.getfield 9, 3) := by decide +kernel
theorem dX6_nextToken_91 : decode cX6_nextToken 91 = .ok (.aload_n 0, 1) := by decide +kernel
theorem dX6_nextToken_92 : decode cX6_nextToken 92 = .ok (.getfield 24, 3) := by decide +kernel
theorem dX6_nextToken_95 : decode cX6_nextToken 95 = .ok (.iaload, 1) := by decide +kernel
theorem dX6_nextToken_96 : decode cX6_nextToken 96 = .ok (.istore_n 1, 1) := by decide +kernel
theorem dX6_nextToken_97 : decode cX6_nextToken 97 = .ok (.aload_n 0, 1) := by decide +kernel
theorem dX6_nextToken_98 : decode cX6_nextToken 98 = .ok (.iload_n 1, 1) := by decide +kernel
theorem dX6_nextToken_99 : decode cX6_nextToken 99 = .ok (.bipush 119, 2) := by decide +kernel
theorem dX6_nextToken_101 : decode cX6_nextToken 101 = .ok (.if_icmp .eq 15, 3) := by decide +kernel
theorem dX6_nextToken_104 : decode cX6_nextToken 104 = .ok (.iload_n 1, 1) := by decide +kernel
theorem dX6_nextToken_105 : decode cX6_nextToken 105 = .ok (.bipush 116, 2) := by decide +kernel
theorem dX6_nextToken_107 : decode cX6_nextToken 107 = .ok (.if_icmp .eq 9, 3) := by decide +kernel
theorem dX6_nextToken_110 : decode cX6_nextToken 110 = .ok (.iload_n 1, 1) := by decide +kernel
theorem dX6_nextToken_111 : decode cX6_nextToken 111 = .ok (.bipush 59, 2) := by decide +kernel
theorem dX6_nextToken_113 : decode cX6_nextToken 113 = .ok (.if_icmp .ne 7, 3) := by decide +kernel
theorem dX6_nextToken_116 : decode cX6_nextToken 116 = .ok (.iload_n 1, 1) := by decide +kernel
theorem dX6_nextToken_117 : decode cX6_nextToken 117 = .ok (.goto 5, 3) := by decide +kernel
theorem dX6_nextToken_120 : decode cX6_nextToken 120 = .ok (.bipush (-3), 2) := by decide +kernel
theorem dX6_nextToken_122 : decode cX6_nextToken 122 = .ok (.putfield 34, 3) := by decide +kernel
theorem dX6_nextToken_125 : decode cX6_nextToken 125 = .ok (.aload_n 0, 1) := by decide +kernel
theorem dX6_nextToken_126 : decode cX6_nextToken 126 = .ok (.dup, 1) := by decide +kernel
theorem dX6_nextToken_127 : decode cX6_nextToken 127 = .ok (.getfield 24, 3) := by decide +kernel
theorem dX6_nextToken_130 : decode cX6_nextToken 130 = .ok (.iconst 1, 1) := by decide +kernel
theorem dX6_nextToken_131 : decode cX6_nextToken 131 = .ok (.iadd, 1) := by decide +kernel
theorem dX6_nextToken_132 : decode cX6_nextToken 132 = .ok (.putfield 24, 3) := by decide +kernel
theorem dX6_nextToken_135 : decode cX6_nextToken 135 = .ok (.return_, 1) := by decide +kernel
set_option maxRecDepth 20000 in
theorem ggX6_takeDigits_X6_isDigit : GoodIn wsX6_takeDigits wsX6_isDigit := goodIn_r _ [10] (by decide +kernel) (by decide +kernel)
set_option maxRecDepth 20000 in
theorem gX6_takeDigits_X6_isDigit : GoodIn wsX6_takeDigits (va_wsS RX6 74 yX6_isDigit wsX6_isDigit) := goodIn_app (goodIn_of _ (by decide +kernel)) ggX6_takeDigits_X6_isDigit
theorem dX6_takeDigits_0 : decode cX6_takeDigits 0 = .ok (.aload_n 0, 1) := by decide +kernel
theorem dX6_takeDigits_1 : decode cX6_takeDigits 1 = .ok (.iconst 0, 1) := by decide +kernel
theorem dX6_takeDigits_2 : decode cX6_takeDigits 2 = .ok (.putfield 61, 3) := by decide +kernel
theorem dX6_takeDigits_5 : decode cX6_takeDigits 5 = .ok (.aload_n 0, 1) := by decide +kernel
theorem dX6_takeDigits_6 : decode cX6_takeDigits 6 = .ok (.getfield 24, 3) := by decide +kernel
theorem dX6_takeDigits_9 : decode cX6_takeDigits 9 = .ok (.aload_n 0, 1) := by decide +kernel
theorem dX6_takeDigits_10 : decode cX6_takeDigits 10 = .ok (.getfield 15, 3) := by decide +kernel
theorem dX6_takeDigits_13 : decode cX6_takeDigits 13 = .ok (.if_icmp .ge 64, 3) := by decide +kernel
theorem dX6_takeDigits_16 : decode cX6_takeDigits 16 = .ok (.aload_n 0, 1) := by decide +kernel
theorem dX6_takeDigits_17 : decode cX6_takeDigits 17 = .ok (.getfield 9, 3) := by decide +kernel
theorem dX6_takeDigits_20 : decode cX6_takeDigits 20 = .ok (.aload_n 0, 1) := by decide +kernel
theorem dX6_takeDigits_21 : decode cX6_takeDigits 21 = .ok (.getfield 24, 3) := by decide +kernel
theorem dX6_takeDigits_24 : decode cX6_takeDigits 24 = .ok (.iaload, 1) := by decide +kernel
theorem dX6_takeDigits_25 : decode cX6_takeDigits 25 = .ok (.invokestatic 74, 3) := by decide +kernel
theorem dX6_takeDigits_28 : decode cX6_takeDigits 28 = .ok (.ifCond .eq 49, 3) := by decide +kernel
theorem dX6_takeDigits_31 : decode cX6_takeDigits 31 = .ok (.aload_n 0, 1) := by decide +kernel
theorem dX6_takeDigits_32 : decode cX6_takeDigits 32 = .ok (.getfield 61, 3) := by decide +kernel
theorem dX6_takeDigits_35 : decode cX6_takeDigits 35 = .ok (.bipush 20, 2) := by decide +kernel
theorem dX6_takeDigits_37 : decode cX6_takeDigits 37 = .ok (.if_icmp .gt 27, 3) := by decide +kernel
theorem dX6_takeDigits_40 : decode cX6_takeDigits 40 = .ok (.aload_n 0, 1) := by decide +kernel
theorem dX6_takeDigits_41 : decode cX6_takeDigits 41 = .ok (.aload_n 0, 1) := by decide +kernel
theorem dX6_takeDigits_42 : decode cX6_takeDigits 42 = .ok (.getfield 61, 3) := by decide +kernel
theorem dX6_takeDigits_45 : decode cX6_takeDigits 45 = .ok (.bipush 10, 2) := by decide +kernel
theorem dX6_takeDigits_47 : decode cX6_takeDigits 47 = .ok (.imul, 1) := by decide +kernel
theorem dX6_takeDigits_48 : decode cX6_takeDigits 48 = .ok (.aload_n 0, 1) := by decide +kernel
theorem dX6_takeDigits_49 : decode cX6_takeDigits 49 = .ok (.getfield 9, 3) := by decide +kernel
theorem dX6_takeDigits_52 : decode cX6_takeDigits 52 = .ok (.aload_n 0, 1) := by decide +kernel
theorem dX6_takeDigits_53 : decode cX6_takeDigits 53 = .ok (.getfield 24, 3) := by decide +kernel
theorem dX6_takeDigits_56 : decode cX6_takeDigits 56 = .ok (.iaload, 1) := by decide +kernel
theorem dX6_takeDigits_57 : decode cX6_takeDigits 57 = .ok (.iadd, 1) := by decide +kernel
theorem dX6_takeDigits_58 : decode cX6_takeDigits 58 = .ok (.bipush 48, 2) := by decide +kernel
theorem dX6_takeDigits_60 : decode cX6_takeDigits 60 = .ok (.isub, 1) := by decide +kernel
theorem dX6_takeDigits_61 : decode cX6_takeDigits 61 = .ok (.putfield 61, 3) := by decide +kernel
theorem dX6_takeDigits_64 : decode cX6_takeDigits 64 = .ok (.aload_n 0, 1) := by decide +kernel
theorem dX6_takeDigits_65 : decode cX6_takeDigits 65 = .ok (.dup, 1) := by decide +kernel
theorem dX6_takeDigits_66 : decode cX6_takeDigits 66 = .ok (.getfield 24, 3) := by decide +kernel
theorem dX6_takeDigits_69 : decode cX6_takeDigits 69 = .ok (.iconst 1, 1) := by decide +kernel
theorem dX6_takeDigits_70 : decode cX6_takeDigits 70 = .ok (.iadd, 1) := by decide +kernel
theorem dX6_takeDigits_71 : decode cX6_takeDigits 71 = .ok (.putfield 24, 3) := by decide +kernel
theorem dX6_takeDigits_74 : decode cX6_takeDigits 74 = .ok (.goto (-69), 3) := by decide +kernel
theorem dX6_takeDigits_77 : decode cX6_takeDigits 77 = .ok (.aload_n 0, 1) := by decide +kernel
theorem dX6_takeDigits_78 : decode cX6_takeDigits 78 = .ok (.getfield 9, 3) := by decide +kernel
theorem dX6_takeDigits_81 : decode cX6_takeDigits 81 = .ok (.aload_n 0, 1) := by decide +kernel
theorem dX6_takeDigits_82 : decode cX6_takeDigits 82 = .ok (.getfield 48, 3) := by decide +kernel
theorem dX6_takeDigits_85 : decode cX6_takeDigits 85 = .ok (.iaload, 1) := by decide +kernel
theorem dX6_takeDigits_86 : decode cX6_takeDigits 86 = .ok (.bipush 48, 2) := by decide +kernel
theorem dX6_takeDigits_88 : decode cX6_takeDigits 88 = .ok (.if_icmp .ne 20, 3) := by decide +kernel
theorem dX6_takeDigits_91 : decode cX6_takeDigits 91 = .ok (.aload_n 0, 1) := by decide +kernel
theorem dX6_takeDigits_92 : decode cX6_takeDigits 92 = .ok (.getfield 24, 3) := by decide +kernel
theorem dX6_takeDigits_95 : decode cX6_takeDigits 95 = .ok (.aload_n 0, 1) := by decide +kernel
theorem dX6_takeDigits_96 : decode cX6_takeDigits 96 = .ok (.getfield 48, 3) := by decide +kernel
theorem dX6_takeDigits_99 : decode cX6_takeDigits 99 = .ok (.isub, 1) := by decide +kernel
theorem dX6_takeDigits_100 : decode cX6_takeDigits 100 = .ok (.iconst 1, 1) := by decide +kernel
theorem dX6_takeDigits_101 : decode cX6_takeDigits 101 = .ok (.if_icmp .le 7, 3) := by decide +kernel
theorem dX6_takeDigits_104 : decode cX6_takeDigits 104 = .ok (.iconst 1, 1) := by decide +kernel
theorem dX6_takeDigits_105 : decode cX6_takeDigits 105 = .ok (.goto 4, 3) := by decide +kernel
theorem dX6_takeDigits_108 : decode cX6_takeDigits 108 = .ok (.iconst 0, 1) := by decide +kernel
theorem dX6_takeDigits_109 : decode cX6_takeDigits 109 = .ok (.istore_n 1, 1) := by decide +kernel
theorem dX6_takeDigits_110 : decode cX6_takeDigits 110 = .ok (.aload_n 0, 1) := by decide +kernel
theorem dX6_takeDigits_111 : decode cX6_takeDigits 111 = .ok (.iload_n 1, 1) := by decide +kernel
theorem dX6_takeDigits_112 : decode cX6_takeDigits 112 = .ok (.ifCond .ne 12, 3) := by decide +kernel
theorem dX6_takeDigits_115 : decode cX6_takeDigits 115 = .ok (.aload_n 0, 1) := by decide +kernel
theorem dX6_takeDigits_116 : decode cX6_takeDigits 116 = .ok (.getfield 61, 3) := by decide +kernel
theorem dX6_takeDigits_119 : decode cX6_takeDigits 119 = .ok (.bipush 20, 2) := by decide +kernel
theorem dX6_takeDigits_121 : decode cX6_takeDigits 121 = .ok (.if_icmp .le 8, 3) := by decide +kernel
theorem dX6_takeDigits_124 : decode cX6_takeDigits 124 = .ok (.bipush (-3), 2) := by decide +kernel
theorem dX6_takeDigits_126 : decode cX6_takeDigits 126 = .ok (.goto 5, 3) := by decide +kernel
theorem dX6_takeDigits_129 : decode cX6_takeDigits 129 = .ok (.bipush (-2), 2) := by decide +kernel
theorem dX6_takeDigits_131 : decode cX6_takeDigits 131 = .ok (.putfield 34, 3) := by decide +kernel
theorem dX6_takeDigits_134 : decode cX6_takeDigits 134 = .ok (.return_, 1) := by decide +kernel
theorem dX6_isDigit_0 : decode cX6_isDigit 0 = .ok (.iload_n 0, 1) := by decide +kernel
theorem dX6_isDigit_1 : decode cX6_isDigit 1 = .ok (.bipush 48, 2) := by decide +kernel
theorem dX6_isDigit_3 : decode cX6_isDigit 3 = .ok (.if_icmp .lt 13, 3) := by decide +kernel
theorem dX6_isDigit_6 : decode cX6_isDigit 6 = .ok (.iload_n 0, 1) := by decide +kernel
theorem dX6_isDigit_7 : decode cX6_isDigit 7 = .ok (.bipush 57, 2) := by decide +kernel
theorem dX6_isDigit_9 : decode cX6_isDigit 9 = .ok (.if_icmp .gt 7, 3) := by decide +kernel
theorem dX6_isDigit_12 : decode cX6_isDigit 12 = .ok (.iconst 1, 1) := by decide +kernel
theorem dX6_isDigit_13 : decode cX6_isDigit 13 = .ok (.goto 4, 3) := by decide +kernel
theorem dX6_isDigit_16 : decode cX6_isDigit 16 = .ok (.iconst 0, 1) := by decide +kernel
theorem dX6_isDigit_17 : decode cX6_isDigit 17 = .ok (.ireturn, 1) := by decide +kernel
set_option maxRecDepth 20000 in
theorem ggX7_init_X6_init : GoodIn wsX7_init wsX6_init := goodIn_r _ [35, 36, 2, 3, 37, 38, 78, 79, 80, 81, 82, 83, 84] (by decide +kernel) (by decide +kernel)
set_option maxRecDepth 20000 in
theorem gX7_init_X6_init_n11 : GoodIn wsX7_init (wsX6_init) := ggX7_init_X6_init
set_option maxRecDepth 20000 in
theorem ggX7_init_X5_init : GoodIn wsX7_init wsX5_init := goodIn_r _ [40, 41, 2, 3, 42, 37, 43, 44, 45, 46, 95, 96, 97, 98, 99] (by decide +kernel) (by decide +kernel)
set_option maxRecDepth 20000 in
theorem gX7_init_X5_init_n18 : GoodIn wsX7_init (wsX5_init) := ggX7_init_X5_init
set_option maxRecDepth 20000 in
theorem ggX7_init_X0_init : GoodIn wsX7_init wsX0_init := goodIn_r _ [48, 49, 2, 3, 37, 50, 51, 52, 53, 54, 55, 56, 100, 101, 102, 103, 104, 105, 106, 107, 108, 109, 110] (by decide +kernel) (by decide +kernel)
set_option maxRecDepth 20000 in
theorem gX7_init_X0_init_n28 : GoodIn wsX7_init (wsX0_init) := ggX7_init_X0_init
set_option maxRecDepth 20000 in
theorem ggX7_init_X4_init : GoodIn wsX7_init wsX4_init := goodIn_r _ [59, 60, 2, 3, 61, 62, 14, 15, 47, 48, 49, 37, 50, 51, 52, 53, 54, 55, 56, 111, 112, 113, 100, 101, 102, 103, 104, 105, 106, 107, 108, 109, 110] (by decide +kernel) (by decide +kernel)
set_option maxRecDepth 20000 in
theorem gX7_init_X4_init : GoodIn wsX7_init (wsX4_init) := ggX7_init_X4_init
set_option maxRecDepth 20000 in
theorem ggX7_init_X1_init : GoodIn wsX7_init wsX1_init := goodIn_r _ [65, 66, 2, 3, 67, 68, 14, 15, 47, 48, 49, 37, 50, 51, 52, 53, 54, 55, 56, 114, 115, 100, 101, 102, 103, 104, 105, 106, 107, 108, 109, 110] (by decide +kernel) (by decide +kernel)
set_option maxRecDepth 20000 in
theorem gX7_init_X1_init : GoodIn wsX7_init (wsX1_init) := ggX7_init_X1_init
set_option maxRecDepth 20000 in
theorem ggX7_init_X3_init : GoodIn wsX7_init wsX3_init := goodIn_r _ [70, 71, 2, 3, 37, 72, 73, 74, 116, 117, 118, 119] (by decide +kernel) (by decide +kernel)
set_option maxRecDepth 20000 in
theorem gX7_init_X3_init_n52 : GoodIn wsX7_init (wsX3_init) := ggX7_init_X3_init
set_option maxRecDepth 20000 in
theorem ggX7_init_X2_init : GoodIn wsX7_init wsX2_init := goodIn_r _ [76, 77, 2, 3] (by decide +kernel) (by decide +kernel)
set_option maxRecDepth 20000 in
theorem gX7_init_X2_init_n59 : GoodIn wsX7_init (wsX2_init) := ggX7_init_X2_init
theorem dX7_init_0 : decode cX7_init 0 = .ok (.aload_n 0, 1) := by decide +kernel
theorem dX7_init_1 : decode cX7_init 1 = .ok (.invokespecial 3, 3) := by decide +kernel
theorem dX7_init_4 : decode cX7_init 4 = .ok (.aload_n 0, 1) := by decide +kernel
theorem dX7_init_5 : decode cX7_init 5 = .ok (.new 9, 3) := by decide +kernel
theorem dX7_init_8 : decode cX7_init 8 = .ok (.dup, 1) := by decide +kernel
theorem dX7_init_9 : decode cX7_init 9 = .ok (.invokespecial 11, 3) := by decide +kernel
theorem dX7_init_12 : decode cX7_init 12 = .ok (.putfield 12, 3) := by decide +kernel
theorem dX7_init_15 : decode cX7_init 15 = .ok (.aload_n 0, 1) := by decide +kernel
theorem dX7_init_16 : decode cX7_init 16 = .ok (.new 16, 3) := by decide +kernel
theorem dX7_init_19 : decode cX7_init 19 = .ok (.dup, 1) := by decide +kernel
theorem dX7_init_20 : decode cX7_init 20 = .ok (.invokespecial 18, 3) := by decide +kernel
theorem dX7_init_23 : decode cX7_init 23 = .ok (.putfield 19, 3) := by decide +kernel
theorem dX7_init_26 : decode cX7_init 26 = .ok (.aload_n 0, 1) := by decide +kernel
theorem dX7_init_27 : decode cX7_init 27 = .ok (.new 16, 3) := by decide +kernel
theorem dX7_init_30 : decode cX7_init 30 = .ok (.dup, 1) := by decide +kernel
theorem dX7_init_31 : decode cX7_init 31 = .ok (.invokespecial 18, 3) := by decide +kernel
theorem dX7_init_34 : decode cX7_init 34 = .ok (.putfield 23, 3) := by decide +kernel
theorem dX7_init_37 : decode cX7_init 37 = .ok (.aload_n 0, 1) := by decide +kernel
theorem dX7_init_38 : decode cX7_init 38 = .ok (.new 26, 3) := by decide +kernel
theorem dX7_init_41 : decode cX7_init 41 = .ok (.dup, 1) := by decide +kernel
theorem dX7_init_42 : decode cX7_init 42 = .ok (.invokespecial 28, 3) := by decide +kernel
theorem dX7_init_45 : decode cX7_init 45 = .ok (.putfield 29, 3) := by decide +kernel
theorem dX7_init_48 : decode cX7_init 48 = .ok (.aload_n 0, 1) := by decide +kernel
theorem dX7_init_49 : decode cX7_init 49 = .ok (.new 26, 3) := by decide +kernel
theorem dX7_init_52 : decode cX7_init 52 = .ok (.dup, 1) := by decide +kernel
theorem dX7_init_53 : decode cX7_init 53 = .ok (.invokespecial 28, 3) := by decide +kernel
theorem dX7_init_56 : decode cX7_init 56 = .ok (.putfield 33, 3) := by decide +kernel
theorem dX7_init_59 : decode cX7_init 59 = .ok (.aload_n 0, 1) := by decide +kernel
theorem dX7_init_60 : decode cX7_init 60 = .ok (.new 36, 3) := by decide +kernel
theorem dX7_init_63 : decode cX7_init 63 = .ok (.dup, 1) := by decide +kernel
theorem dX7_init_64 : decode cX7_init 64 = .ok (.invokespecial 38, 3) := by decide +kernel
theorem dX7_init_67 : decode cX7_init 67 = .ok (.putfield 39, 3) := by decide +kernel
theorem dX7_init_70 : decode cX7_init 70 = .ok (.aload_n 0, 1) := by decide +kernel
theorem dX7_init_71 : decode cX7_init 71 = .ok (.new 43, 3) := by decide +kernel
theorem dX7_init_74 : decode cX7_init 74 = .ok (.dup, 1) := by decide +kernel
theorem dX7_init_75 : decode cX7_init 75 = .ok (.invokespecial 45, 3) := by decide +kernel
theorem dX7_init_78 : decode cX7_init 78 = .ok (.putfield 46, 3) := by decide +kernel
theorem dX7_init_81 : decode cX7_init 81 = .ok (.aload_n 0, 1) := by decide +kernel
theorem dX7_init_82 : decode cX7_init 82 = .ok (.new 50, 3) := by decide +kernel
theorem dX7_init_85 : decode cX7_init 85 = .ok (.dup, 1) := by decide +kernel
theorem dX7_init_86 : decode cX7_init 86 = .ok (.invokespecial 52, 3) := by decide +kernel
theorem dX7_init_89 : decode cX7_init 89 = .ok (.putfield 53, 3) := by decide +kernel
theorem dX7_init_92 : decode cX7_init 92 = .ok (.aload_n 0, 1) := by decide +kernel
theorem dX7_init_93 : decode cX7_init 93 = .ok (.new 57, 3) := by decide +kernel
theorem dX7_init_96 : decode cX7_init 96 = .ok (.dup, 1) := by decide +kernel
theorem dX7_init_97 : decode cX7_init 97 = .ok (.invokespecial 59, 3) := by decide +kernel
theorem dX7_init_100 : decode cX7_init 100 = .ok (.putfield 60, 3) := by decide +kernel
theorem dX7_init_103 : decode cX7_init 103 = .ok (.return_, 1) := by decide +kernel
set_option maxRecDepth 20000 in
theorem ggX7_type_X6_add : GoodIn wsX7_type wsX6_add := goodIn_r _ [6, 7, 8, 19, 20, 21, 22, 23, 24, 25] (by decide +kernel) (by decide +kernel)
set_option maxRecDepth 20000 in
theorem gX7_type_X6_add : GoodIn wsX7_type (wsV RX7 64 RX6 yX6_add wsX6_add) := goodIn_app (goodIn_of _ (by decide +kernel)) ggX7_type_X6_add
theorem dX7_type_0 : decode cX7_type 0 = .ok (.iload_n 1, 1) := by decide +kernel
theorem dX7_type_1 : decode cX7_type 1 = .ok (.ifCond .lt 10, 3) := by decide +kernel
theorem dX7_type_4 : decode cX7_type 4 = .ok (.iload_n 1, 1) := by decide +kernel
theorem dX7_type_5 : decode cX7_type 5 = .ok (.sipush 255, 3) := by decide +kernel
theorem dX7_type_8 : decode cX7_type 8 = .ok (.if_icmp .le 5, 3) := by decide +kernel
theorem dX7_type_11 : decode cX7_type 11 = .ok (.iconst (-1), 1) := by decide +kernel
theorem dX7_type_12 : decode cX7_type 12 = .ok (.ireturn, 1) := by decide +kernel
theorem dX7_type_13 : decode cX7_type 13 = .ok (.aload_n 0, 1) := by decide +kernel
theorem dX7_type_14 : decode cX7_type 14 = .ok (.getfield 12, 3) := by decide +kernel
theorem dX7_type_17 : decode cX7_type 17 = .ok (.iload_n 1, 1) := by decide +kernel
theorem dX7_type_18 : decode cX7_type 18 = .ok (.invokevirtual 64, 3) := by decide +kernel
theorem dX7_type_21 : decode cX7_type 21 = .ok (.ireturn, 1) := by decide +kernel
set_option maxRecDepth 20000 in
theorem ggX7_clear_X6_empty : GoodIn wsX7_clear wsX6_empty := goodIn_r _ [6, 7, 18, 19, 20, 21, 22, 23, 24] (by decide +kernel) (by decide +kernel)
set_option maxRecDepth 20000 in
theorem gX7_clear_X6_empty : GoodIn wsX7_clear (wsV RX7 68 RX6 yX6_empty wsX6_empty) := goodIn_app (goodIn_of _ (by decide +kernel)) ggX7_clear_X6_empty
theorem dX7_clear_0 : decode cX7_clear 0 = .ok (.aload_n 0, 1) := by decide +kernel
theorem dX7_clear_1 : decode cX7_clear 1 = .ok (.getfield 12, 3) := by decide +kernel
theorem dX7_clear_4 : decode cX7_clear 4 = .ok (.invokevirtual 68, 3) := by decide +kernel
theorem dX7_clear_7 : decode cX7_clear 7 = .ok (.ireturn, 1) := by decide +kernel
set_option maxRecDepth 20000 in
theorem ggX7_paper_X6_readInto : GoodIn wsX7_paper wsX6_readInto := goodIn_r _ [12, 13, 14, 15, 16, 17, 18, 19, 20, 21, 22, 23, 24, 25, 26, 11, 27, 28, 29, 30, 31, 32, 33, 34, 35, 36, 37, 38, 39, 40, 41, 42, 43, 44, 45, 46, 47, 48, 49, 50, 51, 52, 53, 54, 55, 56, 57, 58, 101, 102, 103, 104, 105, 106, 107, 108, 109, 110, 111, 112] (by decide +kernel) (by decide +kernel)
set_option maxRecDepth 20000 in
theorem gX7_paper_X6_readInto : GoodIn wsX7_paper (wsV RX7 72 RX6 yX6_readInto wsX6_readInto) := goodIn_app (goodIn_of _ (by decide +kernel)) ggX7_paper_X6_readInto
set_option maxRecDepth 20000 in
theorem ggX7_paper_X6_empty : GoodIn wsX7_paper wsX6_empty := goodIn_r _ [62, 28, 101, 102, 103, 104, 105, 106, 107] (by decide +kernel) (by decide +kernel)
set_option maxRecDepth 20000 in
theorem gX7_paper_X6_empty : GoodIn wsX7_paper (wsV RX7 68 RX6 yX6_empty wsX6_empty) := goodIn_app (goodIn_of _ (by decide +kernel)) ggX7_paper_X6_empty
set_option maxRecDepth 20000 in
theorem ggX7_paper_X0_beginAnew : GoodIn wsX7_paper wsX0_beginAnew := goodIn_r _ [67, 68, 69, 70, 71, 72, 113, 114, 115, 116, 117, 118, 119, 120, 121, 122, 123] (by decide +kernel) (by decide +kernel)
set_option maxRecDepth 20000 in
theorem gX7_paper_X0_beginAnew : GoodIn wsX7_paper (wsV RX7 76 RX0 yX0_beginAnew wsX0_beginAnew) := goodIn_app (goodIn_of _ (by decide +kernel)) ggX7_paper_X0_beginAnew
set_option maxRecDepth 20000 in
theorem ggX7_paper_X4_drop : GoodIn wsX7_paper wsX4_drop := goodIn_r _ [77, 78, 124, 125, 126] (by decide +kernel) (by decide +kernel)
set_option maxRecDepth 20000 in
theorem gX7_paper_X4_drop : GoodIn wsX7_paper (wsV RX7 79 RX4 yX4_drop wsX4_drop) := goodIn_app (goodIn_of _ (by decide +kernel)) ggX7_paper_X4_drop
set_option maxRecDepth 20000 in
theorem ggX7_paper_X1_drop : GoodIn wsX7_paper wsX1_drop := goodIn_r _ [83, 84, 127, 128] (by decide +kernel) (by decide +kernel)
set_option maxRecDepth 20000 in
theorem gX7_paper_X1_drop : GoodIn wsX7_paper (wsV RX7 82 RX1 yX1_drop wsX1_drop) := goodIn_app (goodIn_of _ (by decide +kernel)) ggX7_paper_X1_drop
set_option maxRecDepth 20000 in
theorem ggX7_paper_X3_drop : GoodIn wsX7_paper wsX3_drop := goodIn_r _ [89, 90, 129, 130, 131, 132] (by decide +kernel) (by decide +kernel)
set_option maxRecDepth 20000 in
theorem gX7_paper_X3_drop : GoodIn wsX7_paper (wsV RX7 83 RX3 yX3_drop wsX3_drop) := goodIn_app (goodIn_of _ (by decide +kernel)) ggX7_paper_X3_drop
theorem dX7_paper_0 : decode cX7_paper 0 = .ok (.aload_n 0, 1) := by decide +kernel
theorem dX7_paper_1 : decode cX7_paper 1 = .ok (.getfield 12, 3) := by decide +kernel
theorem dX7_paper_4 : decode cX7_paper 4 = .ok (.aload_n 0, 1) := by decide +kernel
theorem dX7_paper_5 : decode cX7_paper 5 = .ok (.getfield 23, 3) := by decide +kernel
theorem dX7_paper_8 : decode cX7_paper 8 = .ok (.invokevirtual 72, 3) := by decide +kernel
theorem dX7_paper_11 : decode cX7_paper 11 = .ok (.istore_n 1, 1) := by decide +kernel
theorem dX7_paper_12 : decode cX7_paper 12 = .ok (.iload_n 1, 1) := by decide +kernel
theorem dX7_paper_13 : decode cX7_paper 13 = .ok (.ifCond .ge 5, 3) := by decide +kernel
theorem dX7_paper_16 : decode cX7_paper 16 = .ok (.iload_n 1, 1) := by decide +kernel
theorem dX7_paper_17 : decode cX7_paper 17 = .ok (.ireturn, 1) := by decide +kernel
theorem dX7_paper_18 : decode cX7_paper 18 = .ok (.aload_n 0, 1) := by decide +kernel
theorem dX7_paper_19 : decode cX7_paper 19 = .ok (.getfield 19, 3) := by decide +kernel
theorem dX7_paper_22 : decode cX7_paper 22 = .ok (.astore_n 2, 1) := by decide +kernel
theorem dX7_paper_23 : decode cX7_paper 23 = .ok (.aload_n 0, 1) := by decide +kernel
theorem dX7_paper_24 : decode cX7_paper 24 = .ok (.aload_n 0, 1) := by decide +kernel
theorem dX7_paper_25 : decode cX7_paper 25 = .ok (.getfield 23, 3) := by decide +kernel
theorem dX7_paper_28 : decode cX7_paper 28 = .ok (.putfield 19, 3) := by decide +kernel
theorem dX7_paper_31 : decode cX7_paper 31 = .ok (.aload_n 0, 1) := by decide +kernel
theorem dX7_paper_32 : decode cX7_paper 32 = .ok (.aload_n 2, 1) := by decide +kernel
theorem dX7_paper_33 : decode cX7_paper 33 = .ok (.putfield 23, 3) := by decide +kernel
theorem dX7_paper_36 : decode cX7_paper 36 = .ok (.aload_n 0, 1) := by decide +kernel
theorem dX7_paper_37 : decode cX7_paper 37 = .ok (.getfield 12, 3) := by decide +kernel
theorem dX7_paper_40 : decode cX7_paper 40 = .ok (.invokevirtual 68, 3) := by decide +kernel
theorem dX7_paper_43 : decode cX7_paper 43 = .ok (.pop, 1) := by decide +kernel
theorem dX7_paper_44 : decode cX7_paper 44 = .ok (.aload_n 0, 1) := by decide +kernel
theorem dX7_paper_45 : decode cX7_paper 45 = .ok (.getfield 29, 3) := by decide +kernel
theorem dX7_paper_48 : decode cX7_paper 48 = .ok (.invokevirtual 76, 3) := by decide +kernel
theorem dX7_paper_51 : decode cX7_paper 51 = .ok (.aload_n 0, 1) := by decide +kernel
theorem dX7_paper_52 : decode cX7_paper 52 = .ok (.getfield 39, 3) := by decide +kernel
theorem dX7_paper_55 : decode cX7_paper 55 = .ok (.invokevirtual 79, 3) := by decide +kernel
theorem dX7_paper_58 : decode cX7_paper 58 = .ok (.aload_n 0, 1) := by decide +kernel
theorem dX7_paper_59 : decode cX7_paper 59 = .ok (.getfield 46, 3) := by decide +kernel
theorem dX7_paper_62 : decode cX7_paper 62 = .ok (.invokevirtual 82, 3) := by decide +kernel
theorem dX7_paper_65 : decode cX7_paper 65 = .ok (.aload_n 0, 1) := by decide +kernel
theorem dX7_paper_66 : decode cX7_paper 66 = .ok (.getfield 53, 3) := by decide +kernel
theorem dX7_paper_69 : decode cX7_paper 69 = .ok (.invokevirtual 83, 3) := by decide +kernel
theorem dX7_paper_72 : decode cX7_paper 72 = .ok (.pop, 1) := by decide +kernel
theorem dX7_paper_73 : decode cX7_paper 73 = .ok (.iload_n 1, 1) := by decide +kernel
theorem dX7_paper_74 : decode cX7_paper 74 = .ok (.ireturn, 1) := by decide +kernel
set_option maxRecDepth 20000 in
theorem ggX7_writer_X5_hasWriter : GoodIn wsX7_writer wsX5_hasWriter := goodIn_r _ [11, 12, 46, 47, 48, 49, 50] (by decide +kernel) (by decide +kernel)
set_option maxRecDepth 20000 in
theorem gX7_writer_X5_hasWriter : GoodIn wsX7_writer (wsV RX7 85 RX5 yX5_hasWriter wsX5_hasWriter) := goodIn_app (goodIn_of _ (by decide +kernel)) ggX7_writer_X5_hasWriter
set_option maxRecDepth 20000 in
theorem ggX7_writer_X0_hasLaid : GoodIn wsX7_writer wsX0_hasLaid := goodIn_r _ [17, 18, 51, 52, 53, 54, 55, 56, 57, 58, 59, 60, 61] (by decide +kernel) (by decide +kernel)
set_option maxRecDepth 20000 in
theorem gX7_writer_X0_hasLaid : GoodIn wsX7_writer (wsV RX7 96 RX0 yX0_hasLaid wsX0_hasLaid) := goodIn_app (goodIn_of _ (by decide +kernel)) ggX7_writer_X0_hasLaid
set_option maxRecDepth 20000 in
theorem ggX7_writer_X0_owedBy : GoodIn wsX7_writer wsX0_owedBy := goodIn_r _ [22, 23, 24, 25, 16, 26, 27, 28, 29, 30, 31, 32, 33, 34, 35, 51, 52, 53, 54, 55, 56, 57, 58, 59, 60, 61] (by decide +kernel) (by decide +kernel)
set_option maxRecDepth 20000 in
theorem gX7_writer_X0_owedBy : GoodIn wsX7_writer (wsV RX7 99 RX0 yX0_owedBy wsX0_owedBy) := goodIn_app (goodIn_of _ (by decide +kernel)) ggX7_writer_X0_owedBy
theorem dX7_writer_0 : decode cX7_writer 0 = .ok (.aload_n 0, 1) := by decide +kernel
theorem dX7_writer_1 : decode cX7_writer 1 = .ok (.getfield 19, 3) := by decide +kernel
theorem dX7_writer_4 : decode cX7_writer 4 = .ok (.iload_n 1, 1) := by decide +kernel
theorem dX7_writer_5 : decode cX7_writer 5 = .ok (.invokevirtual 85, 3) := by decide +kernel
theorem dX7_writer_8 : decode cX7_writer 8 = .ok (.ifCond .eq 13, 3) := by decide +kernel
theorem dX7_writer_11 : decode cX7_writer 11 = .ok (.iload_n 2, 1) := by decide +kernel
theorem dX7_writer_12 : decode cX7_writer 12 = .ok (.ifCond .lt 9, 3) := by decide +kernel
theorem dX7_writer_15 : decode cX7_writer 15 = .ok (.iload_n 2, 1) := by decide +kernel
theorem dX7_writer_16 : decode cX7_writer 16 = .ok (.bipush 9, 2) := by decide +kernel
theorem dX7_writer_18 : decode cX7_writer 18 = .ok (.if_icmp .le 5, 3) := by decide +kernel
theorem dX7_writer_21 : decode cX7_writer 21 = .ok (.iconst (-1), 1) := by decide +kernel
theorem dX7_writer_22 : decode cX7_writer 22 = .ok (.ireturn, 1) := by decide +kernel
theorem dX7_writer_23 : decode cX7_writer 23 = .ok (.iload_n 2, 1) := by decide +kernel
theorem dX7_writer_24 : decode cX7_writer 24 = .ok (.tableswitch 112 0 9 #[56, 66, 112, 112, 112, 112, 112, 76, 93, 102], 56) := by decide +kernel
theorem dX7_writer_80 : decode cX7_writer 80 = .ok (.aload_n 0, 1) := by decide +kernel
theorem dX7_writer_81 : decode cX7_writer 81 = .ok (.getfield 19, 3) := by decide +kernel
theorem dX7_writer_84 : decode cX7_writer 84 = .ok (.getfield 89, 3) := by decide +kernel
theorem dX7_writer_87 : decode cX7_writer 87 = .ok (.iload_n 1, 1) := by decide +kernel
theorem dX7_writer_88 : decode cX7_writer 88 = .ok (.iaload, 1) := by decide +kernel
theorem dX7_writer_89 : decode cX7_writer 89 = .ok (.ireturn, 1) := by decide +kernel
theorem dX7_writer_90 : decode cX7_writer 90 = .ok (.aload_n 0, 1) := by decide +kernel
theorem dX7_writer_91 : decode cX7_writer 91 = .ok (.getfield 19, 3) := by decide +kernel
theorem dX7_writer_94 : decode cX7_writer 94 = .ok (.getfield 93, 3) := by decide +kernel
theorem dX7_writer_97 : decode cX7_writer 97 = .ok (.iload_n 1, 1) := by decide +kernel
theorem dX7_writer_98 : decode cX7_writer 98 = .ok (.iaload, 1) := by decide +kernel
theorem dX7_writer_99 : decode cX7_writer 99 = .ok (.ireturn, 1) := by decide +kernel
theorem dX7_writer_100 : decode cX7_writer 100 = .ok (.aload_n 0, 1) := by decide +kernel
theorem dX7_writer_101 : decode cX7_writer 101 = .ok (.getfield 29, 3) := by decide +kernel
theorem dX7_writer_104 : decode cX7_writer 104 = .ok (.iload_n 1, 1) := by decide +kernel
theorem dX7_writer_105 : decode cX7_writer 105 = .ok (.invokevirtual 96, 3) := by decide +kernel
theorem dX7_writer_108 : decode cX7_writer 108 = .ok (.ifCond .eq 7, 3) := by decide +kernel
theorem dX7_writer_111 : decode cX7_writer 111 = .ok (.iconst 1, 1) := by decide +kernel
theorem dX7_writer_112 : decode cX7_writer 112 = .ok (.goto 4, 3) := by decide +kernel
theorem dX7_writer_115 : decode cX7_writer 115 = .ok (.iconst 0, 1) := by decide +kernel
theorem dX7_writer_116 : decode cX7_writer 116 = .ok (.ireturn, 1) := by decide +kernel
theorem dX7_writer_117 : decode cX7_writer 117 = .ok (.aload_n 0, 1) := by decide +kernel
theorem dX7_writer_118 : decode cX7_writer 118 = .ok (.getfield 29, 3) := by decide +kernel
theorem dX7_writer_121 : decode cX7_writer 121 = .ok (.iload_n 1, 1) := by decide +kernel
theorem dX7_writer_122 : decode cX7_writer 122 = .ok (.invokevirtual 99, 3) := by decide +kernel
theorem dX7_writer_125 : decode cX7_writer 125 = .ok (.ireturn, 1) := by decide +kernel
theorem dX7_writer_126 : decode cX7_writer 126 = .ok (.aload_n 0, 1) := by decide +kernel
theorem dX7_writer_127 : decode cX7_writer 127 = .ok (.getfield 29, 3) := by decide +kernel
theorem dX7_writer_130 : decode cX7_writer 130 = .ok (.getfield 102, 3) := by decide +kernel
theorem dX7_writer_133 : decode cX7_writer 133 = .ok (.iload_n 1, 1) := by decide +kernel
theorem dX7_writer_134 : decode cX7_writer 134 = .ok (.iaload, 1) := by decide +kernel
theorem dX7_writer_135 : decode cX7_writer 135 = .ok (.ireturn, 1) := by decide +kernel
theorem dX7_writer_136 : decode cX7_writer 136 = .ok (.aload_n 0, 1) := by decide +kernel
theorem dX7_writer_137 : decode cX7_writer 137 = .ok (.getfield 19, 3) := by decide +kernel
theorem dX7_writer_140 : decode cX7_writer 140 = .ok (.getfield 105, 3) := by decide +kernel
theorem dX7_writer_143 : decode cX7_writer 143 = .ok (.iload_n 1, 1) := by decide +kernel
theorem dX7_writer_144 : decode cX7_writer 144 = .ok (.aaload, 1) := by decide +kernel
theorem dX7_writer_145 : decode cX7_writer 145 = .ok (.iload_n 2, 1) := by decide +kernel
theorem dX7_writer_146 : decode cX7_writer 146 = .ok (.iconst 2, 1) := by decide +kernel
theorem dX7_writer_147 : decode cX7_writer 147 = .ok (.isub, 1) := by decide +kernel
theorem dX7_writer_148 : decode cX7_writer 148 = .ok (.iaload, 1) := by decide +kernel
theorem dX7_writer_149 : decode cX7_writer 149 = .ok (.ireturn, 1) := by decide +kernel
set_option maxRecDepth 20000 in
theorem ggX7_quarrel_X0_hasQuarrel : GoodIn wsX7_quarrel wsX0_hasQuarrel := goodIn_r _ [12, 13, 24, 25, 26, 27, 28, 29, 30, 31, 32, 33, 34] (by decide +kernel) (by decide +kernel)
set_option maxRecDepth 20000 in
theorem gX7_quarrel_X0_hasQuarrel : GoodIn wsX7_quarrel (wsV RX7 109 RX0 yX0_hasQuarrel wsX0_hasQuarrel) := goodIn_app (goodIn_of _ (by decide +kernel)) ggX7_quarrel_X0_hasQuarrel
theorem dX7_quarrel_0 : decode cX7_quarrel 0 = .ok (.aload_n 0, 1) := by decide +kernel
theorem dX7_quarrel_1 : decode cX7_quarrel 1 = .ok (.getfield 29, 3) := by decide +kernel
theorem dX7_quarrel_4 : decode cX7_quarrel 4 = .ok (.iload_n 1, 1) := by decide +kernel
theorem dX7_quarrel_5 : decode cX7_quarrel 5 = .ok (.invokevirtual 109, 3) := by decide +kernel
theorem dX7_quarrel_8 : decode cX7_quarrel 8 = .ok (.ifCond .ne 5, 3) := by decide +kernel
theorem dX7_quarrel_11 : decode cX7_quarrel 11 = .ok (.iconst (-1), 1) := by decide +kernel
theorem dX7_quarrel_12 : decode cX7_quarrel 12 = .ok (.ireturn, 1) := by decide +kernel
theorem dX7_quarrel_13 : decode cX7_quarrel 13 = .ok (.iload_n 2, 1) := by decide +kernel
theorem dX7_quarrel_14 : decode cX7_quarrel 14 = .ok (.tableswitch 98 0 5 #[38, 48, 58, 68, 78, 88], 38) := by decide +kernel
theorem dX7_quarrel_52 : decode cX7_quarrel 52 = .ok (.aload_n 0, 1) := by decide +kernel
theorem dX7_quarrel_53 : decode cX7_quarrel 53 = .ok (.getfield 29, 3) := by decide +kernel
theorem dX7_quarrel_56 : decode cX7_quarrel 56 = .ok (.getfield 112, 3) := by decide +kernel
theorem dX7_quarrel_59 : decode cX7_quarrel 59 = .ok (.iload_n 1, 1) := by decide +kernel
theorem dX7_quarrel_60 : decode cX7_quarrel 60 = .ok (.iaload, 1) := by decide +kernel
theorem dX7_quarrel_61 : decode cX7_quarrel 61 = .ok (.ireturn, 1) := by decide +kernel
theorem dX7_quarrel_62 : decode cX7_quarrel 62 = .ok (.aload_n 0, 1) := by decide +kernel
theorem dX7_quarrel_63 : decode cX7_quarrel 63 = .ok (.getfield 29, 3) := by decide +kernel
theorem dX7_quarrel_66 : decode cX7_quarrel 66 = .ok (.getfield 115, 3) := by decide +kernel
theorem dX7_quarrel_69 : decode cX7_quarrel 69 = .ok (.iload_n 1, 1) := by decide +kernel
theorem dX7_quarrel_70 : decode cX7_quarrel 70 = .ok (.iaload, 1) := by decide +kernel
theorem dX7_quarrel_71 : decode cX7_quarrel 71 = .ok (.ireturn, 1) := by decide +kernel
theorem dX7_quarrel_72 : decode cX7_quarrel 72 = .ok (.aload_n 0, 1) := by decide +kernel
theorem dX7_quarrel_73 : decode cX7_quarrel 73 = .ok (.getfield 29, 3) := by decide +kernel
theorem dX7_quarrel_76 : decode cX7_quarrel 76 = .ok (.getfield 118, 3) := by decide +kernel
theorem dX7_quarrel_79 : decode cX7_quarrel 79 = .ok (.iload_n 1, 1) := by decide +kernel
theorem dX7_quarrel_80 : decode cX7_quarrel 80 = .ok (.iaload, 1) := by decide +kernel
theorem dX7_quarrel_81 : decode cX7_quarrel 81 = .ok (.ireturn, 1) := by decide +kernel
theorem dX7_quarrel_82 : decode cX7_quarrel 82 = .ok (.aload_n 0, 1) := by decide +kernel
theorem dX7_quarrel_83 : decode cX7_quarrel 83 = .ok (.getfield 29, 3) := by decide +kernel
theorem dX7_quarrel_86 : decode cX7_quarrel 86 = .ok (.getfield 121, 3) := by decide +kernel
theorem dX7_quarrel_89 : decode cX7_quarrel 89 = .ok (.iload_n 1, 1) := by decide +kernel
theorem dX7_quarrel_90 : decode cX7_quarrel 90 = .ok (.iaload, 1) := by decide +kernel
theorem dX7_quarrel_91 : decode cX7_quarrel 91 = .ok (.ireturn, 1) := by decide +kernel
theorem dX7_quarrel_92 : decode cX7_quarrel 92 = .ok (.aload_n 0, 1) := by decide +kernel
theorem dX7_quarrel_93 : decode cX7_quarrel 93 = .ok (.getfield 29, 3) := by decide +kernel
theorem dX7_quarrel_96 : decode cX7_quarrel 96 = .ok (.getfield 124, 3) := by decide +kernel
theorem dX7_quarrel_99 : decode cX7_quarrel 99 = .ok (.iload_n 1, 1) := by decide +kernel
theorem dX7_quarrel_100 : decode cX7_quarrel 100 = .ok (.iaload, 1) := by decide +kernel
theorem dX7_quarrel_101 : decode cX7_quarrel 101 = .ok (.ireturn, 1) := by decide +kernel
theorem dX7_quarrel_102 : decode cX7_quarrel 102 = .ok (.aload_n 0, 1) := by decide +kernel
theorem dX7_quarrel_103 : decode cX7_quarrel 103 = .ok (.getfield 29, 3) := by decide +kernel
theorem dX7_quarrel_106 : decode cX7_quarrel 106 = .ok (.getfield 127, 3) := by decide +kernel
theorem dX7_quarrel_109 : decode cX7_quarrel 109 = .ok (.iload_n 1, 1) := by decide +kernel
theorem dX7_quarrel_110 : decode cX7_quarrel 110 = .ok (.iaload, 1) := by decide +kernel
theorem dX7_quarrel_111 : decode cX7_quarrel 111 = .ok (.ireturn, 1) := by decide +kernel
theorem dX7_quarrel_112 : decode cX7_quarrel 112 = .ok (.iconst (-1), 1) := by decide +kernel
theorem dX7_quarrel_113 : decode cX7_quarrel 113 = .ok (.ireturn, 1) := by decide +kernel
set_option maxRecDepth 20000 in
theorem ggX7_meant_X7_mayStand : GoodIn wsX7_meant wsX7_mayStand := goodIn_r _ [8, 1, 9, 10, 11, 12, 13, 14, 20, 21, 22, 23, 24, 25, 26, 27, 28, 29, 41, 42, 43, 44, 45] (by decide +kernel) (by decide +kernel)
set_option maxRecDepth 20000 in
theorem gX7_meant_X7_mayStand : GoodIn wsX7_meant (wsV RX7 130 RX7 yX7_mayStand wsX7_mayStand) := goodIn_app (goodIn_of _ (by decide +kernel)) ggX7_meant_X7_mayStand
set_option maxRecDepth 20000 in
theorem ggX7_meant_X5_answerer : GoodIn wsX7_meant wsX5_answerer := goodIn_r _ [18, 14, 19, 41, 42, 43, 44, 45] (by decide +kernel) (by decide +kernel)
set_option maxRecDepth 20000 in
theorem gX7_meant_X5_answerer : GoodIn wsX7_meant (wsV RX7 138 RX5 yX5_answerer wsX5_answerer) := goodIn_app (goodIn_of _ (by decide +kernel)) ggX7_meant_X5_answerer
theorem dX7_meant_0 : decode cX7_meant 0 = .ok (.aload_n 0, 1) := by decide +kernel
theorem dX7_meant_1 : decode cX7_meant 1 = .ok (.iload_n 1, 1) := by decide +kernel
theorem dX7_meant_2 : decode cX7_meant 2 = .ok (.iload_n 2, 1) := by decide +kernel
theorem dX7_meant_3 : decode cX7_meant 3 = .ok (.invokevirtual 130, 3) := by decide +kernel
theorem dX7_meant_6 : decode cX7_meant 6 = .ok (.ifCond .ne 5, 3) := by decide +kernel
theorem dX7_meant_9 : decode cX7_meant 9 = .ok (.iconst (-1), 1) := by decide +kernel
theorem dX7_meant_10 : decode cX7_meant 10 = .ok (.ireturn, 1) := by decide +kernel
theorem dX7_meant_11 : decode cX7_meant 11 = .ok (.aload_n 0, 1) := by decide +kernel
theorem dX7_meant_12 : decode cX7_meant 12 = .ok (.getfield 19, 3) := by decide +kernel
theorem dX7_meant_15 : decode cX7_meant 15 = .ok (.iload_n 1, 1) := by decide +kernel
theorem dX7_meant_16 : decode cX7_meant 16 = .ok (.iload_n 2, 1) := by decide +kernel
theorem dX7_meant_17 : decode cX7_meant 17 = .ok (.aload_n 0, 1) := by decide +kernel
theorem dX7_meant_18 : decode cX7_meant 18 = .ok (.getfield 29, 3) := by decide +kernel
theorem dX7_meant_21 : decode cX7_meant 21 = .ok (.getfield 134, 3) := by decide +kernel
theorem dX7_meant_24 : decode cX7_meant 24 = .ok (.invokevirtual 138, 3) := by decide +kernel
theorem dX7_meant_27 : decode cX7_meant 27 = .ok (.ireturn, 1) := by decide +kernel
set_option maxRecDepth 20000 in
theorem ggX7_now_X0_closedBits : GoodIn wsX7_now wsX0_closedBits := goodIn_r _ [11, 12, 13, 14, 10, 15, 16, 17, 28, 29, 30, 31, 32, 33, 34, 35, 36, 37, 38] (by decide +kernel) (by decide +kernel)
set_option maxRecDepth 20000 in
theorem gX7_now_X0_closedBits : GoodIn wsX7_now (wsV RX7 148 RX0 yX0_closedBits wsX0_closedBits) := goodIn_app (goodIn_of _ (by decide +kernel)) ggX7_now_X0_closedBits
theorem dX7_now_0 : decode cX7_now 0 = .ok (.iload_n 1, 1) := by decide +kernel
theorem dX7_now_1 : decode cX7_now 1 = .ok (.tableswitch 75 0 4 #[35, 43, 51, 59, 67], 35) := by decide +kernel
theorem dX7_now_36 : decode cX7_now 36 = .ok (.aload_n 0, 1) := by decide +kernel
theorem dX7_now_37 : decode cX7_now 37 = .ok (.getfield 29, 3) := by decide +kernel
theorem dX7_now_40 : decode cX7_now 40 = .ok (.getfield 142, 3) := by decide +kernel
theorem dX7_now_43 : decode cX7_now 43 = .ok (.ireturn, 1) := by decide +kernel
theorem dX7_now_44 : decode cX7_now 44 = .ok (.aload_n 0, 1) := by decide +kernel
theorem dX7_now_45 : decode cX7_now 45 = .ok (.getfield 29, 3) := by decide +kernel
theorem dX7_now_48 : decode cX7_now 48 = .ok (.getfield 145, 3) := by decide +kernel
theorem dX7_now_51 : decode cX7_now 51 = .ok (.ireturn, 1) := by decide +kernel
theorem dX7_now_52 : decode cX7_now 52 = .ok (.aload_n 0, 1) := by decide +kernel
theorem dX7_now_53 : decode cX7_now 53 = .ok (.getfield 29, 3) := by decide +kernel
theorem dX7_now_56 : decode cX7_now 56 = .ok (.invokevirtual 148, 3) := by decide +kernel
theorem dX7_now_59 : decode cX7_now 59 = .ok (.ireturn, 1) := by decide +kernel
theorem dX7_now_60 : decode cX7_now 60 = .ok (.aload_n 0, 1) := by decide +kernel
theorem dX7_now_61 : decode cX7_now 61 = .ok (.getfield 29, 3) := by decide +kernel
theorem dX7_now_64 : decode cX7_now 64 = .ok (.getfield 151, 3) := by decide +kernel
theorem dX7_now_67 : decode cX7_now 67 = .ok (.ireturn, 1) := by decide +kernel
theorem dX7_now_68 : decode cX7_now 68 = .ok (.aload_n 0, 1) := by decide +kernel
theorem dX7_now_69 : decode cX7_now 69 = .ok (.getfield 39, 3) := by decide +kernel
theorem dX7_now_72 : decode cX7_now 72 = .ok (.getfield 154, 3) := by decide +kernel
theorem dX7_now_75 : decode cX7_now 75 = .ok (.ireturn, 1) := by decide +kernel
theorem dX7_now_76 : decode cX7_now 76 = .ok (.iconst (-1), 1) := by decide +kernel
theorem dX7_now_77 : decode cX7_now 77 = .ok (.ireturn, 1) := by decide +kernel
set_option maxRecDepth 20000 in
theorem ggX7_writes_X7_mayStand : GoodIn wsX7_writes wsX7_mayStand := goodIn_r _ [9, 4, 10, 11, 12, 13, 14, 15, 70, 71, 72, 73, 74, 75, 76, 77, 78, 79, 91, 92, 93, 94, 95] (by decide +kernel) (by decide +kernel)
set_option maxRecDepth 20000 in
theorem gX7_writes_X7_mayStand : GoodIn wsX7_writes (wsV RX7 130 RX7 yX7_mayStand wsX7_mayStand) := goodIn_app (goodIn_of _ (by decide +kernel)) ggX7_writes_X7_mayStand
set_option maxRecDepth 20000 in
theorem ggX7_writes_X0_hasLaid : GoodIn wsX7_writes wsX0_hasLaid := goodIn_r _ [20, 21, 80, 81, 82, 83, 84, 85, 86, 87, 88, 89, 90] (by decide +kernel) (by decide +kernel)
set_option maxRecDepth 20000 in
theorem gX7_writes_X0_hasLaid : GoodIn wsX7_writes (wsV RX7 96 RX0 yX0_hasLaid wsX0_hasLaid) := goodIn_app (goodIn_of _ (by decide +kernel)) ggX7_writes_X0_hasLaid
set_option maxRecDepth 20000 in
theorem ggX7_writes_X4_remember : GoodIn wsX7_writes wsX4_remember := goodIn_r _ [26, 27, 28, 29, 30, 31, 32, 33, 34, 35, 36, 19, 37, 38, 39, 40, 21, 41, 42, 43, 44, 45, 46, 47, 48, 49, 50, 51, 96, 97, 98, 80, 81, 82, 83, 84, 85, 86, 87, 88, 89, 90] (by decide +kernel) (by decide +kernel)
set_option maxRecDepth 20000 in
theorem gX7_writes_X4_remember : GoodIn wsX7_writes (wsV RX7 157 RX4 yX4_remember wsX4_remember) := goodIn_app (goodIn_of _ (by decide +kernel)) ggX7_writes_X4_remember
set_option maxRecDepth 20000 in
theorem ggX7_writes_X0_begin : GoodIn wsX7_writes wsX0_begin := goodIn_r _ [55, 40, 56, 57, 58, 19, 59, 46, 47, 48, 38, 51, 39, 60, 61, 62, 63, 21, 49, 50, 64, 65, 66, 67, 13, 68, 15, 69, 80, 81, 82, 83, 84, 85, 86, 87, 88, 89, 90, 91, 92, 93, 94, 95] (by decide +kernel) (by decide +kernel)
set_option maxRecDepth 20000 in
theorem gX7_writes_X0_begin : GoodIn wsX7_writes (wsV RX7 161 RX0 yX0_begin wsX0_begin) := goodIn_app (goodIn_of _ (by decide +kernel)) ggX7_writes_X0_begin
theorem dX7_writes_0 : decode cX7_writes 0 = .ok (.aload_n 0, 1) := by decide +kernel
theorem dX7_writes_1 : decode cX7_writes 1 = .ok (.iload_n 1, 1) := by decide +kernel
theorem dX7_writes_2 : decode cX7_writes 2 = .ok (.iload_n 2, 1) := by decide +kernel
theorem dX7_writes_3 : decode cX7_writes 3 = .ok (.invokevirtual 130, 3) := by decide +kernel
theorem dX7_writes_6 : decode cX7_writes 6 = .ok (.ifCond .ne 5, 3) := by decide +kernel
theorem dX7_writes_9 : decode cX7_writes 9 = .ok (.iconst (-1), 1) := by decide +kernel
theorem dX7_writes_10 : decode cX7_writes 10 = .ok (.ireturn, 1) := by decide +kernel
theorem dX7_writes_11 : decode cX7_writes 11 = .ok (.aload_n 0, 1) := by decide +kernel
theorem dX7_writes_12 : decode cX7_writes 12 = .ok (.getfield 29, 3) := by decide +kernel
theorem dX7_writes_15 : decode cX7_writes 15 = .ok (.iload_n 1, 1) := by decide +kernel
theorem dX7_writes_16 : decode cX7_writes 16 = .ok (.invokevirtual 96, 3) := by decide +kernel
theorem dX7_writes_19 : decode cX7_writes 19 = .ok (.ifCond .eq 6, 3) := by decide +kernel
theorem dX7_writes_22 : decode cX7_writes 22 = .ok (.bipush (-2), 2) := by decide +kernel
theorem dX7_writes_24 : decode cX7_writes 24 = .ok (.ireturn, 1) := by decide +kernel
theorem dX7_writes_25 : decode cX7_writes 25 = .ok (.aload_n 0, 1) := by decide +kernel
theorem dX7_writes_26 : decode cX7_writes 26 = .ok (.getfield 29, 3) := by decide +kernel
theorem dX7_writes_29 : decode cX7_writes 29 = .ok (.getfield 145, 3) := by decide +kernel
theorem dX7_writes_32 : decode cX7_writes 32 = .ok (.bipush 6, 2) := by decide +kernel
theorem dX7_writes_34 : decode cX7_writes 34 = .ok (.if_icmp .lt 6, 3) := by decide +kernel
theorem dX7_writes_37 : decode cX7_writes 37 = .ok (.bipush (-3), 2) := by decide +kernel
theorem dX7_writes_39 : decode cX7_writes 39 = .ok (.ireturn, 1) := by decide +kernel
theorem dX7_writes_40 : decode cX7_writes 40 = .ok (.aload_n 0, 1) := by decide +kernel
theorem dX7_writes_41 : decode cX7_writes 41 = .ok (.getfield 39, 3) := by decide +kernel
theorem dX7_writes_44 : decode cX7_writes 44 = .ok (.aload_n 0, 1) := by decide +kernel
theorem dX7_writes_45 : decode cX7_writes 45 = .ok (.getfield 29, 3) := by decide +kernel
theorem dX7_writes_48 : decode cX7_writes 48 = .ok (.invokevirtual 157, 3) := by decide +kernel
theorem dX7_writes_51 : decode cX7_writes 51 = .ok (.aload_n 0, 1) := by decide +kernel
theorem dX7_writes_52 : decode cX7_writes 52 = .ok (.getfield 29, 3) := by decide +kernel
theorem dX7_writes_55 : decode cX7_writes 55 = .ok (.aload_n 0, 1) := by decide +kernel
theorem dX7_writes_56 : decode cX7_writes 56 = .ok (.getfield 19, 3) := by decide +kernel
theorem dX7_writes_59 : decode cX7_writes 59 = .ok (.iload_n 1, 1) := by decide +kernel
theorem dX7_writes_60 : decode cX7_writes 60 = .ok (.iload_n 2, 1) := by decide +kernel
theorem dX7_writes_61 : decode cX7_writes 61 = .ok (.invokevirtual 161, 3) := by decide +kernel
theorem dX7_writes_64 : decode cX7_writes 64 = .ok (.ireturn, 1) := by decide +kernel
set_option maxRecDepth 20000 in
theorem ggX7_day_X4_remember : GoodIn wsX7_day wsX4_remember := goodIn_r _ [9, 10, 11, 12, 13, 14, 15, 16, 17, 18, 19, 20, 21, 22, 23, 24, 25, 26, 27, 28, 29, 30, 31, 32, 33, 34, 35, 36, 93, 94, 95, 82, 83, 84, 85, 86, 87, 88, 89, 90, 91, 92] (by decide +kernel) (by decide +kernel)
set_option maxRecDepth 20000 in
theorem gX7_day_X4_remember : GoodIn wsX7_day (wsV RX7 157 RX4 yX4_remember wsX4_remember) := goodIn_app (goodIn_of _ (by decide +kernel)) ggX7_day_X4_remember
set_option maxRecDepth 20000 in
theorem ggX7_day_X0_passDay : GoodIn wsX7_day wsX0_passDay := goodIn_r _ [40, 41, 35, 22, 24, 34, 32, 42, 36, 26, 43, 44, 45, 20, 46, 33, 47, 48, 49, 50, 51, 52, 53, 54, 55, 56, 31, 23, 57, 58, 59, 60, 25, 61, 62, 63, 64, 65, 66, 67, 68, 69, 70, 71, 96, 97, 98, 99, 100, 82, 83, 84, 85, 86, 87, 88, 89, 90, 91, 92] (by decide +kernel) (by decide +kernel)
set_option maxRecDepth 20000 in
theorem gX7_day_X0_passDay : GoodIn wsX7_day (wsV RX7 165 RX0 yX0_passDay wsX0_passDay) := goodIn_app (goodIn_of _ (by decide +kernel)) ggX7_day_X0_passDay
theorem dX7_day_0 : decode cX7_day 0 = .ok (.aload_n 0, 1) := by decide +kernel
theorem dX7_day_1 : decode cX7_day 1 = .ok (.getfield 29, 3) := by decide +kernel
theorem dX7_day_4 : decode cX7_day 4 = .ok (.getfield 142, 3) := by decide +kernel
theorem dX7_day_7 : decode cX7_day 7 = .ok (.sipush 999, 3) := by decide +kernel
theorem dX7_day_10 : decode cX7_day 10 = .ok (.if_icmp .lt 6, 3) := by decide +kernel
theorem dX7_day_13 : decode cX7_day 13 = .ok (.bipush (-2), 2) := by decide +kernel
theorem dX7_day_15 : decode cX7_day 15 = .ok (.ireturn, 1) := by decide +kernel
theorem dX7_day_16 : decode cX7_day 16 = .ok (.aload_n 0, 1) := by decide +kernel
theorem dX7_day_17 : decode cX7_day 17 = .ok (.getfield 39, 3) := by decide +kernel
theorem dX7_day_20 : decode cX7_day 20 = .ok (.aload_n 0, 1) := by decide +kernel
theorem dX7_day_21 : decode cX7_day 21 = .ok (.getfield 29, 3) := by decide +kernel
theorem dX7_day_24 : decode cX7_day 24 = .ok (.invokevirtual 157, 3) := by decide +kernel
theorem dX7_day_27 : decode cX7_day 27 = .ok (.aload_n 0, 1) := by decide +kernel
theorem dX7_day_28 : decode cX7_day 28 = .ok (.getfield 29, 3) := by decide +kernel
theorem dX7_day_31 : decode cX7_day 31 = .ok (.aload_n 0, 1) := by decide +kernel
theorem dX7_day_32 : decode cX7_day 32 = .ok (.getfield 19, 3) := by decide +kernel
theorem dX7_day_35 : decode cX7_day 35 = .ok (.invokevirtual 165, 3) := by decide +kernel
theorem dX7_day_38 : decode cX7_day 38 = .ok (.ireturn, 1) := by decide +kernel
set_option maxRecDepth 20000 in
theorem ggX7_lays_X5_hasWriter : GoodIn wsX7_lays wsX5_hasWriter := goodIn_r _ [8, 9, 81, 82, 83, 84, 85] (by decide +kernel) (by decide +kernel)
set_option maxRecDepth 20000 in
theorem gX7_lays_X5_hasWriter : GoodIn wsX7_lays (wsV RX7 85 RX5 yX5_hasWriter wsX5_hasWriter) := goodIn_app (goodIn_of _ (by decide +kernel)) ggX7_lays_X5_hasWriter
set_option maxRecDepth 20000 in
theorem ggX7_lays_X0_hasLaid : GoodIn wsX7_lays wsX0_hasLaid := goodIn_r _ [14, 15, 86, 87, 88, 89, 90, 91, 92, 93, 94, 95, 96] (by decide +kernel) (by decide +kernel)
set_option maxRecDepth 20000 in
theorem gX7_lays_X0_hasLaid : GoodIn wsX7_lays (wsV RX7 96 RX0 yX0_hasLaid wsX0_hasLaid) := goodIn_app (goodIn_of _ (by decide +kernel)) ggX7_lays_X0_hasLaid
set_option maxRecDepth 20000 in
theorem ggX7_lays_X4_remember : GoodIn wsX7_lays wsX4_remember := goodIn_r _ [20, 21, 22, 23, 24, 25, 26, 27, 28, 29, 30, 13, 31, 32, 33, 34, 15, 35, 36, 37, 38, 39, 40, 41, 42, 43, 44, 45, 97, 98, 99, 86, 87, 88, 89, 90, 91, 92, 93, 94, 95, 96] (by decide +kernel) (by decide +kernel)
set_option maxRecDepth 20000 in
theorem gX7_lays_X4_remember : GoodIn wsX7_lays (wsV RX7 157 RX4 yX4_remember wsX4_remember) := goodIn_app (goodIn_of _ (by decide +kernel)) ggX7_lays_X4_remember
set_option maxRecDepth 20000 in
theorem ggX7_lays_X0_layDown : GoodIn wsX7_lays wsX0_layDown := goodIn_r _ [49, 15, 34, 50, 51, 52, 13, 53, 43, 54, 55, 56, 57, 40, 41, 44, 58, 59, 60, 61, 7, 62, 9, 63, 64, 65, 66, 67, 68, 69, 70, 86, 87, 88, 89, 90, 91, 92, 93, 94, 95, 96, 81, 82, 83, 84, 85] (by decide +kernel) (by decide +kernel)
set_option maxRecDepth 20000 in
theorem gX7_lays_X0_layDown : GoodIn wsX7_lays (wsV RX7 168 RX0 yX0_layDown wsX0_layDown) := goodIn_app (goodIn_of _ (by decide +kernel)) ggX7_lays_X0_layDown
theorem dX7_lays_0 : decode cX7_lays 0 = .ok (.aload_n 0, 1) := by decide +kernel
theorem dX7_lays_1 : decode cX7_lays 1 = .ok (.getfield 19, 3) := by decide +kernel
theorem dX7_lays_4 : decode cX7_lays 4 = .ok (.iload_n 1, 1) := by decide +kernel
theorem dX7_lays_5 : decode cX7_lays 5 = .ok (.invokevirtual 85, 3) := by decide +kernel
theorem dX7_lays_8 : decode cX7_lays 8 = .ok (.ifCond .ne 5, 3) := by decide +kernel
theorem dX7_lays_11 : decode cX7_lays 11 = .ok (.iconst (-1), 1) := by decide +kernel
theorem dX7_lays_12 : decode cX7_lays 12 = .ok (.ireturn, 1) := by decide +kernel
theorem dX7_lays_13 : decode cX7_lays 13 = .ok (.aload_n 0, 1) := by decide +kernel
theorem dX7_lays_14 : decode cX7_lays 14 = .ok (.getfield 29, 3) := by decide +kernel
theorem dX7_lays_17 : decode cX7_lays 17 = .ok (.iload_n 1, 1) := by decide +kernel
theorem dX7_lays_18 : decode cX7_lays 18 = .ok (.invokevirtual 96, 3) := by decide +kernel
theorem dX7_lays_21 : decode cX7_lays 21 = .ok (.ifCond .eq 6, 3) := by decide +kernel
theorem dX7_lays_24 : decode cX7_lays 24 = .ok (.bipush (-2), 2) := by decide +kernel
theorem dX7_lays_26 : decode cX7_lays 26 = .ok (.ireturn, 1) := by decide +kernel
theorem dX7_lays_27 : decode cX7_lays 27 = .ok (.aload_n 0, 1) := by decide +kernel
theorem dX7_lays_28 : decode cX7_lays 28 = .ok (.getfield 39, 3) := by decide +kernel
theorem dX7_lays_31 : decode cX7_lays 31 = .ok (.aload_n 0, 1) := by decide +kernel
theorem dX7_lays_32 : decode cX7_lays 32 = .ok (.getfield 29, 3) := by decide +kernel
theorem dX7_lays_35 : decode cX7_lays 35 = .ok (.invokevirtual 157, 3) := by decide +kernel
theorem dX7_lays_38 : decode cX7_lays 38 = .ok (.aload_n 0, 1) := by decide +kernel
theorem dX7_lays_39 : decode cX7_lays 39 = .ok (.getfield 29, 3) := by decide +kernel
theorem dX7_lays_42 : decode cX7_lays 42 = .ok (.aload_n 0, 1) := by decide +kernel
theorem dX7_lays_43 : decode cX7_lays 43 = .ok (.getfield 19, 3) := by decide +kernel
theorem dX7_lays_46 : decode cX7_lays 46 = .ok (.iload_n 1, 1) := by decide +kernel
theorem dX7_lays_47 : decode cX7_lays 47 = .ok (.invokevirtual 168, 3) := by decide +kernel
theorem dX7_lays_50 : decode cX7_lays 50 = .ok (.ireturn, 1) := by decide +kernel
set_option maxRecDepth 20000 in
theorem ggX7_undo_X4_recall : GoodIn wsX7_undo wsX4_recall := goodIn_r _ [8, 9, 10, 11, 12, 13, 14, 15, 16, 17, 18, 19, 20, 21, 22, 23, 24, 25, 26, 27, 28, 29, 30, 31, 42, 43, 44, 45, 46, 47, 48, 49, 50, 51, 52, 53, 54, 55] (by decide +kernel) (by decide +kernel)
set_option maxRecDepth 20000 in
theorem gX7_undo_X4_recall : GoodIn wsX7_undo (wsV RX7 172 RX4 yX4_recall wsX4_recall) := goodIn_app (goodIn_of _ (by decide +kernel)) ggX7_undo_X4_recall
theorem dX7_undo_0 : decode cX7_undo 0 = .ok (.aload_n 0, 1) := by decide +kernel
theorem dX7_undo_1 : decode cX7_undo 1 = .ok (.getfield 39, 3) := by decide +kernel
theorem dX7_undo_4 : decode cX7_undo 4 = .ok (.getfield 154, 3) := by decide +kernel
theorem dX7_undo_7 : decode cX7_undo 7 = .ok (.ifCond .ne 6, 3) := by decide +kernel
theorem dX7_undo_10 : decode cX7_undo 10 = .ok (.bipush (-2), 2) := by decide +kernel
theorem dX7_undo_12 : decode cX7_undo 12 = .ok (.ireturn, 1) := by decide +kernel
theorem dX7_undo_13 : decode cX7_undo 13 = .ok (.aload_n 0, 1) := by decide +kernel
theorem dX7_undo_14 : decode cX7_undo 14 = .ok (.getfield 39, 3) := by decide +kernel
theorem dX7_undo_17 : decode cX7_undo 17 = .ok (.aload_n 0, 1) := by decide +kernel
theorem dX7_undo_18 : decode cX7_undo 18 = .ok (.getfield 29, 3) := by decide +kernel
theorem dX7_undo_21 : decode cX7_undo 21 = .ok (.invokevirtual 172, 3) := by decide +kernel
theorem dX7_undo_24 : decode cX7_undo 24 = .ok (.aload_n 0, 1) := by decide +kernel
theorem dX7_undo_25 : decode cX7_undo 25 = .ok (.getfield 39, 3) := by decide +kernel
theorem dX7_undo_28 : decode cX7_undo 28 = .ok (.getfield 154, 3) := by decide +kernel
theorem dX7_undo_31 : decode cX7_undo 31 = .ok (.ireturn, 1) := by decide +kernel
set_option maxRecDepth 20000 in
theorem ggX7_inDays_X0_hasQuarrel : GoodIn wsX7_inDays wsX0_hasQuarrel := goodIn_r _ [11, 12, 76, 77, 78, 79, 80, 81, 82, 83, 84, 85, 86] (by decide +kernel) (by decide +kernel)
set_option maxRecDepth 20000 in
theorem gX7_inDays_X0_hasQuarrel : GoodIn wsX7_inDays (wsV RX7 109 RX0 yX0_hasQuarrel wsX0_hasQuarrel) := goodIn_app (goodIn_of _ (by decide +kernel)) ggX7_inDays_X0_hasQuarrel
set_option maxRecDepth 20000 in
theorem ggX7_inDays_X0_copy : GoodIn wsX7_inDays wsX0_copy := goodIn_r _ [16, 17, 18, 12, 19, 20, 21, 22, 23, 24, 25, 26, 27, 28, 29, 30, 76, 77, 78, 79, 80, 81, 82, 83, 84, 85, 86] (by decide +kernel) (by decide +kernel)
set_option maxRecDepth 20000 in
theorem gX7_inDays_X0_copy : GoodIn wsX7_inDays (wsV RX7 175 RX0 yX0_copy wsX0_copy) := goodIn_app (goodIn_of _ (by decide +kernel)) ggX7_inDays_X0_copy
set_option maxRecDepth 20000 in
theorem ggX7_inDays_X0_passDay : GoodIn wsX7_inDays wsX0_passDay := goodIn_r _ [34, 35, 29, 17, 12, 28, 26, 36, 30, 20, 37, 38, 39, 10, 40, 27, 41, 42, 43, 44, 45, 46, 47, 48, 49, 50, 25, 18, 51, 52, 53, 54, 19, 55, 56, 57, 58, 59, 60, 61, 62, 63, 64, 65, 87, 88, 89, 90, 91, 76, 77, 78, 79, 80, 81, 82, 83, 84, 85, 86] (by decide +kernel) (by decide +kernel)
set_option maxRecDepth 20000 in
theorem gX7_inDays_X0_passDay : GoodIn wsX7_inDays (wsV RX7 165 RX0 yX0_passDay wsX0_passDay) := goodIn_app (goodIn_of _ (by decide +kernel)) ggX7_inDays_X0_passDay
theorem dX7_inDays_0 : decode cX7_inDays 0 = .ok (.aload_n 0, 1) := by decide +kernel
theorem dX7_inDays_1 : decode cX7_inDays 1 = .ok (.getfield 29, 3) := by decide +kernel
theorem dX7_inDays_4 : decode cX7_inDays 4 = .ok (.iload_n 1, 1) := by decide +kernel
theorem dX7_inDays_5 : decode cX7_inDays 5 = .ok (.invokevirtual 109, 3) := by decide +kernel
theorem dX7_inDays_8 : decode cX7_inDays 8 = .ok (.ifCond .eq 22, 3) := by decide +kernel
theorem dX7_inDays_11 : decode cX7_inDays 11 = .ok (.iload_n 2, 1) := by decide +kernel
theorem dX7_inDays_12 : decode cX7_inDays 12 = .ok (.ifCond .lt 18, 3) := by decide +kernel
theorem dX7_inDays_15 : decode cX7_inDays 15 = .ok (.iload_n 2, 1) := by decide +kernel
theorem dX7_inDays_16 : decode cX7_inDays 16 = .ok (.bipush 60, 2) := by decide +kernel
theorem dX7_inDays_18 : decode cX7_inDays 18 = .ok (.if_icmp .gt 12, 3) := by decide +kernel
theorem dX7_inDays_21 : decode cX7_inDays 21 = .ok (.iload_n 3, 1) := by decide +kernel
theorem dX7_inDays_22 : decode cX7_inDays 22 = .ok (.ifCond .lt 8, 3) := by decide +kernel
theorem dX7_inDays_25 : decode cX7_inDays 25 = .ok (.iload_n 3, 1) := by decide +kernel
theorem dX7_inDays_26 : decode cX7_inDays 26 = .ok (.iconst 2, 1) := by decide +kernel
theorem dX7_inDays_27 : decode cX7_inDays 27 = .ok (.if_icmp .le 5, 3) := by decide +kernel
theorem dX7_inDays_30 : decode cX7_inDays 30 = .ok (.iconst (-1), 1) := by decide +kernel
theorem dX7_inDays_31 : decode cX7_inDays 31 = .ok (.ireturn, 1) := by decide +kernel
theorem dX7_inDays_32 : decode cX7_inDays 32 = .ok (.aload_n 0, 1) := by decide +kernel
theorem dX7_inDays_33 : decode cX7_inDays 33 = .ok (.getfield 33, 3) := by decide +kernel
theorem dX7_inDays_36 : decode cX7_inDays 36 = .ok (.aload_n 0, 1) := by decide +kernel
theorem dX7_inDays_37 : decode cX7_inDays 37 = .ok (.getfield 29, 3) := by decide +kernel
theorem dX7_inDays_40 : decode cX7_inDays 40 = .ok (.invokevirtual 175, 3) := by decide +kernel
theorem dX7_inDays_43 : decode cX7_inDays 43 = .ok (.iconst 0, 1) := by decide +kernel
theorem dX7_inDays_44 : decode cX7_inDays 44 = .ok (.istore 4, 2) := by decide +kernel
theorem dX7_inDays_46 : decode cX7_inDays 46 = .ok (.iload 4, 2) := by decide +kernel
theorem dX7_inDays_48 : decode cX7_inDays 48 = .ok (.iload_n 2, 1) := by decide +kernel
theorem dX7_inDays_49 : decode cX7_inDays 49 = .ok (.if_icmp .ge 21, 3) := by decide +kernel
theorem dX7_inDays_52 : decode cX7_inDays 52 = .ok (.aload_n 0, 1) := by decide +kernel
theorem dX7_inDays_53 : decode cX7_inDays 53 = .ok (.getfield 33, 3) := by decide +kernel
theorem dX7_inDays_56 : decode cX7_inDays 56 = .ok (.aload_n 0, 1) := by decide +kernel
theorem dX7_inDays_57 : decode cX7_inDays 57 = .ok (.getfield 19, 3) := by decide +kernel
theorem dX7_inDays_60 : decode cX7_inDays 60 = .ok (.invokevirtual 165, 3) := by decide +kernel
theorem dX7_inDays_63 : decode cX7_inDays 63 = .ok (.pop, 1) := by decide +kernel
theorem dX7_inDays_64 : decode cX7_inDays 64 = .ok (.iinc 4 1, 3) := by decide +kernel
theorem dX7_inDays_67 : decode cX7_inDays 67 = .ok (.goto (-21), 3) := by decide +kernel
theorem dX7_inDays_70 : decode cX7_inDays 70 = .ok (.iload_n 3, 1) := by decide +kernel
theorem dX7_inDays_71 : decode cX7_inDays 71 = .ok (.ifCond .ne 13, 3) := by decide +kernel
theorem dX7_inDays_74 : decode cX7_inDays 74 = .ok (.aload_n 0, 1) := by decide +kernel
theorem dX7_inDays_75 : decode cX7_inDays 75 = .ok (.getfield 33, 3) := by decide +kernel
theorem dX7_inDays_78 : decode cX7_inDays 78 = .ok (.getfield 112, 3) := by decide +kernel
theorem dX7_inDays_81 : decode cX7_inDays 81 = .ok (.iload_n 1, 1) := by decide +kernel
theorem dX7_inDays_82 : decode cX7_inDays 82 = .ok (.iaload, 1) := by decide +kernel
theorem dX7_inDays_83 : decode cX7_inDays 83 = .ok (.ireturn, 1) := by decide +kernel
theorem dX7_inDays_84 : decode cX7_inDays 84 = .ok (.iload_n 3, 1) := by decide +kernel
theorem dX7_inDays_85 : decode cX7_inDays 85 = .ok (.iconst 1, 1) := by decide +kernel
theorem dX7_inDays_86 : decode cX7_inDays 86 = .ok (.if_icmp .ne 15, 3) := by decide +kernel
theorem dX7_inDays_89 : decode cX7_inDays 89 = .ok (.aload_n 0, 1) := by decide +kernel
theorem dX7_inDays_90 : decode cX7_inDays 90 = .ok (.getfield 33, 3) := by decide +kernel
theorem dX7_inDays_93 : decode cX7_inDays 93 = .ok (.getfield 115, 3) := by decide +kernel
theorem dX7_inDays_96 : decode cX7_inDays 96 = .ok (.iload_n 1, 1) := by decide +kernel
theorem dX7_inDays_97 : decode cX7_inDays 97 = .ok (.iaload, 1) := by decide +kernel
theorem dX7_inDays_98 : decode cX7_inDays 98 = .ok (.goto 12, 3) := by decide +kernel
theorem dX7_inDays_101 : decode cX7_inDays 101 = .ok (.aload_n 0, 1) := by decide +kernel
theorem dX7_inDays_102 : decode cX7_inDays 102 = .ok (.getfield 33, 3) := by decide +kernel
theorem dX7_inDays_105 : decode cX7_inDays 105 = .ok (.getfield 121, 3) := by decide +kernel
theorem dX7_inDays_108 : decode cX7_inDays 108 = .ok (.iload_n 1, 1) := by decide +kernel
theorem dX7_inDays_109 : decode cX7_inDays 109 = .ok (.iaload, 1) := by decide +kernel
theorem dX7_inDays_110 : decode cX7_inDays 110 = .ok (.ireturn, 1) := by decide +kernel
set_option maxRecDepth 20000 in
theorem ggX7_ends_X0_hasQuarrel : GoodIn wsX7_ends wsX0_hasQuarrel := goodIn_r _ [7, 8, 93, 94, 95, 96, 97, 98, 99, 100, 101, 102, 103] (by decide +kernel) (by decide +kernel)
set_option maxRecDepth 20000 in
theorem gX7_ends_X0_hasQuarrel : GoodIn wsX7_ends (wsV RX7 109 RX0 yX0_hasQuarrel wsX0_hasQuarrel) := goodIn_app (goodIn_of _ (by decide +kernel)) ggX7_ends_X0_hasQuarrel
set_option maxRecDepth 20000 in
theorem ggX7_ends_X0_copy : GoodIn wsX7_ends wsX0_copy := goodIn_r _ [12, 13, 14, 8, 15, 16, 17, 18, 19, 20, 21, 22, 23, 24, 25, 26, 93, 94, 95, 96, 97, 98, 99, 100, 101, 102, 103] (by decide +kernel) (by decide +kernel)
set_option maxRecDepth 20000 in
theorem gX7_ends_X0_copy : GoodIn wsX7_ends (wsV RX7 175 RX0 yX0_copy wsX0_copy) := goodIn_app (goodIn_of _ (by decide +kernel)) ggX7_ends_X0_copy
set_option maxRecDepth 20000 in
theorem ggX7_ends_X7_daysTillClosed : GoodIn wsX7_ends wsX7_daysTillClosed := goodIn_r _ [31, 32, 33, 2, 34, 35, 36, 37, 38, 39, 40, 41, 42, 43, 44, 45, 46, 47, 48, 49, 50, 51, 52, 53, 54, 55, 56, 57, 58, 59, 60, 6, 61, 62, 25, 13, 8, 24, 22, 63, 26, 16, 64, 65, 66, 67, 23, 68, 69, 70, 71, 72, 21, 14, 73, 74, 75, 76, 15, 77, 78, 79, 80, 81, 82, 83, 84, 85, 86, 87, 88, 89, 90, 91, 92, 93, 94, 95, 96, 97, 98, 99, 100, 101, 102, 103, 104, 105, 106, 107, 108, 109, 110] (by decide +kernel) (by decide +kernel)
set_option maxRecDepth 20000 in
theorem gX7_ends_X7_daysTillClosed : GoodIn wsX7_ends (wsV RX7 178 RX7 yX7_daysTillClosed wsX7_daysTillClosed) := goodIn_app (goodIn_of _ (by decide +kernel)) ggX7_ends_X7_daysTillClosed
end
section
theorem dX7_ends_0 : decode cX7_ends 0 = .ok (.aload_n 0, 1) := by decide +kernel
theorem dX7_ends_1 : decode cX7_ends 1 = .ok (.getfield 29, 3) := by decide +kernel
theorem dX7_ends_4 : decode cX7_ends 4 = .ok (.iload_n 1, 1) := by decide +kernel
theorem dX7_ends_5 : decode cX7_ends 5 = .ok (.invokevirtual 109, 3) := by decide +kernel
theorem dX7_ends_8 : decode cX7_ends 8 = .ok (.ifCond .ne 5, 3) := by decide +kernel
theorem dX7_ends_11 : decode cX7_ends 11 = .ok (.iconst (-1), 1) := by decide +kernel
theorem dX7_ends_12 : decode cX7_ends 12 = .ok (.ireturn, 1) := by decide +kernel
theorem dX7_ends_13 : decode cX7_ends 13 = .ok (.aload_n 0, 1) := by decide +kernel
theorem dX7_ends_14 : decode cX7_ends 14 = .ok (.getfield 33, 3) := by decide +kernel
theorem dX7_ends_17 : decode cX7_ends 17 = .ok (.aload_n 0, 1) := by decide +kernel
theorem dX7_ends_18 : decode cX7_ends 18 = .ok (.getfield 29, 3) := by decide +kernel
theorem dX7_ends_21 : decode cX7_ends 21 = .ok (.invokevirtual 175, 3) := by decide +kernel
theorem dX7_ends_24 : decode cX7_ends 24 = .ok (.aload_n 0, 1) := by decide +kernel
theorem dX7_ends_25 : decode cX7_ends 25 = .ok (.iload_n 1, 1) := by decide +kernel
theorem dX7_ends_26 : decode cX7_ends 26 = .ok (.invokevirtual 178, 3) := by decide +kernel
theorem dX7_ends_29 : decode cX7_ends 29 = .ok (.ireturn, 1) := by decide +kernel
set_option maxRecDepth 20000 in
theorem ggX7_round_X7_mayStand : GoodIn wsX7_round wsX7_mayStand := goodIn_r _ [11, 3, 12, 13, 14, 15, 16, 17, 41, 42, 43, 44, 45, 46, 47, 48, 49, 50, 64, 65, 66, 67, 68] (by decide +kernel) (by decide +kernel)
set_option maxRecDepth 20000 in
theorem gX7_round_X7_mayStand : GoodIn wsX7_round (wsV RX7 130 RX7 yX7_mayStand wsX7_mayStand) := goodIn_app (goodIn_of _ (by decide +kernel)) ggX7_round_X7_mayStand
set_option maxRecDepth 20000 in
theorem ggX7_round_X0_hasLaid : GoodIn wsX7_round wsX0_hasLaid := goodIn_r _ [22, 23, 51, 52, 53, 54, 55, 56, 57, 58, 59, 60, 61] (by decide +kernel) (by decide +kernel)
set_option maxRecDepth 20000 in
theorem gX7_round_X0_hasLaid : GoodIn wsX7_round (wsV RX7 96 RX0 yX0_hasLaid wsX0_hasLaid) := goodIn_app (goodIn_of _ (by decide +kernel)) ggX7_round_X0_hasLaid
set_option maxRecDepth 20000 in
theorem ggX7_round_X2_follow : GoodIn wsX7_round wsX2_follow := goodIn_r _ [28, 29, 30, 31, 32, 33, 15, 34, 17, 35, 36, 37, 38, 39, 40, 62, 63, 64, 65, 66, 67, 68] (by decide +kernel) (by decide +kernel)
set_option maxRecDepth 20000 in
theorem gX7_round_X2_follow : GoodIn wsX7_round (wsV RX7 181 RX2 yX2_follow wsX2_follow) := goodIn_app (goodIn_of _ (by decide +kernel)) ggX7_round_X2_follow
theorem dX7_round_0 : decode cX7_round 0 = .ok (.aload_n 0, 1) := by decide +kernel
theorem dX7_round_1 : decode cX7_round 1 = .ok (.iload_n 1, 1) := by decide +kernel
theorem dX7_round_2 : decode cX7_round 2 = .ok (.iload_n 2, 1) := by decide +kernel
theorem dX7_round_3 : decode cX7_round 3 = .ok (.invokevirtual 130, 3) := by decide +kernel
theorem dX7_round_6 : decode cX7_round 6 = .ok (.ifCond .eq 12, 3) := by decide +kernel
theorem dX7_round_9 : decode cX7_round 9 = .ok (.iload_n 3, 1) := by decide +kernel
theorem dX7_round_10 : decode cX7_round 10 = .ok (.ifCond .lt 8, 3) := by decide +kernel
theorem dX7_round_13 : decode cX7_round 13 = .ok (.iload_n 3, 1) := by decide +kernel
theorem dX7_round_14 : decode cX7_round 14 = .ok (.iconst 1, 1) := by decide +kernel
theorem dX7_round_15 : decode cX7_round 15 = .ok (.if_icmp .le 5, 3) := by decide +kernel
theorem dX7_round_18 : decode cX7_round 18 = .ok (.iconst (-1), 1) := by decide +kernel
theorem dX7_round_19 : decode cX7_round 19 = .ok (.ireturn, 1) := by decide +kernel
theorem dX7_round_20 : decode cX7_round 20 = .ok (.aload_n 0, 1) := by decide +kernel
theorem dX7_round_21 : decode cX7_round 21 = .ok (.getfield 29, 3) := by decide +kernel
theorem dX7_round_24 : decode cX7_round 24 = .ok (.iload_n 1, 1) := by decide +kernel
theorem dX7_round_25 : decode cX7_round 25 = .ok (.invokevirtual 96, 3) := by decide +kernel
theorem dX7_round_28 : decode cX7_round 28 = .ok (.ifCond .eq 6, 3) := by decide +kernel
theorem dX7_round_31 : decode cX7_round 31 = .ok (.bipush (-2), 2) := by decide +kernel
theorem dX7_round_33 : decode cX7_round 33 = .ok (.ireturn, 1) := by decide +kernel
theorem dX7_round_34 : decode cX7_round 34 = .ok (.aload_n 0, 1) := by decide +kernel
theorem dX7_round_35 : decode cX7_round 35 = .ok (.getfield 60, 3) := by decide +kernel
theorem dX7_round_38 : decode cX7_round 38 = .ok (.aload_n 0, 1) := by decide +kernel
theorem dX7_round_39 : decode cX7_round 39 = .ok (.getfield 19, 3) := by decide +kernel
theorem dX7_round_42 : decode cX7_round 42 = .ok (.iload_n 1, 1) := by decide +kernel
theorem dX7_round_43 : decode cX7_round 43 = .ok (.iload_n 2, 1) := by decide +kernel
theorem dX7_round_44 : decode cX7_round 44 = .ok (.aload_n 0, 1) := by decide +kernel
theorem dX7_round_45 : decode cX7_round 45 = .ok (.getfield 29, 3) := by decide +kernel
theorem dX7_round_48 : decode cX7_round 48 = .ok (.getfield 134, 3) := by decide +kernel
theorem dX7_round_51 : decode cX7_round 51 = .ok (.invokevirtual 181, 3) := by decide +kernel
theorem dX7_round_54 : decode cX7_round 54 = .ok (.iload_n 3, 1) := by decide +kernel
theorem dX7_round_55 : decode cX7_round 55 = .ok (.ifCond .ne 13, 3) := by decide +kernel
theorem dX7_round_58 : decode cX7_round 58 = .ok (.aload_n 0, 1) := by decide +kernel
theorem dX7_round_59 : decode cX7_round 59 = .ok (.getfield 60, 3) := by decide +kernel
theorem dX7_round_62 : decode cX7_round 62 = .ok (.getfield 185, 3) := by decide +kernel
theorem dX7_round_65 : decode cX7_round 65 = .ok (.goto 10, 3) := by decide +kernel
theorem dX7_round_68 : decode cX7_round 68 = .ok (.aload_n 0, 1) := by decide +kernel
theorem dX7_round_69 : decode cX7_round 69 = .ok (.getfield 60, 3) := by decide +kernel
theorem dX7_round_72 : decode cX7_round 72 = .ok (.getfield 188, 3) := by decide +kernel
theorem dX7_round_75 : decode cX7_round 75 = .ok (.ireturn, 1) := by decide +kernel
set_option maxRecDepth 20000 in
theorem ggX7_last_X5_hasWriter : GoodIn wsX7_last wsX5_hasWriter := goodIn_r _ [8, 9, 61, 62, 63, 64, 65] (by decide +kernel) (by decide +kernel)
set_option maxRecDepth 20000 in
theorem gX7_last_X5_hasWriter : GoodIn wsX7_last (wsV RX7 85 RX5 yX5_hasWriter wsX5_hasWriter) := goodIn_app (goodIn_of _ (by decide +kernel)) ggX7_last_X5_hasWriter
set_option maxRecDepth 20000 in
theorem ggX7_last_X0_hasLaid : GoodIn wsX7_last wsX0_hasLaid := goodIn_r _ [14, 15, 50, 51, 52, 53, 54, 55, 56, 57, 58, 59, 60] (by decide +kernel) (by decide +kernel)
set_option maxRecDepth 20000 in
theorem gX7_last_X0_hasLaid : GoodIn wsX7_last (wsV RX7 96 RX0 yX0_hasLaid wsX0_hasLaid) := goodIn_app (goodIn_of _ (by decide +kernel)) ggX7_last_X0_hasLaid
set_option maxRecDepth 20000 in
theorem ggX7_last_X7_hasLastWord : GoodIn wsX7_last wsX7_hasLastWord := goodIn_r _ [20, 21, 1, 22, 23, 24, 25, 26, 27, 28, 29, 30, 31, 32, 7, 33, 9, 34, 35, 36, 37, 38, 39, 40, 41, 42, 43, 44, 45, 46, 47, 48, 49, 66, 67, 61, 62, 63, 64, 65] (by decide +kernel) (by decide +kernel)
set_option maxRecDepth 20000 in
theorem gX7_last_X7_hasLastWord : GoodIn wsX7_last (wsV RX7 191 RX7 yX7_hasLastWord wsX7_hasLastWord) := goodIn_app (goodIn_of _ (by decide +kernel)) ggX7_last_X7_hasLastWord
theorem dX7_last_0 : decode cX7_last 0 = .ok (.aload_n 0, 1) := by decide +kernel
theorem dX7_last_1 : decode cX7_last 1 = .ok (.getfield 19, 3) := by decide +kernel
theorem dX7_last_4 : decode cX7_last 4 = .ok (.iload_n 1, 1) := by decide +kernel
theorem dX7_last_5 : decode cX7_last 5 = .ok (.invokevirtual 85, 3) := by decide +kernel
theorem dX7_last_8 : decode cX7_last 8 = .ok (.ifCond .ne 5, 3) := by decide +kernel
theorem dX7_last_11 : decode cX7_last 11 = .ok (.iconst (-1), 1) := by decide +kernel
theorem dX7_last_12 : decode cX7_last 12 = .ok (.ireturn, 1) := by decide +kernel
theorem dX7_last_13 : decode cX7_last 13 = .ok (.aload_n 0, 1) := by decide +kernel
theorem dX7_last_14 : decode cX7_last 14 = .ok (.getfield 29, 3) := by decide +kernel
theorem dX7_last_17 : decode cX7_last 17 = .ok (.iload_n 1, 1) := by decide +kernel
theorem dX7_last_18 : decode cX7_last 18 = .ok (.invokevirtual 96, 3) := by decide +kernel
theorem dX7_last_21 : decode cX7_last 21 = .ok (.ifCond .eq 6, 3) := by decide +kernel
theorem dX7_last_24 : decode cX7_last 24 = .ok (.bipush (-2), 2) := by decide +kernel
theorem dX7_last_26 : decode cX7_last 26 = .ok (.ireturn, 1) := by decide +kernel
theorem dX7_last_27 : decode cX7_last 27 = .ok (.iconst 0, 1) := by decide +kernel
theorem dX7_last_28 : decode cX7_last 28 = .ok (.istore_n 2, 1) := by decide +kernel
theorem dX7_last_29 : decode cX7_last 29 = .ok (.iload_n 2, 1) := by decide +kernel
theorem dX7_last_30 : decode cX7_last 30 = .ok (.iconst 5, 1) := by decide +kernel
theorem dX7_last_31 : decode cX7_last 31 = .ok (.if_icmp .ge 27, 3) := by decide +kernel
theorem dX7_last_34 : decode cX7_last 34 = .ok (.aload_n 0, 1) := by decide +kernel
theorem dX7_last_35 : decode cX7_last 35 = .ok (.iload_n 1, 1) := by decide +kernel
theorem dX7_last_36 : decode cX7_last 36 = .ok (.iload_n 2, 1) := by decide +kernel
theorem dX7_last_37 : decode cX7_last 37 = .ok (.aload_n 0, 1) := by decide +kernel
theorem dX7_last_38 : decode cX7_last 38 = .ok (.getfield 29, 3) := by decide +kernel
theorem dX7_last_41 : decode cX7_last 41 = .ok (.getfield 134, 3) := by decide +kernel
theorem dX7_last_44 : decode cX7_last 44 = .ok (.invokevirtual 191, 3) := by decide +kernel
theorem dX7_last_47 : decode cX7_last 47 = .ok (.ifCond .eq 5, 3) := by decide +kernel
theorem dX7_last_50 : decode cX7_last 50 = .ok (.iload_n 2, 1) := by decide +kernel
theorem dX7_last_51 : decode cX7_last 51 = .ok (.ireturn, 1) := by decide +kernel
theorem dX7_last_52 : decode cX7_last 52 = .ok (.iinc 2 1, 3) := by decide +kernel
theorem dX7_last_55 : decode cX7_last 55 = .ok (.goto (-26), 3) := by decide +kernel
theorem dX7_last_58 : decode cX7_last 58 = .ok (.bipush (-9), 2) := by decide +kernel
theorem dX7_last_60 : decode cX7_last 60 = .ok (.ireturn, 1) := by decide +kernel
set_option maxRecDepth 20000 in
theorem ggX7_bindsNobody_X5_hasWriter : GoodIn wsX7_bindsNobody wsX5_hasWriter := goodIn_r _ [8, 9, 36, 37, 38, 39, 40] (by decide +kernel) (by decide +kernel)
set_option maxRecDepth 20000 in
theorem gX7_bindsNobody_X5_hasWriter : GoodIn wsX7_bindsNobody (wsV RX7 85 RX5 yX5_hasWriter wsX5_hasWriter) := goodIn_app (goodIn_of _ (by decide +kernel)) ggX7_bindsNobody_X5_hasWriter
set_option maxRecDepth 20000 in
theorem ggX7_bindsNobody_X5_answerer : GoodIn wsX7_bindsNobody wsX5_answerer := goodIn_r _ [13, 9, 14, 36, 37, 38, 39, 40] (by decide +kernel) (by decide +kernel)
set_option maxRecDepth 20000 in
theorem gX7_bindsNobody_X5_answerer : GoodIn wsX7_bindsNobody (wsV RX7 138 RX5 yX5_answerer wsX5_answerer) := goodIn_app (goodIn_of _ (by decide +kernel)) ggX7_bindsNobody_X5_answerer
theorem dX7_bindsNobody_0 : decode cX7_bindsNobody 0 = .ok (.aload_n 0, 1) := by decide +kernel
theorem dX7_bindsNobody_1 : decode cX7_bindsNobody 1 = .ok (.getfield 19, 3) := by decide +kernel
theorem dX7_bindsNobody_4 : decode cX7_bindsNobody 4 = .ok (.iload_n 1, 1) := by decide +kernel
theorem dX7_bindsNobody_5 : decode cX7_bindsNobody 5 = .ok (.invokevirtual 85, 3) := by decide +kernel
theorem dX7_bindsNobody_8 : decode cX7_bindsNobody 8 = .ok (.ifCond .ne 5, 3) := by decide +kernel
theorem dX7_bindsNobody_11 : decode cX7_bindsNobody 11 = .ok (.iconst (-1), 1) := by decide +kernel
theorem dX7_bindsNobody_12 : decode cX7_bindsNobody 12 = .ok (.ireturn, 1) := by decide +kernel
theorem dX7_bindsNobody_13 : decode cX7_bindsNobody 13 = .ok (.iconst 0, 1) := by decide +kernel
theorem dX7_bindsNobody_14 : decode cX7_bindsNobody 14 = .ok (.istore_n 2, 1) := by decide +kernel
theorem dX7_bindsNobody_15 : decode cX7_bindsNobody 15 = .ok (.iconst 0, 1) := by decide +kernel
theorem dX7_bindsNobody_16 : decode cX7_bindsNobody 16 = .ok (.istore_n 3, 1) := by decide +kernel
theorem dX7_bindsNobody_17 : decode cX7_bindsNobody 17 = .ok (.iload_n 3, 1) := by decide +kernel
theorem dX7_bindsNobody_18 : decode cX7_bindsNobody 18 = .ok (.iconst 5, 1) := by decide +kernel
theorem dX7_bindsNobody_19 : decode cX7_bindsNobody 19 = .ok (.if_icmp .ge 36, 3) := by decide +kernel
theorem dX7_bindsNobody_22 : decode cX7_bindsNobody 22 = .ok (.aload_n 0, 1) := by decide +kernel
theorem dX7_bindsNobody_23 : decode cX7_bindsNobody 23 = .ok (.getfield 19, 3) := by decide +kernel
theorem dX7_bindsNobody_26 : decode cX7_bindsNobody 26 = .ok (.iload_n 1, 1) := by decide +kernel
theorem dX7_bindsNobody_27 : decode cX7_bindsNobody 27 = .ok (.iload_n 3, 1) := by decide +kernel
theorem dX7_bindsNobody_28 : decode cX7_bindsNobody 28 = .ok (.aload_n 0, 1) := by decide +kernel
theorem dX7_bindsNobody_29 : decode cX7_bindsNobody 29 = .ok (.getfield 29, 3) := by decide +kernel
theorem dX7_bindsNobody_32 : decode cX7_bindsNobody 32 = .ok (.getfield 134, 3) := by decide +kernel
theorem dX7_bindsNobody_35 : decode cX7_bindsNobody 35 = .ok (.invokevirtual 138, 3) := by decide +kernel
theorem dX7_bindsNobody_38 : decode cX7_bindsNobody 38 = .ok (.bipush (-9), 2) := by decide +kernel
theorem dX7_bindsNobody_40 : decode cX7_bindsNobody 40 = .ok (.if_icmp .ne 9, 3) := by decide +kernel
theorem dX7_bindsNobody_43 : decode cX7_bindsNobody 43 = .ok (.iload_n 2, 1) := by decide +kernel
theorem dX7_bindsNobody_44 : decode cX7_bindsNobody 44 = .ok (.iconst 1, 1) := by decide +kernel
theorem dX7_bindsNobody_45 : decode cX7_bindsNobody 45 = .ok (.iload_n 3, 1) := by decide +kernel
theorem dX7_bindsNobody_46 : decode cX7_bindsNobody 46 = .ok (.ishl, 1) := by decide +kernel
theorem dX7_bindsNobody_47 : decode cX7_bindsNobody 47 = .ok (.ior, 1) := by decide +kernel
theorem dX7_bindsNobody_48 : decode cX7_bindsNobody 48 = .ok (.istore_n 2, 1) := by decide +kernel
theorem dX7_bindsNobody_49 : decode cX7_bindsNobody 49 = .ok (.iinc 3 1, 3) := by decide +kernel
theorem dX7_bindsNobody_52 : decode cX7_bindsNobody 52 = .ok (.goto (-35), 3) := by decide +kernel
theorem dX7_bindsNobody_55 : decode cX7_bindsNobody 55 = .ok (.iload_n 2, 1) := by decide +kernel
theorem dX7_bindsNobody_56 : decode cX7_bindsNobody 56 = .ok (.ireturn, 1) := by decide +kernel
set_option maxRecDepth 20000 in
theorem ggX7_keeps_X5_hasWriter : GoodIn wsX7_keeps wsX5_hasWriter := goodIn_r _ [8, 9, 45, 46, 47, 48, 49] (by decide +kernel) (by decide +kernel)
set_option maxRecDepth 20000 in
theorem gX7_keeps_X5_hasWriter : GoodIn wsX7_keeps (wsV RX7 85 RX5 yX5_hasWriter wsX5_hasWriter) := goodIn_app (goodIn_of _ (by decide +kernel)) ggX7_keeps_X5_hasWriter
set_option maxRecDepth 20000 in
theorem ggX7_keeps_X0_owedBits : GoodIn wsX7_keeps wsX0_owedBits := goodIn_r _ [14, 15, 16, 50, 51, 52, 53, 54, 55, 56, 57, 58, 59, 60] (by decide +kernel) (by decide +kernel)
set_option maxRecDepth 20000 in
theorem gX7_keeps_X0_owedBits : GoodIn wsX7_keeps (wsV RX7 195 RX0 yX0_owedBits wsX0_owedBits) := goodIn_app (goodIn_of _ (by decide +kernel)) ggX7_keeps_X0_owedBits
set_option maxRecDepth 20000 in
theorem ggX7_keeps_J6_bitCount_0f7a4 : GoodIn wsX7_keeps wsJ6_bitCount_0f7a4 := goodIn_r _ [20, 21, 22, 23] (by decide +kernel) (by decide +kernel)
set_option maxRecDepth 20000 in
theorem gX7_keeps_J6_bitCount_0f7a4 : GoodIn wsX7_keeps (va_wsS RX7 198 yJ6_bitCount_0f7a4 wsJ6_bitCount_0f7a4) := goodIn_app (goodIn_of _ (by decide +kernel)) ggX7_keeps_J6_bitCount_0f7a4
set_option maxRecDepth 20000 in
theorem ggX7_keeps_X0_canKeep : GoodIn wsX7_keeps wsX0_canKeep := goodIn_r _ [27, 15, 28, 29, 30, 31, 32, 13, 33, 34, 50, 51, 52, 53, 54, 55, 56, 57, 58, 59, 60] (by decide +kernel) (by decide +kernel)
set_option maxRecDepth 20000 in
theorem gX7_keeps_X0_canKeep : GoodIn wsX7_keeps (wsV RX7 206 RX0 yX0_canKeep wsX0_canKeep) := goodIn_app (goodIn_of _ (by decide +kernel)) ggX7_keeps_X0_canKeep
theorem dX7_keeps_0 : decode cX7_keeps 0 = .ok (.aload_n 0, 1) := by decide +kernel
theorem dX7_keeps_1 : decode cX7_keeps 1 = .ok (.getfield 19, 3) := by decide +kernel
theorem dX7_keeps_4 : decode cX7_keeps 4 = .ok (.iload_n 1, 1) := by decide +kernel
theorem dX7_keeps_5 : decode cX7_keeps 5 = .ok (.invokevirtual 85, 3) := by decide +kernel
theorem dX7_keeps_8 : decode cX7_keeps 8 = .ok (.ifCond .ne 5, 3) := by decide +kernel
theorem dX7_keeps_11 : decode cX7_keeps 11 = .ok (.iconst (-1), 1) := by decide +kernel
theorem dX7_keeps_12 : decode cX7_keeps 12 = .ok (.ireturn, 1) := by decide +kernel
theorem dX7_keeps_13 : decode cX7_keeps 13 = .ok (.aload_n 0, 1) := by decide +kernel
theorem dX7_keeps_14 : decode cX7_keeps 14 = .ok (.getfield 29, 3) := by decide +kernel
theorem dX7_keeps_17 : decode cX7_keeps 17 = .ok (.iload_n 1, 1) := by decide +kernel
theorem dX7_keeps_18 : decode cX7_keeps 18 = .ok (.invokevirtual 195, 3) := by decide +kernel
theorem dX7_keeps_21 : decode cX7_keeps 21 = .ok (.istore_n 2, 1) := by decide +kernel
theorem dX7_keeps_22 : decode cX7_keeps 22 = .ok (.iconst 0, 1) := by decide +kernel
theorem dX7_keeps_23 : decode cX7_keeps 23 = .ok (.istore_n 3, 1) := by decide +kernel
theorem dX7_keeps_24 : decode cX7_keeps 24 = .ok (.iconst 0, 1) := by decide +kernel
theorem dX7_keeps_25 : decode cX7_keeps 25 = .ok (.istore 4, 2) := by decide +kernel
theorem dX7_keeps_27 : decode cX7_keeps 27 = .ok (.iload 4, 2) := by decide +kernel
theorem dX7_keeps_29 : decode cX7_keeps 29 = .ok (.bipush 64, 2) := by decide +kernel
theorem dX7_keeps_31 : decode cX7_keeps 31 = .ok (.if_icmp .ge 64, 3) := by decide +kernel
theorem dX7_keeps_34 : decode cX7_keeps 34 = .ok (.iload 4, 2) := by decide +kernel
theorem dX7_keeps_36 : decode cX7_keeps 36 = .ok (.iload_n 2, 1) := by decide +kernel
theorem dX7_keeps_37 : decode cX7_keeps 37 = .ok (.iconst (-1), 1) := by decide +kernel
theorem dX7_keeps_38 : decode cX7_keeps 38 = .ok (.ixor, 1) := by decide +kernel
theorem dX7_keeps_39 : decode cX7_keeps 39 = .ok (.iand, 1) := by decide +kernel
theorem dX7_keeps_40 : decode cX7_keeps 40 = .ok (.ifCond .ne 7, 3) := by decide +kernel
theorem dX7_keeps_43 : decode cX7_keeps 43 = .ok (.iconst 1, 1) := by decide +kernel
theorem dX7_keeps_44 : decode cX7_keeps 44 = .ok (.goto 4, 3) := by decide +kernel
theorem dX7_keeps_47 : decode cX7_keeps 47 = .ok (.iconst 0, 1) := by decide +kernel
theorem dX7_keeps_48 : decode cX7_keeps 48 = .ok (.istore 5, 2) := by decide +kernel
theorem dX7_keeps_50 : decode cX7_keeps 50 = .ok (.iload 5, 2) := by decide +kernel
theorem dX7_keeps_52 : decode cX7_keeps 52 = .ok (.ifCond .eq 37, 3) := by decide +kernel
theorem dX7_keeps_55 : decode cX7_keeps 55 = .ok (.iload 4, 2) := by decide +kernel
theorem dX7_keeps_57 : decode cX7_keeps 57 = .ok (.invokestatic 198, 3) := by decide +kernel
theorem dX7_keeps_60 : decode cX7_keeps 60 = .ok (.iload_n 3, 1) := by decide +kernel
theorem dX7_keeps_61 : decode cX7_keeps 61 = .ok (.if_icmp .le 28, 3) := by decide +kernel
theorem dX7_keeps_64 : decode cX7_keeps 64 = .ok (.aload_n 0, 1) := by decide +kernel
theorem dX7_keeps_65 : decode cX7_keeps 65 = .ok (.getfield 29, 3) := by decide +kernel
theorem dX7_keeps_68 : decode cX7_keeps 68 = .ok (.iload 4, 2) := by decide +kernel
theorem dX7_keeps_70 : decode cX7_keeps 70 = .ok (.aload_n 0, 1) := by decide +kernel
theorem dX7_keeps_71 : decode cX7_keeps 71 = .ok (.getfield 19, 3) := by decide +kernel
theorem dX7_keeps_74 : decode cX7_keeps 74 = .ok (.getfield 203, 3) := by decide +kernel
theorem dX7_keeps_77 : decode cX7_keeps 77 = .ok (.invokevirtual 206, 3) := by decide +kernel
theorem dX7_keeps_80 : decode cX7_keeps 80 = .ok (.ifCond .eq 9, 3) := by decide +kernel
theorem dX7_keeps_83 : decode cX7_keeps 83 = .ok (.iload 4, 2) := by decide +kernel
theorem dX7_keeps_85 : decode cX7_keeps 85 = .ok (.invokestatic 198, 3) := by decide +kernel
theorem dX7_keeps_88 : decode cX7_keeps 88 = .ok (.istore_n 3, 1) := by decide +kernel
theorem dX7_keeps_89 : decode cX7_keeps 89 = .ok (.iinc 4 1, 3) := by decide +kernel
theorem dX7_keeps_92 : decode cX7_keeps 92 = .ok (.goto (-65), 3) := by decide +kernel
theorem dX7_keeps_95 : decode cX7_keeps 95 = .ok (.iload_n 3, 1) := by decide +kernel
theorem dX7_keeps_96 : decode cX7_keeps 96 = .ok (.ireturn, 1) := by decide +kernel
set_option maxRecDepth 20000 in
theorem ggX7_lateFirst_X0_copy : GoodIn wsX7_lateFirst wsX0_copy := goodIn_r _ [10, 11, 12, 13, 14, 15, 16, 17, 18, 19, 20, 21, 22, 23, 24, 25, 80, 81, 82, 83, 84, 85, 86, 87, 88, 89, 90] (by decide +kernel) (by decide +kernel)
set_option maxRecDepth 20000 in
theorem gX7_lateFirst_X0_copy : GoodIn wsX7_lateFirst (wsV RX7 175 RX0 yX0_copy wsX0_copy) := goodIn_app (goodIn_of _ (by decide +kernel)) ggX7_lateFirst_X0_copy
set_option maxRecDepth 20000 in
theorem ggX7_lateFirst_X0_passDay : GoodIn wsX7_lateFirst wsX0_passDay := goodIn_r _ [29, 30, 24, 11, 13, 23, 21, 31, 25, 15, 32, 33, 34, 9, 35, 22, 36, 37, 38, 39, 40, 41, 42, 43, 44, 45, 20, 12, 46, 47, 48, 49, 14, 50, 51, 52, 53, 54, 55, 56, 57, 58, 59, 60, 75, 76, 77, 78, 79, 80, 81, 82, 83, 84, 85, 86, 87, 88, 89, 90] (by decide +kernel) (by decide +kernel)
set_option maxRecDepth 20000 in
theorem gX7_lateFirst_X0_passDay : GoodIn wsX7_lateFirst (wsV RX7 165 RX0 yX0_passDay wsX0_passDay) := goodIn_app (goodIn_of _ (by decide +kernel)) ggX7_lateFirst_X0_passDay
set_option maxRecDepth 20000 in
theorem ggX7_lateFirst_X0_firstNewlyLate : GoodIn wsX7_lateFirst wsX0_firstNewlyLate := goodIn_r _ [64, 13, 23, 57, 58, 59, 9, 60, 11, 22, 80, 81, 82, 83, 84, 85, 86, 87, 88, 89, 90] (by decide +kernel) (by decide +kernel)
set_option maxRecDepth 20000 in
theorem gX7_lateFirst_X0_firstNewlyLate : GoodIn wsX7_lateFirst (wsV RX7 209 RX0 yX0_firstNewlyLate wsX0_firstNewlyLate) := goodIn_app (goodIn_of _ (by decide +kernel)) ggX7_lateFirst_X0_firstNewlyLate
theorem dX7_lateFirst_0 : decode cX7_lateFirst 0 = .ok (.iload_n 1, 1) := by decide +kernel
theorem dX7_lateFirst_1 : decode cX7_lateFirst 1 = .ok (.ifCond .lt 8, 3) := by decide +kernel
theorem dX7_lateFirst_4 : decode cX7_lateFirst 4 = .ok (.iload_n 1, 1) := by decide +kernel
theorem dX7_lateFirst_5 : decode cX7_lateFirst 5 = .ok (.iconst 1, 1) := by decide +kernel
theorem dX7_lateFirst_6 : decode cX7_lateFirst 6 = .ok (.if_icmp .le 5, 3) := by decide +kernel
theorem dX7_lateFirst_9 : decode cX7_lateFirst 9 = .ok (.iconst (-1), 1) := by decide +kernel
theorem dX7_lateFirst_10 : decode cX7_lateFirst 10 = .ok (.ireturn, 1) := by decide +kernel
theorem dX7_lateFirst_11 : decode cX7_lateFirst 11 = .ok (.aload_n 0, 1) := by decide +kernel
theorem dX7_lateFirst_12 : decode cX7_lateFirst 12 = .ok (.getfield 33, 3) := by decide +kernel
theorem dX7_lateFirst_15 : decode cX7_lateFirst 15 = .ok (.aload_n 0, 1) := by decide +kernel
theorem dX7_lateFirst_16 : decode cX7_lateFirst 16 = .ok (.getfield 29, 3) := by decide +kernel
theorem dX7_lateFirst_19 : decode cX7_lateFirst 19 = .ok (.invokevirtual 175, 3) := by decide +kernel
theorem dX7_lateFirst_22 : decode cX7_lateFirst 22 = .ok (.iconst 1, 1) := by decide +kernel
theorem dX7_lateFirst_23 : decode cX7_lateFirst 23 = .ok (.istore_n 2, 1) := by decide +kernel
theorem dX7_lateFirst_24 : decode cX7_lateFirst 24 = .ok (.iload_n 2, 1) := by decide +kernel
theorem dX7_lateFirst_25 : decode cX7_lateFirst 25 = .ok (.sipush 200, 3) := by decide +kernel
theorem dX7_lateFirst_28 : decode cX7_lateFirst 28 = .ok (.if_icmp .gt 60, 3) := by decide +kernel
theorem dX7_lateFirst_31 : decode cX7_lateFirst 31 = .ok (.aload_n 0, 1) := by decide +kernel
theorem dX7_lateFirst_32 : decode cX7_lateFirst 32 = .ok (.getfield 33, 3) := by decide +kernel
theorem dX7_lateFirst_35 : decode cX7_lateFirst 35 = .ok (.aload_n 0, 1) := by decide +kernel
theorem dX7_lateFirst_36 : decode cX7_lateFirst 36 = .ok (.getfield 19, 3) := by decide +kernel
theorem dX7_lateFirst_39 : decode cX7_lateFirst 39 = .ok (.invokevirtual 165, 3) := by decide +kernel
theorem dX7_lateFirst_42 : decode cX7_lateFirst 42 = .ok (.pop, 1) := by decide +kernel
theorem dX7_lateFirst_43 : decode cX7_lateFirst 43 = .ok (.aload_n 0, 1) := by decide +kernel
theorem dX7_lateFirst_44 : decode cX7_lateFirst 44 = .ok (.getfield 33, 3) := by decide +kernel
theorem dX7_lateFirst_47 : decode cX7_lateFirst 47 = .ok (.aload_n 0, 1) := by decide +kernel
theorem dX7_lateFirst_48 : decode cX7_lateFirst 48 = .ok (.getfield 19, 3) := by decide +kernel
theorem dX7_lateFirst_51 : decode cX7_lateFirst 51 = .ok (.getfield 203, 3) := by decide +kernel
theorem dX7_lateFirst_54 : decode cX7_lateFirst 54 = .ok (.invokevirtual 209, 3) := by decide +kernel
theorem dX7_lateFirst_57 : decode cX7_lateFirst 57 = .ok (.istore_n 3, 1) := by decide +kernel
theorem dX7_lateFirst_58 : decode cX7_lateFirst 58 = .ok (.iload_n 3, 1) := by decide +kernel
theorem dX7_lateFirst_59 : decode cX7_lateFirst 59 = .ok (.bipush (-9), 2) := by decide +kernel
theorem dX7_lateFirst_61 : decode cX7_lateFirst 61 = .ok (.if_icmp .eq 21, 3) := by decide +kernel
theorem dX7_lateFirst_64 : decode cX7_lateFirst 64 = .ok (.iload_n 1, 1) := by decide +kernel
theorem dX7_lateFirst_65 : decode cX7_lateFirst 65 = .ok (.ifCond .ne 7, 3) := by decide +kernel
theorem dX7_lateFirst_68 : decode cX7_lateFirst 68 = .ok (.iload_n 2, 1) := by decide +kernel
theorem dX7_lateFirst_69 : decode cX7_lateFirst 69 = .ok (.goto 12, 3) := by decide +kernel
theorem dX7_lateFirst_72 : decode cX7_lateFirst 72 = .ok (.aload_n 0, 1) := by decide +kernel
theorem dX7_lateFirst_73 : decode cX7_lateFirst 73 = .ok (.getfield 33, 3) := by decide +kernel
theorem dX7_lateFirst_76 : decode cX7_lateFirst 76 = .ok (.getfield 121, 3) := by decide +kernel
theorem dX7_lateFirst_79 : decode cX7_lateFirst 79 = .ok (.iload_n 3, 1) := by decide +kernel
theorem dX7_lateFirst_80 : decode cX7_lateFirst 80 = .ok (.iaload, 1) := by decide +kernel
theorem dX7_lateFirst_81 : decode cX7_lateFirst 81 = .ok (.ireturn, 1) := by decide +kernel
theorem dX7_lateFirst_82 : decode cX7_lateFirst 82 = .ok (.iinc 2 1, 3) := by decide +kernel
theorem dX7_lateFirst_85 : decode cX7_lateFirst 85 = .ok (.goto (-61), 3) := by decide +kernel
theorem dX7_lateFirst_88 : decode cX7_lateFirst 88 = .ok (.bipush (-9), 2) := by decide +kernel
theorem dX7_lateFirst_90 : decode cX7_lateFirst 90 = .ok (.ireturn, 1) := by decide +kernel
set_option maxRecDepth 20000 in
theorem ggX7_peace_X0_hasQuarrel : GoodIn wsX7_peace wsX0_hasQuarrel := goodIn_r _ [8, 9, 118, 119, 120, 121, 122, 123, 124, 125, 126, 127, 128] (by decide +kernel) (by decide +kernel)
set_option maxRecDepth 20000 in
theorem gX7_peace_X0_hasQuarrel : GoodIn wsX7_peace (wsV RX7 109 RX0 yX0_hasQuarrel wsX0_hasQuarrel) := goodIn_app (goodIn_of _ (by decide +kernel)) ggX7_peace_X0_hasQuarrel
set_option maxRecDepth 20000 in
theorem ggX7_peace_X5_everybody : GoodIn wsX7_peace wsX5_everybody := goodIn_r _ [14, 15, 129, 130, 131, 132, 133] (by decide +kernel) (by decide +kernel)
set_option maxRecDepth 20000 in
theorem gX7_peace_X5_everybody : GoodIn wsX7_peace (wsV RX7 212 RX5 yX5_everybody wsX5_everybody) := goodIn_app (goodIn_of _ (by decide +kernel)) ggX7_peace_X5_everybody
set_option maxRecDepth 20000 in
theorem ggX7_peace_J6_bitCount_0f7a4 : GoodIn wsX7_peace wsJ6_bitCount_0f7a4 := goodIn_r _ [19, 20, 21, 22] (by decide +kernel) (by decide +kernel)
set_option maxRecDepth 20000 in
theorem gX7_peace_J6_bitCount_0f7a4 : GoodIn wsX7_peace (va_wsS RX7 198 yJ6_bitCount_0f7a4 wsJ6_bitCount_0f7a4) := goodIn_app (goodIn_of _ (by decide +kernel)) ggX7_peace_J6_bitCount_0f7a4
set_option maxRecDepth 20000 in
theorem ggX7_peace_X7_endsWithout : GoodIn wsX7_peace wsX7_endsWithout := goodIn_r _ [27, 28, 1, 2, 29, 30, 31, 32, 7, 33, 34, 35, 9, 36, 37, 38, 39, 40, 41, 42, 43, 44, 45, 46, 47, 48, 49, 50, 51, 52, 53, 54, 55, 56, 57, 58, 59, 60, 61, 62, 63, 13, 64, 15, 65, 66, 17, 18, 19, 20, 21, 22, 67, 68, 69, 26, 70, 71, 72, 73, 3, 74, 75, 76, 77, 78, 79, 80, 81, 82, 83, 84, 85, 86, 87, 88, 89, 90, 91, 92, 93, 94, 95, 96, 97, 98, 99, 100, 101, 102, 103, 104, 105, 106, 107, 108, 109, 110, 111, 112, 113, 114, 115, 116, 117, 129, 130, 131, 132, 133, 118, 119, 120, 121, 122, 123, 124, 125, 126, 127, 128, 134, 135] (by decide +kernel) (by decide +kernel)
set_option maxRecDepth 20000 in
theorem gX7_peace_X7_endsWithout : GoodIn wsX7_peace (wsV RX7 215 RX7 yX7_endsWithout wsX7_endsWithout) := goodIn_app (goodIn_of _ (by decide +kernel)) ggX7_peace_X7_endsWithout
theorem dX7_peace_0 : decode cX7_peace 0 = .ok (.aload_n 0, 1) := by decide +kernel
theorem dX7_peace_1 : decode cX7_peace 1 = .ok (.getfield 29, 3) := by decide +kernel
theorem dX7_peace_4 : decode cX7_peace 4 = .ok (.iload_n 1, 1) := by decide +kernel
theorem dX7_peace_5 : decode cX7_peace 5 = .ok (.invokevirtual 109, 3) := by decide +kernel
theorem dX7_peace_8 : decode cX7_peace 8 = .ok (.ifCond .ne 5, 3) := by decide +kernel
theorem dX7_peace_11 : decode cX7_peace 11 = .ok (.iconst (-1), 1) := by decide +kernel
theorem dX7_peace_12 : decode cX7_peace 12 = .ok (.ireturn, 1) := by decide +kernel
theorem dX7_peace_13 : decode cX7_peace 13 = .ok (.aload_n 0, 1) := by decide +kernel
theorem dX7_peace_14 : decode cX7_peace 14 = .ok (.getfield 19, 3) := by decide +kernel
theorem dX7_peace_17 : decode cX7_peace 17 = .ok (.invokevirtual 212, 3) := by decide +kernel
theorem dX7_peace_20 : decode cX7_peace 20 = .ok (.aload_n 0, 1) := by decide +kernel
theorem dX7_peace_21 : decode cX7_peace 21 = .ok (.getfield 29, 3) := by decide +kernel
theorem dX7_peace_24 : decode cX7_peace 24 = .ok (.getfield 134, 3) := by decide +kernel
theorem dX7_peace_27 : decode cX7_peace 27 = .ok (.iconst (-1), 1) := by decide +kernel
theorem dX7_peace_28 : decode cX7_peace 28 = .ok (.ixor, 1) := by decide +kernel
theorem dX7_peace_29 : decode cX7_peace 29 = .ok (.iand, 1) := by decide +kernel
theorem dX7_peace_30 : decode cX7_peace 30 = .ok (.istore_n 2, 1) := by decide +kernel
theorem dX7_peace_31 : decode cX7_peace 31 = .ok (.iconst 0, 1) := by decide +kernel
theorem dX7_peace_32 : decode cX7_peace 32 = .ok (.istore_n 3, 1) := by decide +kernel
theorem dX7_peace_33 : decode cX7_peace 33 = .ok (.iload_n 3, 1) := by decide +kernel
theorem dX7_peace_34 : decode cX7_peace 34 = .ok (.bipush 6, 2) := by decide +kernel
theorem dX7_peace_36 : decode cX7_peace 36 = .ok (.if_icmp .gt 68, 3) := by decide +kernel
theorem dX7_peace_39 : decode cX7_peace 39 = .ok (.iconst 0, 1) := by decide +kernel
theorem dX7_peace_40 : decode cX7_peace 40 = .ok (.istore 4, 2) := by decide +kernel
theorem dX7_peace_42 : decode cX7_peace 42 = .ok (.iload 4, 2) := by decide +kernel
theorem dX7_peace_44 : decode cX7_peace 44 = .ok (.bipush 64, 2) := by decide +kernel
theorem dX7_peace_46 : decode cX7_peace 46 = .ok (.if_icmp .ge 52, 3) := by decide +kernel
theorem dX7_peace_49 : decode cX7_peace 49 = .ok (.iload 4, 2) := by decide +kernel
theorem dX7_peace_51 : decode cX7_peace 51 = .ok (.iload_n 2, 1) := by decide +kernel
theorem dX7_peace_52 : decode cX7_peace 52 = .ok (.iconst (-1), 1) := by decide +kernel
theorem dX7_peace_53 : decode cX7_peace 53 = .ok (.ixor, 1) := by decide +kernel
theorem dX7_peace_54 : decode cX7_peace 54 = .ok (.iand, 1) := by decide +kernel
theorem dX7_peace_55 : decode cX7_peace 55 = .ok (.ifCond .ne 7, 3) := by decide +kernel
theorem dX7_peace_58 : decode cX7_peace 58 = .ok (.iconst 1, 1) := by decide +kernel
theorem dX7_peace_59 : decode cX7_peace 59 = .ok (.goto 4, 3) := by decide +kernel
theorem dX7_peace_62 : decode cX7_peace 62 = .ok (.iconst 0, 1) := by decide +kernel
theorem dX7_peace_63 : decode cX7_peace 63 = .ok (.istore 5, 2) := by decide +kernel
theorem dX7_peace_65 : decode cX7_peace 65 = .ok (.iload 5, 2) := by decide +kernel
theorem dX7_peace_67 : decode cX7_peace 67 = .ok (.ifCond .eq 25, 3) := by decide +kernel
theorem dX7_peace_70 : decode cX7_peace 70 = .ok (.iload 4, 2) := by decide +kernel
theorem dX7_peace_72 : decode cX7_peace 72 = .ok (.invokestatic 198, 3) := by decide +kernel
theorem dX7_peace_75 : decode cX7_peace 75 = .ok (.iload_n 3, 1) := by decide +kernel
theorem dX7_peace_76 : decode cX7_peace 76 = .ok (.if_icmp .ne 16, 3) := by decide +kernel
theorem dX7_peace_79 : decode cX7_peace 79 = .ok (.aload_n 0, 1) := by decide +kernel
theorem dX7_peace_80 : decode cX7_peace 80 = .ok (.iload_n 1, 1) := by decide +kernel
theorem dX7_peace_81 : decode cX7_peace 81 = .ok (.iload 4, 2) := by decide +kernel
theorem dX7_peace_83 : decode cX7_peace 83 = .ok (.invokevirtual 215, 3) := by decide +kernel
theorem dX7_peace_86 : decode cX7_peace 86 = .ok (.ifCond .eq 6, 3) := by decide +kernel
theorem dX7_peace_89 : decode cX7_peace 89 = .ok (.iload 4, 2) := by decide +kernel
theorem dX7_peace_91 : decode cX7_peace 91 = .ok (.ireturn, 1) := by decide +kernel
theorem dX7_peace_92 : decode cX7_peace 92 = .ok (.iinc 4 1, 3) := by decide +kernel
theorem dX7_peace_95 : decode cX7_peace 95 = .ok (.goto (-53), 3) := by decide +kernel
theorem dX7_peace_98 : decode cX7_peace 98 = .ok (.iinc 3 1, 3) := by decide +kernel
theorem dX7_peace_101 : decode cX7_peace 101 = .ok (.goto (-68), 3) := by decide +kernel
theorem dX7_peace_104 : decode cX7_peace 104 = .ok (.bipush (-9), 2) := by decide +kernel
theorem dX7_peace_106 : decode cX7_peace 106 = .ok (.ireturn, 1) := by decide +kernel
set_option maxRecDepth 20000 in
theorem ggX7_found_X7_mayStand : GoodIn wsX7_found wsX7_mayStand := goodIn_r _ [7, 1, 8, 9, 10, 11, 12, 13, 23, 24, 25, 26, 27, 28, 29, 30, 31, 32, 33, 34, 35, 36, 37] (by decide +kernel) (by decide +kernel)
set_option maxRecDepth 20000 in
theorem gX7_found_X7_mayStand : GoodIn wsX7_found (wsV RX7 130 RX7 yX7_mayStand wsX7_mayStand) := goodIn_app (goodIn_of _ (by decide +kernel)) ggX7_found_X7_mayStand
set_option maxRecDepth 20000 in
theorem ggX7_found_X5_hasWriter : GoodIn wsX7_found wsX5_hasWriter := goodIn_r _ [12, 13, 33, 34, 35, 36, 37] (by decide +kernel) (by decide +kernel)
set_option maxRecDepth 20000 in
theorem gX7_found_X5_hasWriter : GoodIn wsX7_found (wsV RX7 85 RX5 yX5_hasWriter wsX5_hasWriter) := goodIn_app (goodIn_of _ (by decide +kernel)) ggX7_found_X5_hasWriter
set_option maxRecDepth 20000 in
theorem ggX7_found_X3_add : GoodIn wsX7_found wsX3_add := goodIn_r _ [18, 19, 20, 21, 22, 38, 39, 40, 41] (by decide +kernel) (by decide +kernel)
set_option maxRecDepth 20000 in
theorem gX7_found_X3_add : GoodIn wsX7_found (wsV RX7 218 RX3 yX3_add wsX3_add) := goodIn_app (goodIn_of _ (by decide +kernel)) ggX7_found_X3_add
theorem dX7_found_0 : decode cX7_found 0 = .ok (.aload_n 0, 1) := by decide +kernel
theorem dX7_found_1 : decode cX7_found 1 = .ok (.iload_n 1, 1) := by decide +kernel
theorem dX7_found_2 : decode cX7_found 2 = .ok (.iload_n 2, 1) := by decide +kernel
theorem dX7_found_3 : decode cX7_found 3 = .ok (.invokevirtual 130, 3) := by decide +kernel
theorem dX7_found_6 : decode cX7_found 6 = .ok (.ifCond .eq 19, 3) := by decide +kernel
theorem dX7_found_9 : decode cX7_found 9 = .ok (.iload_n 3, 1) := by decide +kernel
theorem dX7_found_10 : decode cX7_found 10 = .ok (.iconst (-1), 1) := by decide +kernel
theorem dX7_found_11 : decode cX7_found 11 = .ok (.if_icmp .eq 16, 3) := by decide +kernel
theorem dX7_found_14 : decode cX7_found 14 = .ok (.aload_n 0, 1) := by decide +kernel
theorem dX7_found_15 : decode cX7_found 15 = .ok (.getfield 19, 3) := by decide +kernel
theorem dX7_found_18 : decode cX7_found 18 = .ok (.iload_n 3, 1) := by decide +kernel
theorem dX7_found_19 : decode cX7_found 19 = .ok (.invokevirtual 85, 3) := by decide +kernel
theorem dX7_found_22 : decode cX7_found 22 = .ok (.ifCond .ne 5, 3) := by decide +kernel
theorem dX7_found_25 : decode cX7_found 25 = .ok (.iconst (-1), 1) := by decide +kernel
theorem dX7_found_26 : decode cX7_found 26 = .ok (.ireturn, 1) := by decide +kernel
theorem dX7_found_27 : decode cX7_found 27 = .ok (.aload_n 0, 1) := by decide +kernel
theorem dX7_found_28 : decode cX7_found 28 = .ok (.getfield 53, 3) := by decide +kernel
theorem dX7_found_31 : decode cX7_found 31 = .ok (.iload_n 1, 1) := by decide +kernel
theorem dX7_found_32 : decode cX7_found 32 = .ok (.iload_n 2, 1) := by decide +kernel
theorem dX7_found_33 : decode cX7_found 33 = .ok (.iload_n 3, 1) := by decide +kernel
theorem dX7_found_34 : decode cX7_found 34 = .ok (.invokevirtual 218, 3) := by decide +kernel
theorem dX7_found_37 : decode cX7_found 37 = .ok (.ireturn, 1) := by decide +kernel
set_option maxRecDepth 20000 in
theorem ggX7_forget_X3_drop : GoodIn wsX7_forget wsX3_drop := goodIn_r _ [6, 7, 18, 19, 20, 21] (by decide +kernel) (by decide +kernel)
set_option maxRecDepth 20000 in
theorem gX7_forget_X3_drop : GoodIn wsX7_forget (wsV RX7 83 RX3 yX3_drop wsX3_drop) := goodIn_app (goodIn_of _ (by decide +kernel)) ggX7_forget_X3_drop
theorem dX7_forget_0 : decode cX7_forget 0 = .ok (.aload_n 0, 1) := by decide +kernel
theorem dX7_forget_1 : decode cX7_forget 1 = .ok (.getfield 53, 3) := by decide +kernel
theorem dX7_forget_4 : decode cX7_forget 4 = .ok (.invokevirtual 83, 3) := by decide +kernel
theorem dX7_forget_7 : decode cX7_forget 7 = .ok (.ireturn, 1) := by decide +kernel
set_option maxRecDepth 20000 in
theorem ggX7_mayBe_X7_mayStand : GoodIn wsX7_mayBe wsX7_mayStand := goodIn_r _ [8, 1, 9, 10, 11, 12, 13, 14, 29, 30, 31, 32, 33, 34, 35, 36, 37, 38, 39, 40, 41, 42, 43] (by decide +kernel) (by decide +kernel)
set_option maxRecDepth 20000 in
theorem gX7_mayBe_X7_mayStand : GoodIn wsX7_mayBe (wsV RX7 130 RX7 yX7_mayStand wsX7_mayStand) := goodIn_app (goodIn_of _ (by decide +kernel)) ggX7_mayBe_X7_mayStand
set_option maxRecDepth 20000 in
theorem ggX7_mayBe_X3_areSo : GoodIn wsX7_mayBe wsX3_areSo := goodIn_r _ [19, 20, 21, 22, 23, 24, 25, 26, 12, 27, 14, 28, 44, 45, 46, 47, 39, 40, 41, 42, 43] (by decide +kernel) (by decide +kernel)
set_option maxRecDepth 20000 in
theorem gX7_mayBe_X3_areSo : GoodIn wsX7_mayBe (wsV RX7 220 RX3 yX3_areSo wsX3_areSo) := goodIn_app (goodIn_of _ (by decide +kernel)) ggX7_mayBe_X3_areSo
theorem dX7_mayBe_0 : decode cX7_mayBe 0 = .ok (.aload_n 0, 1) := by decide +kernel
theorem dX7_mayBe_1 : decode cX7_mayBe 1 = .ok (.iload_n 1, 1) := by decide +kernel
theorem dX7_mayBe_2 : decode cX7_mayBe 2 = .ok (.iload_n 2, 1) := by decide +kernel
theorem dX7_mayBe_3 : decode cX7_mayBe 3 = .ok (.invokevirtual 130, 3) := by decide +kernel
theorem dX7_mayBe_6 : decode cX7_mayBe 6 = .ok (.ifCond .ne 5, 3) := by decide +kernel
theorem dX7_mayBe_9 : decode cX7_mayBe 9 = .ok (.iconst (-1), 1) := by decide +kernel
theorem dX7_mayBe_10 : decode cX7_mayBe 10 = .ok (.ireturn, 1) := by decide +kernel
theorem dX7_mayBe_11 : decode cX7_mayBe 11 = .ok (.aload_n 0, 1) := by decide +kernel
theorem dX7_mayBe_12 : decode cX7_mayBe 12 = .ok (.getfield 19, 3) := by decide +kernel
theorem dX7_mayBe_15 : decode cX7_mayBe 15 = .ok (.getfield 105, 3) := by decide +kernel
theorem dX7_mayBe_18 : decode cX7_mayBe 18 = .ok (.iload_n 1, 1) := by decide +kernel
theorem dX7_mayBe_19 : decode cX7_mayBe 19 = .ok (.aaload, 1) := by decide +kernel
theorem dX7_mayBe_20 : decode cX7_mayBe 20 = .ok (.iload_n 2, 1) := by decide +kernel
theorem dX7_mayBe_21 : decode cX7_mayBe 21 = .ok (.iaload, 1) := by decide +kernel
theorem dX7_mayBe_22 : decode cX7_mayBe 22 = .ok (.istore_n 3, 1) := by decide +kernel
theorem dX7_mayBe_23 : decode cX7_mayBe 23 = .ok (.iconst 0, 1) := by decide +kernel
theorem dX7_mayBe_24 : decode cX7_mayBe 24 = .ok (.istore 4, 2) := by decide +kernel
theorem dX7_mayBe_26 : decode cX7_mayBe 26 = .ok (.iconst 0, 1) := by decide +kernel
theorem dX7_mayBe_27 : decode cX7_mayBe 27 = .ok (.istore 5, 2) := by decide +kernel
theorem dX7_mayBe_29 : decode cX7_mayBe 29 = .ok (.iload 5, 2) := by decide +kernel
theorem dX7_mayBe_31 : decode cX7_mayBe 31 = .ok (.bipush 9, 2) := by decide +kernel
theorem dX7_mayBe_33 : decode cX7_mayBe 33 = .ok (.if_icmp .gt 45, 3) := by decide +kernel
theorem dX7_mayBe_36 : decode cX7_mayBe 36 = .ok (.aload_n 0, 1) := by decide +kernel
theorem dX7_mayBe_37 : decode cX7_mayBe 37 = .ok (.getfield 19, 3) := by decide +kernel
theorem dX7_mayBe_40 : decode cX7_mayBe 40 = .ok (.getfield 105, 3) := by decide +kernel
theorem dX7_mayBe_43 : decode cX7_mayBe 43 = .ok (.iload_n 1, 1) := by decide +kernel
theorem dX7_mayBe_44 : decode cX7_mayBe 44 = .ok (.aaload, 1) := by decide +kernel
theorem dX7_mayBe_45 : decode cX7_mayBe 45 = .ok (.iload_n 2, 1) := by decide +kernel
theorem dX7_mayBe_46 : decode cX7_mayBe 46 = .ok (.iload 5, 2) := by decide +kernel
theorem dX7_mayBe_48 : decode cX7_mayBe 48 = .ok (.iastore, 1) := by decide +kernel
theorem dX7_mayBe_49 : decode cX7_mayBe 49 = .ok (.aload_n 0, 1) := by decide +kernel
theorem dX7_mayBe_50 : decode cX7_mayBe 50 = .ok (.getfield 53, 3) := by decide +kernel
theorem dX7_mayBe_53 : decode cX7_mayBe 53 = .ok (.aload_n 0, 1) := by decide +kernel
theorem dX7_mayBe_54 : decode cX7_mayBe 54 = .ok (.getfield 19, 3) := by decide +kernel
theorem dX7_mayBe_57 : decode cX7_mayBe 57 = .ok (.invokevirtual 220, 3) := by decide +kernel
theorem dX7_mayBe_60 : decode cX7_mayBe 60 = .ok (.ifCond .eq 12, 3) := by decide +kernel
theorem dX7_mayBe_63 : decode cX7_mayBe 63 = .ok (.iload 4, 2) := by decide +kernel
theorem dX7_mayBe_65 : decode cX7_mayBe 65 = .ok (.iconst 1, 1) := by decide +kernel
theorem dX7_mayBe_66 : decode cX7_mayBe 66 = .ok (.iload 5, 2) := by decide +kernel
theorem dX7_mayBe_68 : decode cX7_mayBe 68 = .ok (.ishl, 1) := by decide +kernel
theorem dX7_mayBe_69 : decode cX7_mayBe 69 = .ok (.ior, 1) := by decide +kernel
theorem dX7_mayBe_70 : decode cX7_mayBe 70 = .ok (.istore 4, 2) := by decide +kernel
theorem dX7_mayBe_72 : decode cX7_mayBe 72 = .ok (.iinc 5 1, 3) := by decide +kernel
theorem dX7_mayBe_75 : decode cX7_mayBe 75 = .ok (.goto (-46), 3) := by decide +kernel
theorem dX7_mayBe_78 : decode cX7_mayBe 78 = .ok (.aload_n 0, 1) := by decide +kernel
theorem dX7_mayBe_79 : decode cX7_mayBe 79 = .ok (.getfield 19, 3) := by decide +kernel
theorem dX7_mayBe_82 : decode cX7_mayBe 82 = .ok (.getfield 105, 3) := by decide +kernel
theorem dX7_mayBe_85 : decode cX7_mayBe 85 = .ok (.iload_n 1, 1) := by decide +kernel
theorem dX7_mayBe_86 : decode cX7_mayBe 86 = .ok (.aaload, 1) := by decide +kernel
theorem dX7_mayBe_87 : decode cX7_mayBe 87 = .ok (.iload_n 2, 1) := by decide +kernel
theorem dX7_mayBe_88 : decode cX7_mayBe 88 = .ok (.iload_n 3, 1) := by decide +kernel
theorem dX7_mayBe_89 : decode cX7_mayBe 89 = .ok (.iastore, 1) := by decide +kernel
theorem dX7_mayBe_90 : decode cX7_mayBe 90 = .ok (.iload 4, 2) := by decide +kernel
theorem dX7_mayBe_92 : decode cX7_mayBe 92 = .ok (.ireturn, 1) := by decide +kernel
set_option maxRecDepth 20000 in
theorem ggX7_odds_X7_mayStand : GoodIn wsX7_odds wsX7_mayStand := goodIn_r _ [8, 2, 9, 10, 11, 12, 13, 14, 61, 62, 63, 64, 65, 66, 67, 68, 69, 70, 82, 83, 84, 85, 86] (by decide +kernel) (by decide +kernel)
set_option maxRecDepth 20000 in
theorem gX7_odds_X7_mayStand : GoodIn wsX7_odds (wsV RX7 130 RX7 yX7_mayStand wsX7_mayStand) := goodIn_app (goodIn_of _ (by decide +kernel)) ggX7_odds_X7_mayStand
set_option maxRecDepth 20000 in
theorem ggX7_odds_X0_hasLaid : GoodIn wsX7_odds wsX0_hasLaid := goodIn_r _ [19, 20, 71, 72, 73, 74, 75, 76, 77, 78, 79, 80, 81] (by decide +kernel) (by decide +kernel)
set_option maxRecDepth 20000 in
theorem gX7_odds_X0_hasLaid : GoodIn wsX7_odds (wsV RX7 96 RX0 yX0_hasLaid wsX0_hasLaid) := goodIn_app (goodIn_of _ (by decide +kernel)) ggX7_odds_X0_hasLaid
set_option maxRecDepth 20000 in
theorem ggX7_odds_X5_everybody : GoodIn wsX7_odds wsX5_everybody := goodIn_r _ [24, 14, 82, 83, 84, 85, 86] (by decide +kernel) (by decide +kernel)
set_option maxRecDepth 20000 in
theorem gX7_odds_X5_everybody : GoodIn wsX7_odds (wsV RX7 212 RX5 yX5_everybody wsX5_everybody) := goodIn_app (goodIn_of _ (by decide +kernel)) ggX7_odds_X5_everybody
set_option maxRecDepth 20000 in
theorem ggX7_odds_J6_bitCount_0f7a4 : GoodIn wsX7_odds wsJ6_bitCount_0f7a4 := goodIn_r _ [28, 29, 30, 31] (by decide +kernel) (by decide +kernel)
set_option maxRecDepth 20000 in
theorem gX7_odds_J6_bitCount_0f7a4 : GoodIn wsX7_odds (va_wsS RX7 198 yJ6_bitCount_0f7a4 wsJ6_bitCount_0f7a4) := goodIn_app (goodIn_of _ (by decide +kernel)) ggX7_odds_J6_bitCount_0f7a4
set_option maxRecDepth 20000 in
theorem ggX7_odds_X7_hasLastWord : GoodIn wsX7_odds wsX7_hasLastWord := goodIn_r _ [35, 36, 2, 37, 38, 39, 40, 41, 42, 43, 44, 45, 46, 47, 12, 48, 14, 49, 50, 51, 52, 53, 54, 61, 62, 63, 64, 65, 66, 67, 68, 69, 70, 87, 88, 82, 83, 84, 85, 86] (by decide +kernel) (by decide +kernel)
set_option maxRecDepth 20000 in
theorem gX7_odds_X7_hasLastWord : GoodIn wsX7_odds (wsV RX7 191 RX7 yX7_hasLastWord wsX7_hasLastWord) := goodIn_app (goodIn_of _ (by decide +kernel)) ggX7_odds_X7_hasLastWord
set_option maxRecDepth 20000 in
theorem ggX7_odds_X7_power : GoodIn wsX7_odds wsX7_power := goodIn_r _ [57] (by decide +kernel) (by decide +kernel)
set_option maxRecDepth 20000 in
theorem gX7_odds_X7_power : GoodIn wsX7_odds (va_wsS RX7 224 yX7_power wsX7_power) := goodIn_app (goodIn_of _ (by decide +kernel)) ggX7_odds_X7_power
set_option maxRecDepth 20000 in
theorem ggX7_odds_X7_commonDivisor : GoodIn wsX7_odds wsX7_commonDivisor := goodIn_r _ [60] (by decide +kernel) (by decide +kernel)
set_option maxRecDepth 20000 in
theorem gX7_odds_X7_commonDivisor : GoodIn wsX7_odds (va_wsS RX7 228 yX7_commonDivisor wsX7_commonDivisor) := goodIn_app (goodIn_of _ (by decide +kernel)) ggX7_odds_X7_commonDivisor
theorem dX7_odds_0 : decode cX7_odds 0 = .ok (.aload_n 0, 1) := by decide +kernel
theorem dX7_odds_1 : decode cX7_odds 1 = .ok (.iload_n 1, 1) := by decide +kernel
theorem dX7_odds_2 : decode cX7_odds 2 = .ok (.iload_n 2, 1) := by decide +kernel
theorem dX7_odds_3 : decode cX7_odds 3 = .ok (.invokevirtual 130, 3) := by decide +kernel
theorem dX7_odds_6 : decode cX7_odds 6 = .ok (.ifCond .eq 24, 3) := by decide +kernel
theorem dX7_odds_9 : decode cX7_odds 9 = .ok (.iload_n 3, 1) := by decide +kernel
theorem dX7_odds_10 : decode cX7_odds 10 = .ok (.ifCond .lt 20, 3) := by decide +kernel
theorem dX7_odds_13 : decode cX7_odds 13 = .ok (.iload_n 3, 1) := by decide +kernel
theorem dX7_odds_14 : decode cX7_odds 14 = .ok (.bipush 10, 2) := by decide +kernel
theorem dX7_odds_16 : decode cX7_odds 16 = .ok (.if_icmp .gt 14, 3) := by decide +kernel
theorem dX7_odds_19 : decode cX7_odds 19 = .ok (.iload 4, 2) := by decide +kernel
theorem dX7_odds_21 : decode cX7_odds 21 = .ok (.ifCond .lt 9, 3) := by decide +kernel
theorem dX7_odds_24 : decode cX7_odds 24 = .ok (.iload 4, 2) := by decide +kernel
theorem dX7_odds_26 : decode cX7_odds 26 = .ok (.iconst 1, 1) := by decide +kernel
theorem dX7_odds_27 : decode cX7_odds 27 = .ok (.if_icmp .le 5, 3) := by decide +kernel
theorem dX7_odds_30 : decode cX7_odds 30 = .ok (.iconst (-1), 1) := by decide +kernel
theorem dX7_odds_31 : decode cX7_odds 31 = .ok (.ireturn, 1) := by decide +kernel
theorem dX7_odds_32 : decode cX7_odds 32 = .ok (.aload_n 0, 1) := by decide +kernel
theorem dX7_odds_33 : decode cX7_odds 33 = .ok (.getfield 29, 3) := by decide +kernel
theorem dX7_odds_36 : decode cX7_odds 36 = .ok (.iload_n 1, 1) := by decide +kernel
theorem dX7_odds_37 : decode cX7_odds 37 = .ok (.invokevirtual 96, 3) := by decide +kernel
theorem dX7_odds_40 : decode cX7_odds 40 = .ok (.ifCond .eq 6, 3) := by decide +kernel
theorem dX7_odds_43 : decode cX7_odds 43 = .ok (.bipush (-2), 2) := by decide +kernel
theorem dX7_odds_45 : decode cX7_odds 45 = .ok (.ireturn, 1) := by decide +kernel
theorem dX7_odds_46 : decode cX7_odds 46 = .ok (.aload_n 0, 1) := by decide +kernel
theorem dX7_odds_47 : decode cX7_odds 47 = .ok (.getfield 19, 3) := by decide +kernel
theorem dX7_odds_50 : decode cX7_odds 50 = .ok (.invokevirtual 212, 3) := by decide +kernel
theorem dX7_odds_53 : decode cX7_odds 53 = .ok (.aload_n 0, 1) := by decide +kernel
theorem dX7_odds_54 : decode cX7_odds 54 = .ok (.getfield 29, 3) := by decide +kernel
theorem dX7_odds_57 : decode cX7_odds 57 = .ok (.getfield 134, 3) := by decide +kernel
theorem dX7_odds_60 : decode cX7_odds 60 = .ok (.iconst (-1), 1) := by decide +kernel
theorem dX7_odds_61 : decode cX7_odds 61 = .ok (.ixor, 1) := by decide +kernel
theorem dX7_odds_62 : decode cX7_odds 62 = .ok (.iand, 1) := by decide +kernel
theorem dX7_odds_63 : decode cX7_odds 63 = .ok (.iconst 1, 1) := by decide +kernel
theorem dX7_odds_64 : decode cX7_odds 64 = .ok (.iload_n 1, 1) := by decide +kernel
theorem dX7_odds_65 : decode cX7_odds 65 = .ok (.ishl, 1) := by decide +kernel
theorem dX7_odds_66 : decode cX7_odds 66 = .ok (.iconst (-1), 1) := by decide +kernel
theorem dX7_odds_67 : decode cX7_odds 67 = .ok (.ixor, 1) := by decide +kernel
theorem dX7_odds_68 : decode cX7_odds 68 = .ok (.iand, 1) := by decide +kernel
theorem dX7_odds_69 : decode cX7_odds 69 = .ok (.istore 5, 2) := by decide +kernel
theorem dX7_odds_71 : decode cX7_odds 71 = .ok (.iload 5, 2) := by decide +kernel
theorem dX7_odds_73 : decode cX7_odds 73 = .ok (.invokestatic 198, 3) := by decide +kernel
theorem dX7_odds_76 : decode cX7_odds 76 = .ok (.istore 6, 2) := by decide +kernel
theorem dX7_odds_78 : decode cX7_odds 78 = .ok (.iconst 0, 1) := by decide +kernel
theorem dX7_odds_79 : decode cX7_odds 79 = .ok (.istore 7, 2) := by decide +kernel
theorem dX7_odds_81 : decode cX7_odds 81 = .ok (.iconst 0, 1) := by decide +kernel
theorem dX7_odds_82 : decode cX7_odds 82 = .ok (.istore 8, 2) := by decide +kernel
theorem dX7_odds_84 : decode cX7_odds 84 = .ok (.iload 8, 2) := by decide +kernel
theorem dX7_odds_86 : decode cX7_odds 86 = .ok (.bipush 64, 2) := by decide +kernel
theorem dX7_odds_88 : decode cX7_odds 88 = .ok (.if_icmp .ge 69, 3) := by decide +kernel
theorem dX7_odds_91 : decode cX7_odds 91 = .ok (.iload 8, 2) := by decide +kernel
theorem dX7_odds_93 : decode cX7_odds 93 = .ok (.iload 5, 2) := by decide +kernel
theorem dX7_odds_95 : decode cX7_odds 95 = .ok (.iconst (-1), 1) := by decide +kernel
theorem dX7_odds_96 : decode cX7_odds 96 = .ok (.ixor, 1) := by decide +kernel
theorem dX7_odds_97 : decode cX7_odds 97 = .ok (.iand, 1) := by decide +kernel
theorem dX7_odds_98 : decode cX7_odds 98 = .ok (.ifCond .ne 53, 3) := by decide +kernel
theorem dX7_odds_101 : decode cX7_odds 101 = .ok (.aload_n 0, 1) := by decide +kernel
theorem dX7_odds_102 : decode cX7_odds 102 = .ok (.iload_n 1, 1) := by decide +kernel
theorem dX7_odds_103 : decode cX7_odds 103 = .ok (.iload_n 2, 1) := by decide +kernel
theorem dX7_odds_104 : decode cX7_odds 104 = .ok (.aload_n 0, 1) := by decide +kernel
theorem dX7_odds_105 : decode cX7_odds 105 = .ok (.getfield 29, 3) := by decide +kernel
theorem dX7_odds_108 : decode cX7_odds 108 = .ok (.getfield 134, 3) := by decide +kernel
theorem dX7_odds_111 : decode cX7_odds 111 = .ok (.iload 8, 2) := by decide +kernel
theorem dX7_odds_113 : decode cX7_odds 113 = .ok (.ior, 1) := by decide +kernel
theorem dX7_odds_114 : decode cX7_odds 114 = .ok (.invokevirtual 191, 3) := by decide +kernel
theorem dX7_odds_117 : decode cX7_odds 117 = .ok (.ifCond .eq 34, 3) := by decide +kernel
theorem dX7_odds_120 : decode cX7_odds 120 = .ok (.iload 8, 2) := by decide +kernel
theorem dX7_odds_122 : decode cX7_odds 122 = .ok (.invokestatic 198, 3) := by decide +kernel
theorem dX7_odds_125 : decode cX7_odds 125 = .ok (.istore 9, 2) := by decide +kernel
theorem dX7_odds_127 : decode cX7_odds 127 = .ok (.iload 7, 2) := by decide +kernel
theorem dX7_odds_129 : decode cX7_odds 129 = .ok (.iload_n 3, 1) := by decide +kernel
theorem dX7_odds_130 : decode cX7_odds 130 = .ok (.iload 9, 2) := by decide +kernel
theorem dX7_odds_132 : decode cX7_odds 132 = .ok (.invokestatic 224, 3) := by decide +kernel
theorem dX7_odds_135 : decode cX7_odds 135 = .ok (.bipush 10, 2) := by decide +kernel
theorem dX7_odds_137 : decode cX7_odds 137 = .ok (.iload_n 3, 1) := by decide +kernel
theorem dX7_odds_138 : decode cX7_odds 138 = .ok (.isub, 1) := by decide +kernel
theorem dX7_odds_139 : decode cX7_odds 139 = .ok (.iload 6, 2) := by decide +kernel
theorem dX7_odds_141 : decode cX7_odds 141 = .ok (.iload 9, 2) := by decide +kernel
theorem dX7_odds_143 : decode cX7_odds 143 = .ok (.isub, 1) := by decide +kernel
theorem dX7_odds_144 : decode cX7_odds 144 = .ok (.invokestatic 224, 3) := by decide +kernel
theorem dX7_odds_147 : decode cX7_odds 147 = .ok (.imul, 1) := by decide +kernel
theorem dX7_odds_148 : decode cX7_odds 148 = .ok (.iadd, 1) := by decide +kernel
theorem dX7_odds_149 : decode cX7_odds 149 = .ok (.istore 7, 2) := by decide +kernel
theorem dX7_odds_151 : decode cX7_odds 151 = .ok (.iinc 8 1, 3) := by decide +kernel
theorem dX7_odds_154 : decode cX7_odds 154 = .ok (.goto (-70), 3) := by decide +kernel
theorem dX7_odds_157 : decode cX7_odds 157 = .ok (.bipush 10, 2) := by decide +kernel
theorem dX7_odds_159 : decode cX7_odds 159 = .ok (.iload 6, 2) := by decide +kernel
theorem dX7_odds_161 : decode cX7_odds 161 = .ok (.invokestatic 224, 3) := by decide +kernel
theorem dX7_odds_164 : decode cX7_odds 164 = .ok (.istore 8, 2) := by decide +kernel
theorem dX7_odds_166 : decode cX7_odds 166 = .ok (.iload 7, 2) := by decide +kernel
theorem dX7_odds_168 : decode cX7_odds 168 = .ok (.iload 8, 2) := by decide +kernel
theorem dX7_odds_170 : decode cX7_odds 170 = .ok (.invokestatic 228, 3) := by decide +kernel
theorem dX7_odds_173 : decode cX7_odds 173 = .ok (.istore 9, 2) := by decide +kernel
theorem dX7_odds_175 : decode cX7_odds 175 = .ok (.iload 9, 2) := by decide +kernel
theorem dX7_odds_177 : decode cX7_odds 177 = .ok (.ifCond .ne 6, 3) := by decide +kernel
theorem dX7_odds_180 : decode cX7_odds 180 = .ok (.bipush (-9), 2) := by decide +kernel
theorem dX7_odds_182 : decode cX7_odds 182 = .ok (.ireturn, 1) := by decide +kernel
theorem dX7_odds_183 : decode cX7_odds 183 = .ok (.iload 4, 2) := by decide +kernel
theorem dX7_odds_185 : decode cX7_odds 185 = .ok (.ifCond .ne 11, 3) := by decide +kernel
theorem dX7_odds_188 : decode cX7_odds 188 = .ok (.iload 7, 2) := by decide +kernel
theorem dX7_odds_190 : decode cX7_odds 190 = .ok (.iload 9, 2) := by decide +kernel
theorem dX7_odds_192 : decode cX7_odds 192 = .ok (.idiv, 1) := by decide +kernel
theorem dX7_odds_193 : decode cX7_odds 193 = .ok (.goto 8, 3) := by decide +kernel
theorem dX7_odds_196 : decode cX7_odds 196 = .ok (.iload 8, 2) := by decide +kernel
theorem dX7_odds_198 : decode cX7_odds 198 = .ok (.iload 9, 2) := by decide +kernel
theorem dX7_odds_200 : decode cX7_odds 200 = .ok (.idiv, 1) := by decide +kernel
theorem dX7_odds_201 : decode cX7_odds 201 = .ok (.ireturn, 1) := by decide +kernel
set_option maxRecDepth 20000 in
theorem ggX7_most_X0_lastWordsOf : GoodIn wsX7_most wsX0_lastWordsOf := goodIn_r _ [8, 9, 10, 11, 27, 28, 29, 30, 31, 32, 33, 34, 35, 36, 37] (by decide +kernel) (by decide +kernel)
set_option maxRecDepth 20000 in
theorem gX7_most_X0_lastWordsOf : GoodIn wsX7_most (wsV RX7 234 RX0 yX0_lastWordsOf wsX0_lastWordsOf) := goodIn_app (goodIn_of _ (by decide +kernel)) ggX7_most_X0_lastWordsOf
theorem dX7_most_0 : decode cX7_most 0 = .ok (.bipush (-9), 2) := by decide +kernel
theorem dX7_most_2 : decode cX7_most 2 = .ok (.istore_n 1, 1) := by decide +kernel
theorem dX7_most_3 : decode cX7_most 3 = .ok (.iconst 0, 1) := by decide +kernel
theorem dX7_most_4 : decode cX7_most 4 = .ok (.istore_n 2, 1) := by decide +kernel
theorem dX7_most_5 : decode cX7_most 5 = .ok (.iconst 0, 1) := by decide +kernel
theorem dX7_most_6 : decode cX7_most 6 = .ok (.istore_n 3, 1) := by decide +kernel
theorem dX7_most_7 : decode cX7_most 7 = .ok (.iload_n 3, 1) := by decide +kernel
theorem dX7_most_8 : decode cX7_most 8 = .ok (.aload_n 0, 1) := by decide +kernel
theorem dX7_most_9 : decode cX7_most 9 = .ok (.getfield 19, 3) := by decide +kernel
theorem dX7_most_12 : decode cX7_most 12 = .ok (.getfield 231, 3) := by decide +kernel
theorem dX7_most_15 : decode cX7_most 15 = .ok (.if_icmp .ge 30, 3) := by decide +kernel
theorem dX7_most_18 : decode cX7_most 18 = .ok (.aload_n 0, 1) := by decide +kernel
theorem dX7_most_19 : decode cX7_most 19 = .ok (.getfield 29, 3) := by decide +kernel
theorem dX7_most_22 : decode cX7_most 22 = .ok (.iload_n 3, 1) := by decide +kernel
theorem dX7_most_23 : decode cX7_most 23 = .ok (.invokevirtual 234, 3) := by decide +kernel
theorem dX7_most_26 : decode cX7_most 26 = .ok (.istore 4, 2) := by decide +kernel
theorem dX7_most_28 : decode cX7_most 28 = .ok (.iload 4, 2) := by decide +kernel
theorem dX7_most_30 : decode cX7_most 30 = .ok (.iload_n 2, 1) := by decide +kernel
theorem dX7_most_31 : decode cX7_most 31 = .ok (.if_icmp .le 8, 3) := by decide +kernel
theorem dX7_most_34 : decode cX7_most 34 = .ok (.iload 4, 2) := by decide +kernel
theorem dX7_most_36 : decode cX7_most 36 = .ok (.istore_n 2, 1) := by decide +kernel
theorem dX7_most_37 : decode cX7_most 37 = .ok (.iload_n 3, 1) := by decide +kernel
theorem dX7_most_38 : decode cX7_most 38 = .ok (.istore_n 1, 1) := by decide +kernel
theorem dX7_most_39 : decode cX7_most 39 = .ok (.iinc 3 1, 3) := by decide +kernel
theorem dX7_most_42 : decode cX7_most 42 = .ok (.goto (-35), 3) := by decide +kernel
theorem dX7_most_45 : decode cX7_most 45 = .ok (.iload_n 1, 1) := by decide +kernel
theorem dX7_most_46 : decode cX7_most 46 = .ok (.ireturn, 1) := by decide +kernel
set_option maxRecDepth 20000 in
theorem ggX7_titles_X5_hasWriter : GoodIn wsX7_titles wsX5_hasWriter := goodIn_r _ [7, 8, 19, 20, 21, 22, 23] (by decide +kernel) (by decide +kernel)
set_option maxRecDepth 20000 in
theorem gX7_titles_X5_hasWriter : GoodIn wsX7_titles (wsV RX7 85 RX5 yX5_hasWriter wsX5_hasWriter) := goodIn_app (goodIn_of _ (by decide +kernel)) ggX7_titles_X5_hasWriter
theorem dX7_titles_0 : decode cX7_titles 0 = .ok (.aload_n 0, 1) := by decide +kernel
theorem dX7_titles_1 : decode cX7_titles 1 = .ok (.getfield 19, 3) := by decide +kernel
theorem dX7_titles_4 : decode cX7_titles 4 = .ok (.iload_n 1, 1) := by decide +kernel
theorem dX7_titles_5 : decode cX7_titles 5 = .ok (.invokevirtual 85, 3) := by decide +kernel
theorem dX7_titles_8 : decode cX7_titles 8 = .ok (.ifCond .eq 19, 3) := by decide +kernel
theorem dX7_titles_11 : decode cX7_titles 11 = .ok (.aload_n 0, 1) := by decide +kernel
theorem dX7_titles_12 : decode cX7_titles 12 = .ok (.getfield 19, 3) := by decide +kernel
theorem dX7_titles_15 : decode cX7_titles 15 = .ok (.iload_n 2, 1) := by decide +kernel
theorem dX7_titles_16 : decode cX7_titles 16 = .ok (.invokevirtual 85, 3) := by decide +kernel
theorem dX7_titles_19 : decode cX7_titles 19 = .ok (.ifCond .eq 8, 3) := by decide +kernel
theorem dX7_titles_22 : decode cX7_titles 22 = .ok (.iload_n 1, 1) := by decide +kernel
theorem dX7_titles_23 : decode cX7_titles 23 = .ok (.iload_n 2, 1) := by decide +kernel
theorem dX7_titles_24 : decode cX7_titles 24 = .ok (.if_icmp .ne 5, 3) := by decide +kernel
theorem dX7_titles_27 : decode cX7_titles 27 = .ok (.iconst (-1), 1) := by decide +kernel
theorem dX7_titles_28 : decode cX7_titles 28 = .ok (.ireturn, 1) := by decide +kernel
theorem dX7_titles_29 : decode cX7_titles 29 = .ok (.iconst 0, 1) := by decide +kernel
theorem dX7_titles_30 : decode cX7_titles 30 = .ok (.istore_n 3, 1) := by decide +kernel
theorem dX7_titles_31 : decode cX7_titles 31 = .ok (.iconst 0, 1) := by decide +kernel
theorem dX7_titles_32 : decode cX7_titles 32 = .ok (.istore 4, 2) := by decide +kernel
theorem dX7_titles_34 : decode cX7_titles 34 = .ok (.iload 4, 2) := by decide +kernel
theorem dX7_titles_36 : decode cX7_titles 36 = .ok (.iconst 5, 1) := by decide +kernel
theorem dX7_titles_37 : decode cX7_titles 37 = .ok (.if_icmp .ge 39, 3) := by decide +kernel
theorem dX7_titles_40 : decode cX7_titles 40 = .ok (.aload_n 0, 1) := by decide +kernel
theorem dX7_titles_41 : decode cX7_titles 41 = .ok (.getfield 19, 3) := by decide +kernel
theorem dX7_titles_44 : decode cX7_titles 44 = .ok (.getfield 105, 3) := by decide +kernel
theorem dX7_titles_47 : decode cX7_titles 47 = .ok (.iload_n 1, 1) := by decide +kernel
theorem dX7_titles_48 : decode cX7_titles 48 = .ok (.aaload, 1) := by decide +kernel
theorem dX7_titles_49 : decode cX7_titles 49 = .ok (.iload 4, 2) := by decide +kernel
theorem dX7_titles_51 : decode cX7_titles 51 = .ok (.iaload, 1) := by decide +kernel
theorem dX7_titles_52 : decode cX7_titles 52 = .ok (.aload_n 0, 1) := by decide +kernel
theorem dX7_titles_53 : decode cX7_titles 53 = .ok (.getfield 19, 3) := by decide +kernel
theorem dX7_titles_56 : decode cX7_titles 56 = .ok (.getfield 105, 3) := by decide +kernel
theorem dX7_titles_59 : decode cX7_titles 59 = .ok (.iload_n 2, 1) := by decide +kernel
theorem dX7_titles_60 : decode cX7_titles 60 = .ok (.aaload, 1) := by decide +kernel
theorem dX7_titles_61 : decode cX7_titles 61 = .ok (.iload 4, 2) := by decide +kernel
theorem dX7_titles_63 : decode cX7_titles 63 = .ok (.iaload, 1) := by decide +kernel
theorem dX7_titles_64 : decode cX7_titles 64 = .ok (.if_icmp .ne 6, 3) := by decide +kernel
theorem dX7_titles_67 : decode cX7_titles 67 = .ok (.iinc 3 1, 3) := by decide +kernel
theorem dX7_titles_70 : decode cX7_titles 70 = .ok (.iinc 4 1, 3) := by decide +kernel
theorem dX7_titles_73 : decode cX7_titles 73 = .ok (.goto (-39), 3) := by decide +kernel
theorem dX7_titles_76 : decode cX7_titles 76 = .ok (.iload_n 3, 1) := by decide +kernel
theorem dX7_titles_77 : decode cX7_titles 77 = .ok (.ireturn, 1) := by decide +kernel
set_option maxRecDepth 20000 in
theorem ggX7_rate_X5_hasWriter : GoodIn wsX7_rate wsX5_hasWriter := goodIn_r _ [7, 8, 76, 77, 78, 79, 80] (by decide +kernel) (by decide +kernel)
set_option maxRecDepth 20000 in
theorem gX7_rate_X5_hasWriter : GoodIn wsX7_rate (wsV RX7 85 RX5 yX5_hasWriter wsX5_hasWriter) := goodIn_app (goodIn_of _ (by decide +kernel)) ggX7_rate_X5_hasWriter
set_option maxRecDepth 20000 in
theorem ggX7_rate_X7_rateOfWriter : GoodIn wsX7_rate wsX7_rateOfWriter := goodIn_r _ [13, 14, 1, 15, 66, 67, 68, 69, 70, 71, 72, 73, 74, 75, 76, 77, 78, 79, 80] (by decide +kernel) (by decide +kernel)
set_option maxRecDepth 20000 in
theorem gX7_rate_X7_rateOfWriter : GoodIn wsX7_rate (wsV RX7 238 RX7 yX7_rateOfWriter wsX7_rateOfWriter) := goodIn_app (goodIn_of _ (by decide +kernel)) ggX7_rate_X7_rateOfWriter
set_option maxRecDepth 20000 in
theorem ggX7_rate_X7_rateOfColonel : GoodIn wsX7_rate wsX7_rateOfColonel := goodIn_r _ [19, 14, 20, 21, 9, 10, 11, 12, 13, 1, 15, 22, 23, 24, 25, 26, 27, 28, 29, 30, 31, 32, 33, 34, 35, 36, 37, 38, 39, 66, 67, 68, 69, 70, 71, 72, 73, 74, 75, 76, 77, 78, 79, 80, 81, 82, 83, 84, 85, 86, 87, 88, 89, 90, 91] (by decide +kernel) (by decide +kernel)
set_option maxRecDepth 20000 in
theorem gX7_rate_X7_rateOfColonel : GoodIn wsX7_rate (wsV RX7 241 RX7 yX7_rateOfColonel wsX7_rateOfColonel) := goodIn_app (goodIn_of _ (by decide +kernel)) ggX7_rate_X7_rateOfColonel
set_option maxRecDepth 20000 in
theorem ggX7_rate_X7_rateOfDuke : GoodIn wsX7_rate wsX7_rateOfDuke := goodIn_r _ [43, 14, 44, 21, 45, 9, 10, 11, 12, 13, 1, 15, 66, 67, 68, 69, 70, 71, 72, 73, 74, 75, 81, 82, 83, 84, 85, 86, 87, 88, 89, 90, 91, 76, 77, 78, 79, 80] (by decide +kernel) (by decide +kernel)
set_option maxRecDepth 20000 in
theorem gX7_rate_X7_rateOfDuke : GoodIn wsX7_rate (wsV RX7 244 RX7 yX7_rateOfDuke wsX7_rateOfDuke) := goodIn_app (goodIn_of _ (by decide +kernel)) ggX7_rate_X7_rateOfDuke
set_option maxRecDepth 20000 in
theorem ggX7_rate_X7_rateOfVicar : GoodIn wsX7_rate wsX7_rateOfVicar := goodIn_r _ [49, 14, 50, 16, 17, 18, 12, 19, 20, 21, 9, 10, 11, 13, 1, 15, 22, 23, 24, 25, 26, 27, 28, 29, 30, 31, 32, 33, 34, 35, 36, 37, 38, 39, 66, 67, 68, 69, 70, 71, 72, 73, 74, 75, 76, 77, 78, 79, 80, 81, 82, 83, 84, 85, 86, 87, 88, 89, 90, 91] (by decide +kernel) (by decide +kernel)
set_option maxRecDepth 20000 in
theorem gX7_rate_X7_rateOfVicar : GoodIn wsX7_rate (wsV RX7 247 RX7 yX7_rateOfVicar wsX7_rateOfVicar) := goodIn_app (goodIn_of _ (by decide +kernel)) ggX7_rate_X7_rateOfVicar
set_option maxRecDepth 20000 in
theorem ggX7_rate_X7_rateOfPoet : GoodIn wsX7_rate wsX7_rateOfPoet := goodIn_r _ [54, 14, 55, 40, 41, 42, 12, 43, 44, 21, 45, 9, 10, 11, 13, 1, 15, 66, 67, 68, 69, 70, 71, 72, 73, 74, 75, 81, 82, 83, 84, 85, 86, 87, 88, 89, 90, 91, 76, 77, 78, 79, 80] (by decide +kernel) (by decide +kernel)
set_option maxRecDepth 20000 in
theorem gX7_rate_X7_rateOfPoet : GoodIn wsX7_rate (wsV RX7 250 RX7 yX7_rateOfPoet wsX7_rateOfPoet) := goodIn_app (goodIn_of _ (by decide +kernel)) ggX7_rate_X7_rateOfPoet
set_option maxRecDepth 20000 in
theorem ggX7_rate_X7_rateOfHeir : GoodIn wsX7_rate wsX7_rateOfHeir := goodIn_r _ [59, 14, 60, 21, 9, 10, 11, 12, 13, 1, 15, 61, 62, 63, 25, 64, 31, 32, 65, 66, 67, 68, 69, 70, 71, 72, 73, 74, 75, 76, 77, 78, 79, 80, 81, 82, 83, 84, 85, 86, 87, 88, 89, 90, 91] (by decide +kernel) (by decide +kernel)
set_option maxRecDepth 20000 in
theorem gX7_rate_X7_rateOfHeir : GoodIn wsX7_rate (wsV RX7 253 RX7 yX7_rateOfHeir wsX7_rateOfHeir) := goodIn_app (goodIn_of _ (by decide +kernel)) ggX7_rate_X7_rateOfHeir
theorem dX7_rate_0 : decode cX7_rate 0 = .ok (.aload_n 0, 1) := by decide +kernel
theorem dX7_rate_1 : decode cX7_rate 1 = .ok (.getfield 19, 3) := by decide +kernel
theorem dX7_rate_4 : decode cX7_rate 4 = .ok (.iload_n 2, 1) := by decide +kernel
theorem dX7_rate_5 : decode cX7_rate 5 = .ok (.invokevirtual 85, 3) := by decide +kernel
theorem dX7_rate_8 : decode cX7_rate 8 = .ok (.ifCond .ne 6, 3) := by decide +kernel
theorem dX7_rate_11 : decode cX7_rate 11 = .ok (.ldc 237, 2) := by decide +kernel
theorem dX7_rate_13 : decode cX7_rate 13 = .ok (.ireturn, 1) := by decide +kernel
theorem dX7_rate_14 : decode cX7_rate 14 = .ok (.iload_n 1, 1) := by decide +kernel
theorem dX7_rate_15 : decode cX7_rate 15 = .ok (.tableswitch 73 0 5 #[37, 43, 49, 55, 61, 67], 37) := by decide +kernel
theorem dX7_rate_52 : decode cX7_rate 52 = .ok (.aload_n 0, 1) := by decide +kernel
theorem dX7_rate_53 : decode cX7_rate 53 = .ok (.iload_n 2, 1) := by decide +kernel
theorem dX7_rate_54 : decode cX7_rate 54 = .ok (.invokevirtual 238, 3) := by decide +kernel
theorem dX7_rate_57 : decode cX7_rate 57 = .ok (.ireturn, 1) := by decide +kernel
theorem dX7_rate_58 : decode cX7_rate 58 = .ok (.aload_n 0, 1) := by decide +kernel
theorem dX7_rate_59 : decode cX7_rate 59 = .ok (.iload_n 2, 1) := by decide +kernel
theorem dX7_rate_60 : decode cX7_rate 60 = .ok (.invokevirtual 241, 3) := by decide +kernel
theorem dX7_rate_63 : decode cX7_rate 63 = .ok (.ireturn, 1) := by decide +kernel
theorem dX7_rate_64 : decode cX7_rate 64 = .ok (.aload_n 0, 1) := by decide +kernel
theorem dX7_rate_65 : decode cX7_rate 65 = .ok (.iload_n 2, 1) := by decide +kernel
theorem dX7_rate_66 : decode cX7_rate 66 = .ok (.invokevirtual 244, 3) := by decide +kernel
theorem dX7_rate_69 : decode cX7_rate 69 = .ok (.ireturn, 1) := by decide +kernel
theorem dX7_rate_70 : decode cX7_rate 70 = .ok (.aload_n 0, 1) := by decide +kernel
theorem dX7_rate_71 : decode cX7_rate 71 = .ok (.iload_n 2, 1) := by decide +kernel
theorem dX7_rate_72 : decode cX7_rate 72 = .ok (.invokevirtual 247, 3) := by decide +kernel
theorem dX7_rate_75 : decode cX7_rate 75 = .ok (.ireturn, 1) := by decide +kernel
theorem dX7_rate_76 : decode cX7_rate 76 = .ok (.aload_n 0, 1) := by decide +kernel
theorem dX7_rate_77 : decode cX7_rate 77 = .ok (.iload_n 2, 1) := by decide +kernel
theorem dX7_rate_78 : decode cX7_rate 78 = .ok (.invokevirtual 250, 3) := by decide +kernel
theorem dX7_rate_81 : decode cX7_rate 81 = .ok (.ireturn, 1) := by decide +kernel
theorem dX7_rate_82 : decode cX7_rate 82 = .ok (.aload_n 0, 1) := by decide +kernel
theorem dX7_rate_83 : decode cX7_rate 83 = .ok (.iload_n 2, 1) := by decide +kernel
theorem dX7_rate_84 : decode cX7_rate 84 = .ok (.invokevirtual 253, 3) := by decide +kernel
theorem dX7_rate_87 : decode cX7_rate 87 = .ok (.ireturn, 1) := by decide +kernel
theorem dX7_rate_88 : decode cX7_rate 88 = .ok (.ldc 237, 2) := by decide +kernel
theorem dX7_rate_90 : decode cX7_rate 90 = .ok (.ireturn, 1) := by decide +kernel
set_option maxRecDepth 20000 in
theorem ggX7_keep_X1_hasPlace : GoodIn wsX7_keep wsX1_hasPlace := goodIn_r _ [8] (by decide +kernel) (by decide +kernel)
set_option maxRecDepth 20000 in
theorem gX7_keep_X1_hasPlace : GoodIn wsX7_keep (wsV RX7 256 RX1 yX1_hasPlace wsX1_hasPlace) := goodIn_app (goodIn_of _ (by decide +kernel)) ggX7_keep_X1_hasPlace
set_option maxRecDepth 20000 in
theorem ggX7_keep_X1_put : GoodIn wsX7_keep wsX1_put := goodIn_r _ [12, 13, 14, 15, 16, 17, 18, 19, 20, 21, 22, 23, 24, 25, 26, 27, 28, 29, 30, 31, 32, 33, 34, 56, 57, 45, 46, 47, 48, 49, 50, 51, 52, 53, 54, 55] (by decide +kernel) (by decide +kernel)
set_option maxRecDepth 20000 in
theorem gX7_keep_X1_put : GoodIn wsX7_keep (wsV RX7 259 RX1 yX1_put wsX1_put) := goodIn_app (goodIn_of _ (by decide +kernel)) ggX7_keep_X1_put
theorem dX7_keep_0 : decode cX7_keep 0 = .ok (.aload_n 0, 1) := by decide +kernel
theorem dX7_keep_1 : decode cX7_keep 1 = .ok (.getfield 46, 3) := by decide +kernel
theorem dX7_keep_4 : decode cX7_keep 4 = .ok (.iload_n 1, 1) := by decide +kernel
theorem dX7_keep_5 : decode cX7_keep 5 = .ok (.invokevirtual 256, 3) := by decide +kernel
theorem dX7_keep_8 : decode cX7_keep 8 = .ok (.ifCond .ne 5, 3) := by decide +kernel
theorem dX7_keep_11 : decode cX7_keep 11 = .ok (.iconst (-1), 1) := by decide +kernel
theorem dX7_keep_12 : decode cX7_keep 12 = .ok (.ireturn, 1) := by decide +kernel
theorem dX7_keep_13 : decode cX7_keep 13 = .ok (.aload_n 0, 1) := by decide +kernel
theorem dX7_keep_14 : decode cX7_keep 14 = .ok (.getfield 46, 3) := by decide +kernel
theorem dX7_keep_17 : decode cX7_keep 17 = .ok (.iload_n 1, 1) := by decide +kernel
theorem dX7_keep_18 : decode cX7_keep 18 = .ok (.aload_n 0, 1) := by decide +kernel
theorem dX7_keep_19 : decode cX7_keep 19 = .ok (.getfield 29, 3) := by decide +kernel
theorem dX7_keep_22 : decode cX7_keep 22 = .ok (.invokevirtual 259, 3) := by decide +kernel
theorem dX7_keep_25 : decode cX7_keep 25 = .ok (.aload_n 0, 1) := by decide +kernel
theorem dX7_keep_26 : decode cX7_keep 26 = .ok (.getfield 29, 3) := by decide +kernel
theorem dX7_keep_29 : decode cX7_keep 29 = .ok (.getfield 142, 3) := by decide +kernel
theorem dX7_keep_32 : decode cX7_keep 32 = .ok (.ireturn, 1) := by decide +kernel
set_option maxRecDepth 20000 in
theorem ggX7_back_X1_hasPlace : GoodIn wsX7_back wsX1_hasPlace := goodIn_r _ [9] (by decide +kernel) (by decide +kernel)
set_option maxRecDepth 20000 in
theorem gX7_back_X1_hasPlace : GoodIn wsX7_back (wsV RX7 256 RX1 yX1_hasPlace wsX1_hasPlace) := goodIn_app (goodIn_of _ (by decide +kernel)) ggX7_back_X1_hasPlace
set_option maxRecDepth 20000 in
theorem ggX7_back_X1_isKept : GoodIn wsX7_back wsX1_isKept := goodIn_r _ [13, 14, 67, 68] (by decide +kernel) (by decide +kernel)
set_option maxRecDepth 20000 in
theorem gX7_back_X1_isKept : GoodIn wsX7_back (wsV RX7 263 RX1 yX1_isKept wsX1_isKept) := goodIn_app (goodIn_of _ (by decide +kernel)) ggX7_back_X1_isKept
set_option maxRecDepth 20000 in
theorem ggX7_back_X1_take : GoodIn wsX7_back wsX1_take := goodIn_r _ [18, 19, 20, 21, 22, 23, 24, 25, 26, 27, 28, 29, 30, 31, 32, 33, 34, 35, 36, 37, 38, 39, 67, 68, 56, 57, 58, 59, 60, 61, 62, 63, 64, 65, 66] (by decide +kernel) (by decide +kernel)
set_option maxRecDepth 20000 in
theorem gX7_back_X1_take : GoodIn wsX7_back (wsV RX7 266 RX1 yX1_take wsX1_take) := goodIn_app (goodIn_of _ (by decide +kernel)) ggX7_back_X1_take
set_option maxRecDepth 20000 in
theorem ggX7_back_X4_drop : GoodIn wsX7_back wsX4_drop := goodIn_r _ [44, 45, 69, 70, 71] (by decide +kernel) (by decide +kernel)
set_option maxRecDepth 20000 in
theorem gX7_back_X4_drop : GoodIn wsX7_back (wsV RX7 79 RX4 yX4_drop wsX4_drop) := goodIn_app (goodIn_of _ (by decide +kernel)) ggX7_back_X4_drop
theorem dX7_back_0 : decode cX7_back 0 = .ok (.aload_n 0, 1) := by decide +kernel
theorem dX7_back_1 : decode cX7_back 1 = .ok (.getfield 46, 3) := by decide +kernel
theorem dX7_back_4 : decode cX7_back 4 = .ok (.iload_n 1, 1) := by decide +kernel
theorem dX7_back_5 : decode cX7_back 5 = .ok (.invokevirtual 256, 3) := by decide +kernel
theorem dX7_back_8 : decode cX7_back 8 = .ok (.ifCond .ne 5, 3) := by decide +kernel
theorem dX7_back_11 : decode cX7_back 11 = .ok (.iconst (-1), 1) := by decide +kernel
theorem dX7_back_12 : decode cX7_back 12 = .ok (.ireturn, 1) := by decide +kernel
theorem dX7_back_13 : decode cX7_back 13 = .ok (.aload_n 0, 1) := by decide +kernel
theorem dX7_back_14 : decode cX7_back 14 = .ok (.getfield 46, 3) := by decide +kernel
theorem dX7_back_17 : decode cX7_back 17 = .ok (.iload_n 1, 1) := by decide +kernel
theorem dX7_back_18 : decode cX7_back 18 = .ok (.invokevirtual 263, 3) := by decide +kernel
theorem dX7_back_21 : decode cX7_back 21 = .ok (.ifCond .ne 6, 3) := by decide +kernel
theorem dX7_back_24 : decode cX7_back 24 = .ok (.bipush (-2), 2) := by decide +kernel
theorem dX7_back_26 : decode cX7_back 26 = .ok (.ireturn, 1) := by decide +kernel
theorem dX7_back_27 : decode cX7_back 27 = .ok (.aload_n 0, 1) := by decide +kernel
theorem dX7_back_28 : decode cX7_back 28 = .ok (.getfield 46, 3) := by decide +kernel
theorem dX7_back_31 : decode cX7_back 31 = .ok (.iload_n 1, 1) := by decide +kernel
theorem dX7_back_32 : decode cX7_back 32 = .ok (.aload_n 0, 1) := by decide +kernel
theorem dX7_back_33 : decode cX7_back 33 = .ok (.getfield 29, 3) := by decide +kernel
theorem dX7_back_36 : decode cX7_back 36 = .ok (.invokevirtual 266, 3) := by decide +kernel
theorem dX7_back_39 : decode cX7_back 39 = .ok (.aload_n 0, 1) := by decide +kernel
theorem dX7_back_40 : decode cX7_back 40 = .ok (.getfield 39, 3) := by decide +kernel
theorem dX7_back_43 : decode cX7_back 43 = .ok (.invokevirtual 79, 3) := by decide +kernel
theorem dX7_back_46 : decode cX7_back 46 = .ok (.aload_n 0, 1) := by decide +kernel
theorem dX7_back_47 : decode cX7_back 47 = .ok (.getfield 29, 3) := by decide +kernel
theorem dX7_back_50 : decode cX7_back 50 = .ok (.getfield 142, 3) := by decide +kernel
theorem dX7_back_53 : decode cX7_back 53 = .ok (.ireturn, 1) := by decide +kernel
theorem dX7_count_0 : decode cX7_count 0 = .ok (.iload_n 1, 1) := by decide +kernel
theorem dX7_count_1 : decode cX7_count 1 = .ok (.tableswitch 63 0 3 #[31, 39, 47, 55], 31) := by decide +kernel
theorem dX7_count_32 : decode cX7_count 32 = .ok (.aload_n 0, 1) := by decide +kernel
theorem dX7_count_33 : decode cX7_count 33 = .ok (.getfield 19, 3) := by decide +kernel
theorem dX7_count_36 : decode cX7_count 36 = .ok (.getfield 231, 3) := by decide +kernel
theorem dX7_count_39 : decode cX7_count 39 = .ok (.ireturn, 1) := by decide +kernel
theorem dX7_count_40 : decode cX7_count 40 = .ok (.aload_n 0, 1) := by decide +kernel
theorem dX7_count_41 : decode cX7_count 41 = .ok (.getfield 19, 3) := by decide +kernel
theorem dX7_count_44 : decode cX7_count 44 = .ok (.getfield 203, 3) := by decide +kernel
theorem dX7_count_47 : decode cX7_count 47 = .ok (.ireturn, 1) := by decide +kernel
theorem dX7_count_48 : decode cX7_count 48 = .ok (.aload_n 0, 1) := by decide +kernel
theorem dX7_count_49 : decode cX7_count 49 = .ok (.getfield 53, 3) := by decide +kernel
theorem dX7_count_52 : decode cX7_count 52 = .ok (.getfield 269, 3) := by decide +kernel
theorem dX7_count_55 : decode cX7_count 55 = .ok (.ireturn, 1) := by decide +kernel
theorem dX7_count_56 : decode cX7_count 56 = .ok (.aload_n 0, 1) := by decide +kernel
theorem dX7_count_57 : decode cX7_count 57 = .ok (.getfield 12, 3) := by decide +kernel
theorem dX7_count_60 : decode cX7_count 60 = .ok (.getfield 272, 3) := by decide +kernel
theorem dX7_count_63 : decode cX7_count 63 = .ok (.ireturn, 1) := by decide +kernel
theorem dX7_count_64 : decode cX7_count 64 = .ok (.iconst (-1), 1) := by decide +kernel
theorem dX7_count_65 : decode cX7_count 65 = .ok (.ireturn, 1) := by decide +kernel
theorem dX7_trace_0 : decode cX7_trace 0 = .ok (.aload_n 0, 1) := by decide +kernel
theorem dX7_trace_1 : decode cX7_trace 1 = .ok (.getfield 273, 3) := by decide +kernel
theorem dX7_trace_4 : decode cX7_trace 4 = .ok (.lreturn, 1) := by decide +kernel
set_option maxRecDepth 20000 in
theorem ggX7_mayStand_X5_hasWriter : GoodIn wsX7_mayStand wsX5_hasWriter := goodIn_r _ [6, 7, 18, 19, 20, 21, 22] (by decide +kernel) (by decide +kernel)
set_option maxRecDepth 20000 in
theorem gX7_mayStand_X5_hasWriter : GoodIn wsX7_mayStand (wsV RX7 85 RX5 yX5_hasWriter wsX5_hasWriter) := goodIn_app (goodIn_of _ (by decide +kernel)) ggX7_mayStand_X5_hasWriter
theorem dX7_mayStand_0 : decode cX7_mayStand 0 = .ok (.aload_n 0, 1) := by decide +kernel
theorem dX7_mayStand_1 : decode cX7_mayStand 1 = .ok (.getfield 19, 3) := by decide +kernel
theorem dX7_mayStand_4 : decode cX7_mayStand 4 = .ok (.iload_n 1, 1) := by decide +kernel
theorem dX7_mayStand_5 : decode cX7_mayStand 5 = .ok (.invokevirtual 85, 3) := by decide +kernel
theorem dX7_mayStand_8 : decode cX7_mayStand 8 = .ok (.ifCond .eq 16, 3) := by decide +kernel
theorem dX7_mayStand_11 : decode cX7_mayStand 11 = .ok (.iload_n 2, 1) := by decide +kernel
theorem dX7_mayStand_12 : decode cX7_mayStand 12 = .ok (.ifCond .lt 12, 3) := by decide +kernel
theorem dX7_mayStand_15 : decode cX7_mayStand 15 = .ok (.iload_n 2, 1) := by decide +kernel
theorem dX7_mayStand_16 : decode cX7_mayStand 16 = .ok (.iconst 5, 1) := by decide +kernel
theorem dX7_mayStand_17 : decode cX7_mayStand 17 = .ok (.if_icmp .ge 7, 3) := by decide +kernel
theorem dX7_mayStand_20 : decode cX7_mayStand 20 = .ok (.iconst 1, 1) := by decide +kernel
theorem dX7_mayStand_21 : decode cX7_mayStand 21 = .ok (.goto 4, 3) := by decide +kernel
theorem dX7_mayStand_24 : decode cX7_mayStand 24 = .ok (.iconst 0, 1) := by decide +kernel
theorem dX7_mayStand_25 : decode cX7_mayStand 25 = .ok (.ireturn, 1) := by decide +kernel
set_option maxRecDepth 20000 in
theorem ggX7_hasLastWord_X2_follow : GoodIn wsX7_hasLastWord wsX2_follow := goodIn_r _ [8, 9, 10, 11, 12, 13, 14, 15, 16, 17, 18, 19, 20, 21, 22, 33, 34, 35, 36, 37, 38, 39] (by decide +kernel) (by decide +kernel)
set_option maxRecDepth 20000 in
theorem gX7_hasLastWord_X2_follow : GoodIn wsX7_hasLastWord (wsV RX7 181 RX2 yX2_follow wsX2_follow) := goodIn_app (goodIn_of _ (by decide +kernel)) ggX7_hasLastWord_X2_follow
theorem dX7_hasLastWord_0 : decode cX7_hasLastWord 0 = .ok (.aload_n 0, 1) := by decide +kernel
theorem dX7_hasLastWord_1 : decode cX7_hasLastWord 1 = .ok (.getfield 60, 3) := by decide +kernel
theorem dX7_hasLastWord_4 : decode cX7_hasLastWord 4 = .ok (.aload_n 0, 1) := by decide +kernel
theorem dX7_hasLastWord_5 : decode cX7_hasLastWord 5 = .ok (.getfield 19, 3) := by decide +kernel
theorem dX7_hasLastWord_8 : decode cX7_hasLastWord 8 = .ok (.iload_n 1, 1) := by decide +kernel
theorem dX7_hasLastWord_9 : decode cX7_hasLastWord 9 = .ok (.iload_n 2, 1) := by decide +kernel
theorem dX7_hasLastWord_10 : decode cX7_hasLastWord 10 = .ok (.iload_n 3, 1) := by decide +kernel
theorem dX7_hasLastWord_11 : decode cX7_hasLastWord 11 = .ok (.invokevirtual 181, 3) := by decide +kernel
theorem dX7_hasLastWord_14 : decode cX7_hasLastWord 14 = .ok (.aload_n 0, 1) := by decide +kernel
theorem dX7_hasLastWord_15 : decode cX7_hasLastWord 15 = .ok (.getfield 60, 3) := by decide +kernel
theorem dX7_hasLastWord_18 : decode cX7_hasLastWord 18 = .ok (.getfield 188, 3) := by decide +kernel
theorem dX7_hasLastWord_21 : decode cX7_hasLastWord 21 = .ok (.iload_n 1, 1) := by decide +kernel
theorem dX7_hasLastWord_22 : decode cX7_hasLastWord 22 = .ok (.if_icmp .ne 7, 3) := by decide +kernel
theorem dX7_hasLastWord_25 : decode cX7_hasLastWord 25 = .ok (.iconst 1, 1) := by decide +kernel
theorem dX7_hasLastWord_26 : decode cX7_hasLastWord 26 = .ok (.goto 4, 3) := by decide +kernel
theorem dX7_hasLastWord_29 : decode cX7_hasLastWord 29 = .ok (.iconst 0, 1) := by decide +kernel
theorem dX7_hasLastWord_30 : decode cX7_hasLastWord 30 = .ok (.ireturn, 1) := by decide +kernel
set_option maxRecDepth 20000 in
theorem ggX7_daysTillClosed_X2_follow : GoodIn wsX7_daysTillClosed wsX2_follow := goodIn_r _ [13, 14, 15, 16, 17, 18, 19, 20, 21, 22, 23, 24, 25, 26, 27, 86, 87, 88, 89, 90, 91, 92] (by decide +kernel) (by decide +kernel)
set_option maxRecDepth 20000 in
theorem gX7_daysTillClosed_X2_follow : GoodIn wsX7_daysTillClosed (wsV RX7 181 RX2 yX2_follow wsX2_follow) := goodIn_app (goodIn_of _ (by decide +kernel)) ggX7_daysTillClosed_X2_follow
set_option maxRecDepth 20000 in
theorem ggX7_daysTillClosed_X0_passDay : GoodIn wsX7_daysTillClosed wsX0_passDay := goodIn_r _ [32, 33, 34, 35, 36, 37, 38, 39, 40, 41, 42, 43, 44, 31, 45, 46, 47, 24, 25, 19, 26, 27, 48, 49, 50, 51, 52, 53, 54, 55, 56, 57, 58, 59, 60, 17, 18, 20, 21, 22, 61, 62, 63, 64, 88, 89, 90, 91, 92, 75, 76, 77, 78, 79, 80, 81, 82, 83, 84, 85] (by decide +kernel) (by decide +kernel)
set_option maxRecDepth 20000 in
theorem gX7_daysTillClosed_X0_passDay : GoodIn wsX7_daysTillClosed (wsV RX7 165 RX0 yX0_passDay wsX0_passDay) := goodIn_app (goodIn_of _ (by decide +kernel)) ggX7_daysTillClosed_X0_passDay
theorem dX7_daysTillClosed_0 : decode cX7_daysTillClosed 0 = .ok (.aload_n 0, 1) := by decide +kernel
theorem dX7_daysTillClosed_1 : decode cX7_daysTillClosed 1 = .ok (.getfield 60, 3) := by decide +kernel
theorem dX7_daysTillClosed_4 : decode cX7_daysTillClosed 4 = .ok (.aload_n 0, 1) := by decide +kernel
theorem dX7_daysTillClosed_5 : decode cX7_daysTillClosed 5 = .ok (.getfield 19, 3) := by decide +kernel
theorem dX7_daysTillClosed_8 : decode cX7_daysTillClosed 8 = .ok (.aload_n 0, 1) := by decide +kernel
theorem dX7_daysTillClosed_9 : decode cX7_daysTillClosed 9 = .ok (.getfield 33, 3) := by decide +kernel
theorem dX7_daysTillClosed_12 : decode cX7_daysTillClosed 12 = .ok (.getfield 112, 3) := by decide +kernel
theorem dX7_daysTillClosed_15 : decode cX7_daysTillClosed 15 = .ok (.iload_n 1, 1) := by decide +kernel
theorem dX7_daysTillClosed_16 : decode cX7_daysTillClosed 16 = .ok (.iaload, 1) := by decide +kernel
theorem dX7_daysTillClosed_17 : decode cX7_daysTillClosed 17 = .ok (.aload_n 0, 1) := by decide +kernel
theorem dX7_daysTillClosed_18 : decode cX7_daysTillClosed 18 = .ok (.getfield 33, 3) := by decide +kernel
theorem dX7_daysTillClosed_21 : decode cX7_daysTillClosed 21 = .ok (.getfield 115, 3) := by decide +kernel
theorem dX7_daysTillClosed_24 : decode cX7_daysTillClosed 24 = .ok (.iload_n 1, 1) := by decide +kernel
theorem dX7_daysTillClosed_25 : decode cX7_daysTillClosed 25 = .ok (.iaload, 1) := by decide +kernel
theorem dX7_daysTillClosed_26 : decode cX7_daysTillClosed 26 = .ok (.aload_n 0, 1) := by decide +kernel
theorem dX7_daysTillClosed_27 : decode cX7_daysTillClosed 27 = .ok (.getfield 33, 3) := by decide +kernel
theorem dX7_daysTillClosed_30 : decode cX7_daysTillClosed 30 = .ok (.getfield 134, 3) := by decide +kernel
theorem dX7_daysTillClosed_33 : decode cX7_daysTillClosed 33 = .ok (.invokevirtual 181, 3) := by decide +kernel
theorem dX7_daysTillClosed_36 : decode cX7_daysTillClosed 36 = .ok (.aload_n 0, 1) := by decide +kernel
theorem dX7_daysTillClosed_37 : decode cX7_daysTillClosed 37 = .ok (.getfield 60, 3) := by decide +kernel
theorem dX7_daysTillClosed_40 : decode cX7_daysTillClosed 40 = .ok (.getfield 185, 3) := by decide +kernel
theorem dX7_daysTillClosed_43 : decode cX7_daysTillClosed 43 = .ok (.bipush (-9), 2) := by decide +kernel
theorem dX7_daysTillClosed_45 : decode cX7_daysTillClosed 45 = .ok (.if_icmp .ne 6, 3) := by decide +kernel
theorem dX7_daysTillClosed_48 : decode cX7_daysTillClosed 48 = .ok (.bipush (-9), 2) := by decide +kernel
theorem dX7_daysTillClosed_50 : decode cX7_daysTillClosed 50 = .ok (.ireturn, 1) := by decide +kernel
theorem dX7_daysTillClosed_51 : decode cX7_daysTillClosed 51 = .ok (.iconst 0, 1) := by decide +kernel
theorem dX7_daysTillClosed_52 : decode cX7_daysTillClosed 52 = .ok (.istore_n 2, 1) := by decide +kernel
theorem dX7_daysTillClosed_53 : decode cX7_daysTillClosed 53 = .ok (.iload_n 2, 1) := by decide +kernel
theorem dX7_daysTillClosed_54 : decode cX7_daysTillClosed 54 = .ok (.sipush 400, 3) := by decide +kernel
theorem dX7_daysTillClosed_57 : decode cX7_daysTillClosed 57 = .ok (.if_icmp .gt 37, 3) := by decide +kernel
theorem dX7_daysTillClosed_60 : decode cX7_daysTillClosed 60 = .ok (.aload_n 0, 1) := by decide +kernel
theorem dX7_daysTillClosed_61 : decode cX7_daysTillClosed 61 = .ok (.getfield 33, 3) := by decide +kernel
theorem dX7_daysTillClosed_64 : decode cX7_daysTillClosed 64 = .ok (.getfield 121, 3) := by decide +kernel
theorem dX7_daysTillClosed_67 : decode cX7_daysTillClosed 67 = .ok (.iload_n 1, 1) := by decide +kernel
theorem dX7_daysTillClosed_68 : decode cX7_daysTillClosed 68 = .ok (.iaload, 1) := by decide +kernel
theorem dX7_daysTillClosed_69 : decode cX7_daysTillClosed 69 = .ok (.bipush (-9), 2) := by decide +kernel
theorem dX7_daysTillClosed_71 : decode cX7_daysTillClosed 71 = .ok (.if_icmp .ne 5, 3) := by decide +kernel
theorem dX7_daysTillClosed_74 : decode cX7_daysTillClosed 74 = .ok (.iload_n 2, 1) := by decide +kernel
theorem dX7_daysTillClosed_75 : decode cX7_daysTillClosed 75 = .ok (.ireturn, 1) := by decide +kernel
theorem dX7_daysTillClosed_76 : decode cX7_daysTillClosed 76 = .ok (.aload_n 0, 1) := by decide +kernel
theorem dX7_daysTillClosed_77 : decode cX7_daysTillClosed 77 = .ok (.getfield 33, 3) := by decide +kernel
theorem dX7_daysTillClosed_80 : decode cX7_daysTillClosed 80 = .ok (.aload_n 0, 1) := by decide +kernel
theorem dX7_daysTillClosed_81 : decode cX7_daysTillClosed 81 = .ok (.getfield 19, 3) := by decide +kernel
theorem dX7_daysTillClosed_84 : decode cX7_daysTillClosed 84 = .ok (.invokevirtual 165, 3) := by decide +kernel
theorem dX7_daysTillClosed_87 : decode cX7_daysTillClosed 87 = .ok (.pop, 1) := by decide +kernel
theorem dX7_daysTillClosed_88 : decode cX7_daysTillClosed 88 = .ok (.iinc 2 1, 3) := by decide +kernel
theorem dX7_daysTillClosed_91 : decode cX7_daysTillClosed 91 = .ok (.goto (-38), 3) := by decide +kernel
theorem dX7_daysTillClosed_94 : decode cX7_daysTillClosed 94 = .ok (.bipush (-9), 2) := by decide +kernel
theorem dX7_daysTillClosed_96 : decode cX7_daysTillClosed 96 = .ok (.ireturn, 1) := by decide +kernel
set_option maxRecDepth 20000 in
theorem ggX7_endsWithout_X0_copy : GoodIn wsX7_endsWithout wsX0_copy := goodIn_r _ [9, 10, 11, 12, 13, 14, 15, 16, 17, 18, 19, 20, 21, 22, 23, 24, 110, 111, 112, 113, 114, 115, 116, 117, 118, 119, 120] (by decide +kernel) (by decide +kernel)
set_option maxRecDepth 20000 in
theorem gX7_endsWithout_X0_copy : GoodIn wsX7_endsWithout (wsV RX7 175 RX0 yX0_copy wsX0_copy) := goodIn_app (goodIn_of _ (by decide +kernel)) ggX7_endsWithout_X0_copy
set_option maxRecDepth 20000 in
theorem ggX7_endsWithout_X0_layDown : GoodIn wsX7_endsWithout wsX0_layDown := goodIn_r _ [28, 13, 12, 29, 30, 31, 8, 32, 22, 33, 34, 35, 36, 19, 20, 23, 37, 38, 39, 40, 41, 42, 43, 44, 45, 46, 47, 48, 49, 50, 51, 110, 111, 112, 113, 114, 115, 116, 117, 118, 119, 120, 105, 106, 107, 108, 109] (by decide +kernel) (by decide +kernel)
set_option maxRecDepth 20000 in
theorem gX7_endsWithout_X0_layDown : GoodIn wsX7_endsWithout (wsV RX7 168 RX0 yX0_layDown wsX0_layDown) := goodIn_app (goodIn_of _ (by decide +kernel)) ggX7_endsWithout_X0_layDown
set_option maxRecDepth 20000 in
theorem ggX7_endsWithout_X7_daysTillClosed : GoodIn wsX7_endsWithout wsX7_daysTillClosed := goodIn_r _ [56, 57, 3, 1, 58, 59, 60, 61, 62, 63, 64, 65, 66, 67, 68, 69, 70, 39, 40, 41, 42, 43, 44, 71, 72, 73, 74, 75, 76, 77, 78, 8, 79, 80, 23, 10, 12, 22, 20, 81, 24, 14, 82, 83, 84, 85, 21, 86, 87, 88, 89, 90, 19, 11, 33, 34, 35, 36, 13, 37, 38, 91, 92, 93, 94, 95, 96, 97, 98, 99, 100, 101, 102, 103, 104, 110, 111, 112, 113, 114, 115, 116, 117, 118, 119, 120, 121, 122, 105, 106, 107, 108, 109] (by decide +kernel) (by decide +kernel)
set_option maxRecDepth 20000 in
theorem gX7_endsWithout_X7_daysTillClosed : GoodIn wsX7_endsWithout (wsV RX7 178 RX7 yX7_daysTillClosed wsX7_daysTillClosed) := goodIn_app (goodIn_of _ (by decide +kernel)) ggX7_endsWithout_X7_daysTillClosed
theorem dX7_endsWithout_0 : decode cX7_endsWithout 0 = .ok (.aload_n 0, 1) := by decide +kernel
theorem dX7_endsWithout_1 : decode cX7_endsWithout 1 = .ok (.getfield 33, 3) := by decide +kernel
theorem dX7_endsWithout_4 : decode cX7_endsWithout 4 = .ok (.aload_n 0, 1) := by decide +kernel
theorem dX7_endsWithout_5 : decode cX7_endsWithout 5 = .ok (.getfield 29, 3) := by decide +kernel
theorem dX7_endsWithout_8 : decode cX7_endsWithout 8 = .ok (.invokevirtual 175, 3) := by decide +kernel
theorem dX7_endsWithout_11 : decode cX7_endsWithout 11 = .ok (.iconst 0, 1) := by decide +kernel
theorem dX7_endsWithout_12 : decode cX7_endsWithout 12 = .ok (.istore_n 3, 1) := by decide +kernel
theorem dX7_endsWithout_13 : decode cX7_endsWithout 13 = .ok (.iload_n 3, 1) := by decide +kernel
theorem dX7_endsWithout_14 : decode cX7_endsWithout 14 = .ok (.aload_n 0, 1) := by decide +kernel
theorem dX7_endsWithout_15 : decode cX7_endsWithout 15 = .ok (.getfield 19, 3) := by decide +kernel
theorem dX7_endsWithout_18 : decode cX7_endsWithout 18 = .ok (.getfield 231, 3) := by decide +kernel
theorem dX7_endsWithout_21 : decode cX7_endsWithout 21 = .ok (.if_icmp .ge 31, 3) := by decide +kernel
theorem dX7_endsWithout_24 : decode cX7_endsWithout 24 = .ok (.iload_n 2, 1) := by decide +kernel
theorem dX7_endsWithout_25 : decode cX7_endsWithout 25 = .ok (.iload_n 3, 1) := by decide +kernel
theorem dX7_endsWithout_26 : decode cX7_endsWithout 26 = .ok (.ishr, 1) := by decide +kernel
theorem dX7_endsWithout_27 : decode cX7_endsWithout 27 = .ok (.iconst 1, 1) := by decide +kernel
theorem dX7_endsWithout_28 : decode cX7_endsWithout 28 = .ok (.iand, 1) := by decide +kernel
theorem dX7_endsWithout_29 : decode cX7_endsWithout 29 = .ok (.iconst 1, 1) := by decide +kernel
theorem dX7_endsWithout_30 : decode cX7_endsWithout 30 = .ok (.if_icmp .ne 16, 3) := by decide +kernel
theorem dX7_endsWithout_33 : decode cX7_endsWithout 33 = .ok (.aload_n 0, 1) := by decide +kernel
theorem dX7_endsWithout_34 : decode cX7_endsWithout 34 = .ok (.getfield 33, 3) := by decide +kernel
theorem dX7_endsWithout_37 : decode cX7_endsWithout 37 = .ok (.aload_n 0, 1) := by decide +kernel
theorem dX7_endsWithout_38 : decode cX7_endsWithout 38 = .ok (.getfield 19, 3) := by decide +kernel
theorem dX7_endsWithout_41 : decode cX7_endsWithout 41 = .ok (.iload_n 3, 1) := by decide +kernel
theorem dX7_endsWithout_42 : decode cX7_endsWithout 42 = .ok (.invokevirtual 168, 3) := by decide +kernel
theorem dX7_endsWithout_45 : decode cX7_endsWithout 45 = .ok (.pop, 1) := by decide +kernel
theorem dX7_endsWithout_46 : decode cX7_endsWithout 46 = .ok (.iinc 3 1, 3) := by decide +kernel
theorem dX7_endsWithout_49 : decode cX7_endsWithout 49 = .ok (.goto (-36), 3) := by decide +kernel
theorem dX7_endsWithout_52 : decode cX7_endsWithout 52 = .ok (.aload_n 0, 1) := by decide +kernel
theorem dX7_endsWithout_53 : decode cX7_endsWithout 53 = .ok (.iload_n 1, 1) := by decide +kernel
theorem dX7_endsWithout_54 : decode cX7_endsWithout 54 = .ok (.invokevirtual 178, 3) := by decide +kernel
theorem dX7_endsWithout_57 : decode cX7_endsWithout 57 = .ok (.bipush (-9), 2) := by decide +kernel
theorem dX7_endsWithout_59 : decode cX7_endsWithout 59 = .ok (.if_icmp .eq 7, 3) := by decide +kernel
theorem dX7_endsWithout_62 : decode cX7_endsWithout 62 = .ok (.iconst 1, 1) := by decide +kernel
theorem dX7_endsWithout_63 : decode cX7_endsWithout 63 = .ok (.goto 4, 3) := by decide +kernel
theorem dX7_endsWithout_66 : decode cX7_endsWithout 66 = .ok (.iconst 0, 1) := by decide +kernel
theorem dX7_endsWithout_67 : decode cX7_endsWithout 67 = .ok (.ireturn, 1) := by decide +kernel
theorem dX7_rateOfWriter_0 : decode cX7_rateOfWriter 0 = .ok (.aload_n 0, 1) := by decide +kernel
theorem dX7_rateOfWriter_1 : decode cX7_rateOfWriter 1 = .ok (.dup, 1) := by decide +kernel
theorem dX7_rateOfWriter_2 : decode cX7_rateOfWriter 2 = .ok (.getfield 273, 3) := by decide +kernel
theorem dX7_rateOfWriter_5 : decode cX7_rateOfWriter 5 = .ok (.lconst 1, 1) := by decide +kernel
theorem dX7_rateOfWriter_6 : decode cX7_rateOfWriter 6 = .ok (.ladd, 1) := by decide +kernel
theorem dX7_rateOfWriter_7 : decode cX7_rateOfWriter 7 = .ok (.putfield 273, 3) := by decide +kernel
theorem dX7_rateOfWriter_10 : decode cX7_rateOfWriter 10 = .ok (.aload_n 0, 1) := by decide +kernel
theorem dX7_rateOfWriter_11 : decode cX7_rateOfWriter 11 = .ok (.getfield 19, 3) := by decide +kernel
theorem dX7_rateOfWriter_14 : decode cX7_rateOfWriter 14 = .ok (.getfield 89, 3) := by decide +kernel
theorem dX7_rateOfWriter_17 : decode cX7_rateOfWriter 17 = .ok (.iload_n 1, 1) := by decide +kernel
theorem dX7_rateOfWriter_18 : decode cX7_rateOfWriter 18 = .ok (.iaload, 1) := by decide +kernel
theorem dX7_rateOfWriter_19 : decode cX7_rateOfWriter 19 = .ok (.ireturn, 1) := by decide +kernel
set_option maxRecDepth 20000 in
theorem ggX7_rateOfColonel_X7_rateOfWriter : GoodIn wsX7_rateOfColonel wsX7_rateOfWriter := goodIn_r _ [8, 1, 9, 10, 29, 30, 31, 32, 33, 34, 35, 36, 37, 38, 39, 40, 41, 42, 43] (by decide +kernel) (by decide +kernel)
set_option maxRecDepth 20000 in
theorem gX7_rateOfColonel_X7_rateOfWriter : GoodIn wsX7_rateOfColonel (wsV RX7 238 RX7 yX7_rateOfWriter wsX7_rateOfWriter) := goodIn_app (goodIn_of _ (by decide +kernel)) ggX7_rateOfColonel_X7_rateOfWriter
set_option maxRecDepth 20000 in
theorem ggX7_rateOfColonel_X0_owedBy : GoodIn wsX7_rateOfColonel wsX0_owedBy := goodIn_r _ [15, 16, 17, 18, 14, 19, 20, 21, 22, 23, 24, 25, 26, 27, 28, 44, 45, 46, 47, 48, 49, 50, 51, 52, 53, 54] (by decide +kernel) (by decide +kernel)
set_option maxRecDepth 20000 in
theorem gX7_rateOfColonel_X0_owedBy : GoodIn wsX7_rateOfColonel (wsV RX7 99 RX0 yX0_owedBy wsX0_owedBy) := goodIn_app (goodIn_of _ (by decide +kernel)) ggX7_rateOfColonel_X0_owedBy
theorem dX7_rateOfColonel_0 : decode cX7_rateOfColonel 0 = .ok (.aload_n 0, 1) := by decide +kernel
theorem dX7_rateOfColonel_1 : decode cX7_rateOfColonel 1 = .ok (.dup, 1) := by decide +kernel
theorem dX7_rateOfColonel_2 : decode cX7_rateOfColonel 2 = .ok (.getfield 273, 3) := by decide +kernel
theorem dX7_rateOfColonel_5 : decode cX7_rateOfColonel 5 = .ok (.ldc2_w 277, 3) := by decide +kernel
theorem dX7_rateOfColonel_8 : decode cX7_rateOfColonel 8 = .ok (.ladd, 1) := by decide +kernel
theorem dX7_rateOfColonel_9 : decode cX7_rateOfColonel 9 = .ok (.putfield 273, 3) := by decide +kernel
theorem dX7_rateOfColonel_12 : decode cX7_rateOfColonel 12 = .ok (.aload_n 0, 1) := by decide +kernel
theorem dX7_rateOfColonel_13 : decode cX7_rateOfColonel 13 = .ok (.iload_n 1, 1) := by decide +kernel
theorem dX7_rateOfColonel_14 : decode cX7_rateOfColonel 14 = .ok (.invokevirtual 238, 3) := by decide +kernel
theorem dX7_rateOfColonel_17 : decode cX7_rateOfColonel 17 = .ok (.aload_n 0, 1) := by decide +kernel
theorem dX7_rateOfColonel_18 : decode cX7_rateOfColonel 18 = .ok (.getfield 29, 3) := by decide +kernel
theorem dX7_rateOfColonel_21 : decode cX7_rateOfColonel 21 = .ok (.iload_n 1, 1) := by decide +kernel
theorem dX7_rateOfColonel_22 : decode cX7_rateOfColonel 22 = .ok (.invokevirtual 99, 3) := by decide +kernel
theorem dX7_rateOfColonel_25 : decode cX7_rateOfColonel 25 = .ok (.iadd, 1) := by decide +kernel
theorem dX7_rateOfColonel_26 : decode cX7_rateOfColonel 26 = .ok (.ireturn, 1) := by decide +kernel
set_option maxRecDepth 20000 in
theorem ggX7_rateOfDuke_X7_rateOfWriter : GoodIn wsX7_rateOfDuke wsX7_rateOfWriter := goodIn_r _ [9, 1, 10, 11, 12, 13, 14, 15, 16, 17, 18, 19, 20, 21, 33, 34, 35, 36, 37] (by decide +kernel) (by decide +kernel)
set_option maxRecDepth 20000 in
theorem gX7_rateOfDuke_X7_rateOfWriter : GoodIn wsX7_rateOfDuke (wsV RX7 238 RX7 yX7_rateOfWriter wsX7_rateOfWriter) := goodIn_app (goodIn_of _ (by decide +kernel)) ggX7_rateOfDuke_X7_rateOfWriter
theorem dX7_rateOfDuke_0 : decode cX7_rateOfDuke 0 = .ok (.aload_n 0, 1) := by decide +kernel
theorem dX7_rateOfDuke_1 : decode cX7_rateOfDuke 1 = .ok (.dup, 1) := by decide +kernel
theorem dX7_rateOfDuke_2 : decode cX7_rateOfDuke 2 = .ok (.getfield 273, 3) := by decide +kernel
theorem dX7_rateOfDuke_5 : decode cX7_rateOfDuke 5 = .ok (.ldc2_w 279, 3) := by decide +kernel
theorem dX7_rateOfDuke_8 : decode cX7_rateOfDuke 8 = .ok (.ladd, 1) := by decide +kernel
theorem dX7_rateOfDuke_9 : decode cX7_rateOfDuke 9 = .ok (.putfield 273, 3) := by decide +kernel
theorem dX7_rateOfDuke_12 : decode cX7_rateOfDuke 12 = .ok (.aload_n 0, 1) := by decide +kernel
theorem dX7_rateOfDuke_13 : decode cX7_rateOfDuke 13 = .ok (.iload_n 1, 1) := by decide +kernel
theorem dX7_rateOfDuke_14 : decode cX7_rateOfDuke 14 = .ok (.invokevirtual 238, 3) := by decide +kernel
theorem dX7_rateOfDuke_17 : decode cX7_rateOfDuke 17 = .ok (.aload_n 0, 1) := by decide +kernel
theorem dX7_rateOfDuke_18 : decode cX7_rateOfDuke 18 = .ok (.getfield 29, 3) := by decide +kernel
theorem dX7_rateOfDuke_21 : decode cX7_rateOfDuke 21 = .ok (.getfield 102, 3) := by decide +kernel
theorem dX7_rateOfDuke_24 : decode cX7_rateOfDuke 24 = .ok (.iload_n 1, 1) := by decide +kernel
theorem dX7_rateOfDuke_25 : decode cX7_rateOfDuke 25 = .ok (.iaload, 1) := by decide +kernel
theorem dX7_rateOfDuke_26 : decode cX7_rateOfDuke 26 = .ok (.isub, 1) := by decide +kernel
theorem dX7_rateOfDuke_27 : decode cX7_rateOfDuke 27 = .ok (.ireturn, 1) := by decide +kernel
set_option maxRecDepth 20000 in
theorem ggX7_rateOfVicar_X7_rateOfColonel : GoodIn wsX7_rateOfVicar wsX7_rateOfColonel := goodIn_r _ [7, 1, 8, 9, 10, 11, 12, 6, 13, 14, 15, 16, 17, 18, 19, 20, 21, 22, 23, 24, 25, 26, 27, 28, 29, 30, 31, 32, 33, 34, 35, 36, 37, 38, 39, 40, 41, 42, 43, 44, 45, 46, 47, 48, 49, 50, 51, 52, 53, 54, 55, 56, 57, 58, 59] (by decide +kernel) (by decide +kernel)
set_option maxRecDepth 20000 in
theorem gX7_rateOfVicar_X7_rateOfColonel : GoodIn wsX7_rateOfVicar (wsV RX7 241 RX7 yX7_rateOfColonel wsX7_rateOfColonel) := goodIn_app (goodIn_of _ (by decide +kernel)) ggX7_rateOfVicar_X7_rateOfColonel
end
section
theorem dX7_rateOfVicar_0 : decode cX7_rateOfVicar 0 = .ok (.aload_n 0, 1) := by decide +kernel
theorem dX7_rateOfVicar_1 : decode cX7_rateOfVicar 1 = .ok (.dup, 1) := by decide +kernel
theorem dX7_rateOfVicar_2 : decode cX7_rateOfVicar 2 = .ok (.getfield 273, 3) := by decide +kernel
theorem dX7_rateOfVicar_5 : decode cX7_rateOfVicar 5 = .ok (.ldc2_w 281, 3) := by decide +kernel
theorem dX7_rateOfVicar_8 : decode cX7_rateOfVicar 8 = .ok (.ladd, 1) := by decide +kernel
theorem dX7_rateOfVicar_9 : decode cX7_rateOfVicar 9 = .ok (.putfield 273, 3) := by decide +kernel
theorem dX7_rateOfVicar_12 : decode cX7_rateOfVicar 12 = .ok (.iconst 2, 1) := by decide +kernel
theorem dX7_rateOfVicar_13 : decode cX7_rateOfVicar 13 = .ok (.aload_n 0, 1) := by decide +kernel
theorem dX7_rateOfVicar_14 : decode cX7_rateOfVicar 14 = .ok (.iload_n 1, 1) := by decide +kernel
theorem dX7_rateOfVicar_15 : decode cX7_rateOfVicar 15 = .ok (.invokevirtual 241, 3) := by decide +kernel
theorem dX7_rateOfVicar_18 : decode cX7_rateOfVicar 18 = .ok (.imul, 1) := by decide +kernel
theorem dX7_rateOfVicar_19 : decode cX7_rateOfVicar 19 = .ok (.ireturn, 1) := by decide +kernel
set_option maxRecDepth 20000 in
theorem ggX7_rateOfPoet_X7_rateOfDuke : GoodIn wsX7_rateOfPoet wsX7_rateOfDuke := goodIn_r _ [7, 1, 8, 9, 10, 11, 12, 13, 6, 14, 15, 16, 17, 18, 19, 20, 21, 22, 23, 24, 25, 26, 27, 28, 29, 30, 31, 32, 33, 34, 35, 36, 37, 38, 39, 40, 41, 42] (by decide +kernel) (by decide +kernel)
set_option maxRecDepth 20000 in
theorem gX7_rateOfPoet_X7_rateOfDuke : GoodIn wsX7_rateOfPoet (wsV RX7 244 RX7 yX7_rateOfDuke wsX7_rateOfDuke) := goodIn_app (goodIn_of _ (by decide +kernel)) ggX7_rateOfPoet_X7_rateOfDuke
theorem dX7_rateOfPoet_0 : decode cX7_rateOfPoet 0 = .ok (.aload_n 0, 1) := by decide +kernel
theorem dX7_rateOfPoet_1 : decode cX7_rateOfPoet 1 = .ok (.dup, 1) := by decide +kernel
theorem dX7_rateOfPoet_2 : decode cX7_rateOfPoet 2 = .ok (.getfield 273, 3) := by decide +kernel
theorem dX7_rateOfPoet_5 : decode cX7_rateOfPoet 5 = .ok (.ldc2_w 283, 3) := by decide +kernel
theorem dX7_rateOfPoet_8 : decode cX7_rateOfPoet 8 = .ok (.ladd, 1) := by decide +kernel
theorem dX7_rateOfPoet_9 : decode cX7_rateOfPoet 9 = .ok (.putfield 273, 3) := by decide +kernel
theorem dX7_rateOfPoet_12 : decode cX7_rateOfPoet 12 = .ok (.aload_n 0, 1) := by decide +kernel
theorem dX7_rateOfPoet_13 : decode cX7_rateOfPoet 13 = .ok (.iload_n 1, 1) := by decide +kernel
theorem dX7_rateOfPoet_14 : decode cX7_rateOfPoet 14 = .ok (.invokevirtual 244, 3) := by decide +kernel
theorem dX7_rateOfPoet_17 : decode cX7_rateOfPoet 17 = .ok (.iload_n 1, 1) := by decide +kernel
theorem dX7_rateOfPoet_18 : decode cX7_rateOfPoet 18 = .ok (.iadd, 1) := by decide +kernel
theorem dX7_rateOfPoet_19 : decode cX7_rateOfPoet 19 = .ok (.ireturn, 1) := by decide +kernel
set_option maxRecDepth 20000 in
theorem ggX7_rateOfHeir_X7_rateOfWriter : GoodIn wsX7_rateOfHeir wsX7_rateOfWriter := goodIn_r _ [8, 1, 9, 10, 19, 20, 21, 22, 23, 24, 25, 26, 27, 28, 29, 30, 31, 32, 33] (by decide +kernel) (by decide +kernel)
set_option maxRecDepth 20000 in
theorem gX7_rateOfHeir_X7_rateOfWriter : GoodIn wsX7_rateOfHeir (wsV RX7 238 RX7 yX7_rateOfWriter wsX7_rateOfWriter) := goodIn_app (goodIn_of _ (by decide +kernel)) ggX7_rateOfHeir_X7_rateOfWriter
set_option maxRecDepth 20000 in
theorem ggX7_rateOfHeir_X0_lastWordsOf : GoodIn wsX7_rateOfHeir wsX0_lastWordsOf := goodIn_r _ [15, 16, 17, 18, 34, 35, 36, 37, 38, 39, 40, 41, 42, 43, 44] (by decide +kernel) (by decide +kernel)
set_option maxRecDepth 20000 in
theorem gX7_rateOfHeir_X0_lastWordsOf : GoodIn wsX7_rateOfHeir (wsV RX7 234 RX0 yX0_lastWordsOf wsX0_lastWordsOf) := goodIn_app (goodIn_of _ (by decide +kernel)) ggX7_rateOfHeir_X0_lastWordsOf
theorem dX7_rateOfHeir_0 : decode cX7_rateOfHeir 0 = .ok (.aload_n 0, 1) := by decide +kernel
theorem dX7_rateOfHeir_1 : decode cX7_rateOfHeir 1 = .ok (.dup, 1) := by decide +kernel
theorem dX7_rateOfHeir_2 : decode cX7_rateOfHeir 2 = .ok (.getfield 273, 3) := by decide +kernel
theorem dX7_rateOfHeir_5 : decode cX7_rateOfHeir 5 = .ok (.ldc2_w 285, 3) := by decide +kernel
theorem dX7_rateOfHeir_8 : decode cX7_rateOfHeir 8 = .ok (.ladd, 1) := by decide +kernel
theorem dX7_rateOfHeir_9 : decode cX7_rateOfHeir 9 = .ok (.putfield 273, 3) := by decide +kernel
theorem dX7_rateOfHeir_12 : decode cX7_rateOfHeir 12 = .ok (.aload_n 0, 1) := by decide +kernel
theorem dX7_rateOfHeir_13 : decode cX7_rateOfHeir 13 = .ok (.iload_n 1, 1) := by decide +kernel
theorem dX7_rateOfHeir_14 : decode cX7_rateOfHeir 14 = .ok (.invokevirtual 238, 3) := by decide +kernel
theorem dX7_rateOfHeir_17 : decode cX7_rateOfHeir 17 = .ok (.aload_n 0, 1) := by decide +kernel
theorem dX7_rateOfHeir_18 : decode cX7_rateOfHeir 18 = .ok (.getfield 29, 3) := by decide +kernel
theorem dX7_rateOfHeir_21 : decode cX7_rateOfHeir 21 = .ok (.iload_n 1, 1) := by decide +kernel
theorem dX7_rateOfHeir_22 : decode cX7_rateOfHeir 22 = .ok (.invokevirtual 234, 3) := by decide +kernel
theorem dX7_rateOfHeir_25 : decode cX7_rateOfHeir 25 = .ok (.iadd, 1) := by decide +kernel
theorem dX7_rateOfHeir_26 : decode cX7_rateOfHeir 26 = .ok (.ireturn, 1) := by decide +kernel
theorem dX7_power_0 : decode cX7_power 0 = .ok (.iconst 1, 1) := by decide +kernel
theorem dX7_power_1 : decode cX7_power 1 = .ok (.istore_n 2, 1) := by decide +kernel
theorem dX7_power_2 : decode cX7_power 2 = .ok (.iconst 0, 1) := by decide +kernel
theorem dX7_power_3 : decode cX7_power 3 = .ok (.istore_n 3, 1) := by decide +kernel
theorem dX7_power_4 : decode cX7_power 4 = .ok (.iload_n 3, 1) := by decide +kernel
theorem dX7_power_5 : decode cX7_power 5 = .ok (.iload_n 1, 1) := by decide +kernel
theorem dX7_power_6 : decode cX7_power 6 = .ok (.if_icmp .ge 13, 3) := by decide +kernel
theorem dX7_power_9 : decode cX7_power 9 = .ok (.iload_n 2, 1) := by decide +kernel
theorem dX7_power_10 : decode cX7_power 10 = .ok (.iload_n 0, 1) := by decide +kernel
theorem dX7_power_11 : decode cX7_power 11 = .ok (.imul, 1) := by decide +kernel
theorem dX7_power_12 : decode cX7_power 12 = .ok (.istore_n 2, 1) := by decide +kernel
theorem dX7_power_13 : decode cX7_power 13 = .ok (.iinc 3 1, 3) := by decide +kernel
theorem dX7_power_16 : decode cX7_power 16 = .ok (.goto (-12), 3) := by decide +kernel
theorem dX7_power_19 : decode cX7_power 19 = .ok (.iload_n 2, 1) := by decide +kernel
theorem dX7_power_20 : decode cX7_power 20 = .ok (.ireturn, 1) := by decide +kernel
theorem dX7_commonDivisor_0 : decode cX7_commonDivisor 0 = .ok (.iload_n 0, 1) := by decide +kernel
theorem dX7_commonDivisor_1 : decode cX7_commonDivisor 1 = .ok (.istore_n 2, 1) := by decide +kernel
theorem dX7_commonDivisor_2 : decode cX7_commonDivisor 2 = .ok (.iload_n 1, 1) := by decide +kernel
theorem dX7_commonDivisor_3 : decode cX7_commonDivisor 3 = .ok (.istore_n 3, 1) := by decide +kernel
theorem dX7_commonDivisor_4 : decode cX7_commonDivisor 4 = .ok (.iconst 0, 1) := by decide +kernel
theorem dX7_commonDivisor_5 : decode cX7_commonDivisor 5 = .ok (.istore 4, 2) := by decide +kernel
theorem dX7_commonDivisor_7 : decode cX7_commonDivisor 7 = .ok (.iload 4, 2) := by decide +kernel
theorem dX7_commonDivisor_9 : decode cX7_commonDivisor 9 = .ok (.iload_n 1, 1) := by decide +kernel
theorem dX7_commonDivisor_10 : decode cX7_commonDivisor 10 = .ok (.if_icmp .gt 23, 3) := by decide +kernel
theorem dX7_commonDivisor_13 : decode cX7_commonDivisor 13 = .ok (.iload_n 3, 1) := by decide +kernel
theorem dX7_commonDivisor_14 : decode cX7_commonDivisor 14 = .ok (.ifCond .eq 19, 3) := by decide +kernel
theorem dX7_commonDivisor_17 : decode cX7_commonDivisor 17 = .ok (.iload_n 2, 1) := by decide +kernel
theorem dX7_commonDivisor_18 : decode cX7_commonDivisor 18 = .ok (.iload_n 3, 1) := by decide +kernel
theorem dX7_commonDivisor_19 : decode cX7_commonDivisor 19 = .ok (.irem, 1) := by decide +kernel
theorem dX7_commonDivisor_20 : decode cX7_commonDivisor 20 = .ok (.istore 5, 2) := by decide +kernel
theorem dX7_commonDivisor_22 : decode cX7_commonDivisor 22 = .ok (.iload_n 3, 1) := by decide +kernel
theorem dX7_commonDivisor_23 : decode cX7_commonDivisor 23 = .ok (.istore_n 2, 1) := by decide +kernel
theorem dX7_commonDivisor_24 : decode cX7_commonDivisor 24 = .ok (.iload 5, 2) := by decide +kernel
theorem dX7_commonDivisor_26 : decode cX7_commonDivisor 26 = .ok (.istore_n 3, 1) := by decide +kernel
theorem dX7_commonDivisor_27 : decode cX7_commonDivisor 27 = .ok (.iinc 4 1, 3) := by decide +kernel
theorem dX7_commonDivisor_30 : decode cX7_commonDivisor 30 = .ok (.goto (-23), 3) := by decide +kernel
theorem dX7_commonDivisor_33 : decode cX7_commonDivisor 33 = .ok (.iload_n 2, 1) := by decide +kernel
theorem dX7_commonDivisor_34 : decode cX7_commonDivisor 34 = .ok (.ireturn, 1) := by decide +kernel
theorem dX8_in_0 : decode cX8_in 0 = .ok (.lload_n 0, 1) := by decide +kernel
theorem dX8_in_1 : decode cX8_in 1 = .ok (.lload_n 2, 1) := by decide +kernel
theorem dX8_in_2 : decode cX8_in 2 = .ok (.lcmp, 1) := by decide +kernel
theorem dX8_in_3 : decode cX8_in 3 = .ok (.ifCond .lt 14, 3) := by decide +kernel
theorem dX8_in_6 : decode cX8_in 6 = .ok (.lload_n 0, 1) := by decide +kernel
theorem dX8_in_7 : decode cX8_in 7 = .ok (.lload 4, 2) := by decide +kernel
theorem dX8_in_9 : decode cX8_in 9 = .ok (.lcmp, 1) := by decide +kernel
theorem dX8_in_10 : decode cX8_in 10 = .ok (.ifCond .gt 7, 3) := by decide +kernel
theorem dX8_in_13 : decode cX8_in 13 = .ok (.iconst 1, 1) := by decide +kernel
theorem dX8_in_14 : decode cX8_in 14 = .ok (.goto 4, 3) := by decide +kernel
theorem dX8_in_17 : decode cX8_in 17 = .ok (.iconst 0, 1) := by decide +kernel
theorem dX8_in_18 : decode cX8_in 18 = .ok (.ireturn, 1) := by decide +kernel
set_option maxRecDepth 20000 in
theorem ggX8_init_X8_plain : GoodIn wsX8_init wsX8_plain := goodIn_r _ [17, 6, 24, 25, 26, 27, 28, 29, 30, 31, 32, 33, 34, 35, 36, 37, 38, 39, 40, 41] (by decide +kernel) (by decide +kernel)
set_option maxRecDepth 20000 in
theorem gX8_init_X8_plain : GoodIn wsX8_init (wsV RX8 34 RX8 yX8_plain wsX8_plain) := goodIn_app (goodIn_of _ (by decide +kernel)) ggX8_init_X8_plain
set_option maxRecDepth 20000 in
theorem ggX8_init_X8_takes : GoodIn wsX8_init wsX8_takes := goodIn_r _ [21, 7, 6, 8, 22, 23, 12, 24, 25, 26, 27, 28, 29, 30, 31, 32, 33, 34, 35, 36, 37, 38, 39, 40, 41] (by decide +kernel) (by decide +kernel)
set_option maxRecDepth 20000 in
theorem gX8_init_X8_takes : GoodIn wsX8_init (wsV RX8 37 RX8 yX8_takes wsX8_takes) := goodIn_app (goodIn_of _ (by decide +kernel)) ggX8_init_X8_takes
theorem dX8_init_0 : decode cX8_init 0 = .ok (.aload_n 0, 1) := by decide +kernel
theorem dX8_init_1 : decode cX8_init 1 = .ok (.invokespecial 1, 3) := by decide +kernel
theorem dX8_init_4 : decode cX8_init 4 = .ok (.aload_n 0, 1) := by decide +kernel
theorem dX8_init_5 : decode cX8_init 5 = .ok (.sipush 200, 3) := by decide +kernel
theorem dX8_init_8 : decode cX8_init 8 = .ok (.newarray .int, 2) := by decide +kernel
theorem dX8_init_10 : decode cX8_init 10 = .ok (.putfield 7, 3) := by decide +kernel
theorem dX8_init_13 : decode cX8_init 13 = .ok (.aload_n 0, 1) := by decide +kernel
theorem dX8_init_14 : decode cX8_init 14 = .ok (.bipush 45, 2) := by decide +kernel
theorem dX8_init_16 : decode cX8_init 16 = .ok (.newarray .int, 2) := by decide +kernel
theorem dX8_init_18 : decode cX8_init 18 = .ok (.putfield 13, 3) := by decide +kernel
theorem dX8_init_21 : decode cX8_init 21 = .ok (.aload_n 0, 1) := by decide +kernel
theorem dX8_init_22 : decode cX8_init 22 = .ok (.bipush 45, 2) := by decide +kernel
theorem dX8_init_24 : decode cX8_init 24 = .ok (.newarray .int, 2) := by decide +kernel
theorem dX8_init_26 : decode cX8_init 26 = .ok (.putfield 16, 3) := by decide +kernel
theorem dX8_init_29 : decode cX8_init 29 = .ok (.aload_n 0, 1) := by decide +kernel
theorem dX8_init_30 : decode cX8_init 30 = .ok (.bipush 46, 2) := by decide +kernel
theorem dX8_init_32 : decode cX8_init 32 = .ok (.newarray .int, 2) := by decide +kernel
theorem dX8_init_34 : decode cX8_init 34 = .ok (.putfield 19, 3) := by decide +kernel
theorem dX8_init_37 : decode cX8_init 37 = .ok (.aload_n 0, 1) := by decide +kernel
theorem dX8_init_38 : decode cX8_init 38 = .ok (.sipush 460, 3) := by decide +kernel
theorem dX8_init_41 : decode cX8_init 41 = .ok (.newarray .int, 2) := by decide +kernel
theorem dX8_init_43 : decode cX8_init 43 = .ok (.putfield 22, 3) := by decide +kernel
theorem dX8_init_46 : decode cX8_init 46 = .ok (.aload_n 0, 1) := by decide +kernel
theorem dX8_init_47 : decode cX8_init 47 = .ok (.bipush 46, 2) := by decide +kernel
theorem dX8_init_49 : decode cX8_init 49 = .ok (.newarray .int, 2) := by decide +kernel
theorem dX8_init_51 : decode cX8_init 51 = .ok (.putfield 25, 3) := by decide +kernel
theorem dX8_init_54 : decode cX8_init 54 = .ok (.aload_n 0, 1) := by decide +kernel
theorem dX8_init_55 : decode cX8_init 55 = .ok (.bipush 15, 2) := by decide +kernel
theorem dX8_init_57 : decode cX8_init 57 = .ok (.newarray .int, 2) := by decide +kernel
theorem dX8_init_59 : decode cX8_init 59 = .ok (.putfield 28, 3) := by decide +kernel
theorem dX8_init_62 : decode cX8_init 62 = .ok (.aload_n 0, 1) := by decide +kernel
theorem dX8_init_63 : decode cX8_init 63 = .ok (.bipush 94, 2) := by decide +kernel
theorem dX8_init_65 : decode cX8_init 65 = .ok (.newarray .int, 2) := by decide +kernel
theorem dX8_init_67 : decode cX8_init 67 = .ok (.putfield 31, 3) := by decide +kernel
theorem dX8_init_70 : decode cX8_init 70 = .ok (.aload_n 0, 1) := by decide +kernel
theorem dX8_init_71 : decode cX8_init 71 = .ok (.invokevirtual 34, 3) := by decide +kernel
theorem dX8_init_74 : decode cX8_init 74 = .ok (.aload_n 0, 1) := by decide +kernel
theorem dX8_init_75 : decode cX8_init 75 = .ok (.invokevirtual 37, 3) := by decide +kernel
theorem dX8_init_78 : decode cX8_init 78 = .ok (.return_, 1) := by decide +kernel
set_option maxRecDepth 20000 in
theorem ggX8_type_X8_in : GoodIn wsX8_type wsX8_in := goodIn_r _ [7] (by decide +kernel) (by decide +kernel)
set_option maxRecDepth 20000 in
theorem gX8_type_X8_in : GoodIn wsX8_type (va_wsS RX8 42 yX8_in wsX8_in) := goodIn_app (goodIn_of _ (by decide +kernel)) ggX8_type_X8_in
theorem dX8_type_0 : decode cX8_type 0 = .ok (.iload_n 1, 1) := by decide +kernel
theorem dX8_type_1 : decode cX8_type 1 = .ok (.i2l, 1) := by decide +kernel
theorem dX8_type_2 : decode cX8_type 2 = .ok (.lconst 0, 1) := by decide +kernel
theorem dX8_type_3 : decode cX8_type 3 = .ok (.ldc2_w 40, 3) := by decide +kernel
theorem dX8_type_6 : decode cX8_type 6 = .ok (.invokestatic 42, 3) := by decide +kernel
theorem dX8_type_9 : decode cX8_type 9 = .ok (.ifCond .ne 5, 3) := by decide +kernel
theorem dX8_type_12 : decode cX8_type 12 = .ok (.iconst (-1), 1) := by decide +kernel
theorem dX8_type_13 : decode cX8_type 13 = .ok (.ireturn, 1) := by decide +kernel
theorem dX8_type_14 : decode cX8_type 14 = .ok (.aload_n 0, 1) := by decide +kernel
theorem dX8_type_15 : decode cX8_type 15 = .ok (.getfield 46, 3) := by decide +kernel
theorem dX8_type_18 : decode cX8_type 18 = .ok (.sipush 200, 3) := by decide +kernel
theorem dX8_type_21 : decode cX8_type 21 = .ok (.if_icmp .ne 6, 3) := by decide +kernel
theorem dX8_type_24 : decode cX8_type 24 = .ok (.bipush (-3), 2) := by decide +kernel
theorem dX8_type_26 : decode cX8_type 26 = .ok (.ireturn, 1) := by decide +kernel
theorem dX8_type_27 : decode cX8_type 27 = .ok (.aload_n 0, 1) := by decide +kernel
theorem dX8_type_28 : decode cX8_type 28 = .ok (.getfield 7, 3) := by decide +kernel
theorem dX8_type_31 : decode cX8_type 31 = .ok (.aload_n 0, 1) := by decide +kernel
theorem dX8_type_32 : decode cX8_type 32 = .ok (.getfield 46, 3) := by decide +kernel
theorem dX8_type_35 : decode cX8_type 35 = .ok (.iload_n 1, 1) := by decide +kernel
theorem dX8_type_36 : decode cX8_type 36 = .ok (.iastore, 1) := by decide +kernel
theorem dX8_type_37 : decode cX8_type 37 = .ok (.aload_n 0, 1) := by decide +kernel
theorem dX8_type_38 : decode cX8_type 38 = .ok (.dup, 1) := by decide +kernel
theorem dX8_type_39 : decode cX8_type 39 = .ok (.getfield 46, 3) := by decide +kernel
theorem dX8_type_42 : decode cX8_type 42 = .ok (.iconst 1, 1) := by decide +kernel
theorem dX8_type_43 : decode cX8_type 43 = .ok (.iadd, 1) := by decide +kernel
theorem dX8_type_44 : decode cX8_type 44 = .ok (.putfield 46, 3) := by decide +kernel
theorem dX8_type_47 : decode cX8_type 47 = .ok (.aload_n 0, 1) := by decide +kernel
theorem dX8_type_48 : decode cX8_type 48 = .ok (.getfield 46, 3) := by decide +kernel
theorem dX8_type_51 : decode cX8_type 51 = .ok (.ireturn, 1) := by decide +kernel
theorem dX8_clear_0 : decode cX8_clear 0 = .ok (.aload_n 0, 1) := by decide +kernel
theorem dX8_clear_1 : decode cX8_clear 1 = .ok (.getfield 46, 3) := by decide +kernel
theorem dX8_clear_4 : decode cX8_clear 4 = .ok (.istore_n 1, 1) := by decide +kernel
theorem dX8_clear_5 : decode cX8_clear 5 = .ok (.aload_n 0, 1) := by decide +kernel
theorem dX8_clear_6 : decode cX8_clear 6 = .ok (.iconst 0, 1) := by decide +kernel
theorem dX8_clear_7 : decode cX8_clear 7 = .ok (.putfield 46, 3) := by decide +kernel
theorem dX8_clear_10 : decode cX8_clear 10 = .ok (.iload_n 1, 1) := by decide +kernel
theorem dX8_clear_11 : decode cX8_clear 11 = .ok (.ireturn, 1) := by decide +kernel
set_option maxRecDepth 20000 in
theorem ggX8_isFigure_X8_in : GoodIn wsX8_isFigure wsX8_in := goodIn_r _ [6] (by decide +kernel) (by decide +kernel)
set_option maxRecDepth 20000 in
theorem gX8_isFigure_X8_in : GoodIn wsX8_isFigure (va_wsS RX8 42 yX8_in wsX8_in) := goodIn_app (goodIn_of _ (by decide +kernel)) ggX8_isFigure_X8_in
theorem dX8_isFigure_0 : decode cX8_isFigure 0 = .ok (.iload_n 0, 1) := by decide +kernel
theorem dX8_isFigure_1 : decode cX8_isFigure 1 = .ok (.i2l, 1) := by decide +kernel
theorem dX8_isFigure_2 : decode cX8_isFigure 2 = .ok (.ldc2_w 50, 3) := by decide +kernel
theorem dX8_isFigure_5 : decode cX8_isFigure 5 = .ok (.ldc2_w 52, 3) := by decide +kernel
theorem dX8_isFigure_8 : decode cX8_isFigure 8 = .ok (.invokestatic 42, 3) := by decide +kernel
theorem dX8_isFigure_11 : decode cX8_isFigure 11 = .ok (.ireturn, 1) := by decide +kernel
set_option maxRecDepth 20000 in
theorem ggX8_reads_X8_isFigure : GoodIn wsX8_reads wsX8_isFigure := goodIn_r _ [10, 11, 12, 13, 14, 9, 15] (by decide +kernel) (by decide +kernel)
set_option maxRecDepth 20000 in
theorem gX8_reads_X8_isFigure : GoodIn wsX8_reads (va_wsS RX8 63 yX8_isFigure wsX8_isFigure) := goodIn_app (goodIn_of _ (by decide +kernel)) ggX8_reads_X8_isFigure
theorem dX8_reads_0 : decode cX8_reads 0 = .ok (.aload_n 0, 1) := by decide +kernel
theorem dX8_reads_1 : decode cX8_reads 1 = .ok (.getfield 54, 3) := by decide +kernel
theorem dX8_reads_4 : decode cX8_reads 4 = .ok (.aload_n 0, 1) := by decide +kernel
theorem dX8_reads_5 : decode cX8_reads 5 = .ok (.getfield 46, 3) := by decide +kernel
theorem dX8_reads_8 : decode cX8_reads 8 = .ok (.if_icmp .ge 30, 3) := by decide +kernel
theorem dX8_reads_11 : decode cX8_reads 11 = .ok (.aload_n 0, 1) := by decide +kernel
theorem dX8_reads_12 : decode cX8_reads 12 = .ok (.getfield 7, 3) := by decide +kernel
theorem dX8_reads_15 : decode cX8_reads 15 = .ok (.aload_n 0, 1) := by decide +kernel
theorem dX8_reads_16 : decode cX8_reads 16 = .ok (.getfield 54, 3) := by decide +kernel
theorem dX8_reads_19 : decode cX8_reads 19 = .ok (.iaload, 1) := by decide +kernel
theorem dX8_reads_20 : decode cX8_reads 20 = .ok (.bipush 32, 2) := by decide +kernel
theorem dX8_reads_22 : decode cX8_reads 22 = .ok (.if_icmp .ne 16, 3) := by decide +kernel
theorem dX8_reads_25 : decode cX8_reads 25 = .ok (.aload_n 0, 1) := by decide +kernel
theorem dX8_reads_26 : decode cX8_reads 26 = .ok (.dup, 1) := by decide +kernel
theorem dX8_reads_27 : decode cX8_reads 27 = .ok (.getfield 54, 3) := by decide +kernel
theorem dX8_reads_30 : decode cX8_reads 30 = .ok (.iconst 1, 1) := by decide +kernel
theorem dX8_reads_31 : decode cX8_reads 31 = .ok (.iadd, 1) := by decide +kernel
theorem dX8_reads_32 : decode cX8_reads 32 = .ok (.putfield 54, 3) := by decide +kernel
theorem dX8_reads_35 : decode cX8_reads 35 = .ok (.goto (-35), 3) := by decide +kernel
theorem dX8_reads_38 : decode cX8_reads 38 = .ok (.aload_n 0, 1) := by decide +kernel
theorem dX8_reads_39 : decode cX8_reads 39 = .ok (.aload_n 0, 1) := by decide +kernel
theorem dX8_reads_40 : decode cX8_reads 40 = .ok (.getfield 54, 3) := by decide +kernel
theorem dX8_reads_43 : decode cX8_reads 43 = .ok (.putfield 57, 3) := by decide +kernel
theorem dX8_reads_46 : decode cX8_reads 46 = .ok (.aload_n 0, 1) := by decide +kernel
theorem dX8_reads_47 : decode cX8_reads 47 = .ok (.iconst 0, 1) := by decide +kernel
theorem dX8_reads_48 : decode cX8_reads 48 = .ok (.putfield 60, 3) := by decide +kernel
theorem dX8_reads_51 : decode cX8_reads 51 = .ok (.aload_n 0, 1) := by decide +kernel
theorem dX8_reads_52 : decode cX8_reads 52 = .ok (.getfield 54, 3) := by decide +kernel
theorem dX8_reads_55 : decode cX8_reads 55 = .ok (.aload_n 0, 1) := by decide +kernel
theorem dX8_reads_56 : decode cX8_reads 56 = .ok (.getfield 46, 3) := by decide +kernel
theorem dX8_reads_59 : decode cX8_reads 59 = .ok (.if_icmp .ge 150, 3) := by decide +kernel
theorem dX8_reads_62 : decode cX8_reads 62 = .ok (.aload_n 0, 1) := by decide +kernel
theorem dX8_reads_63 : decode cX8_reads 63 = .ok (.getfield 7, 3) := by decide +kernel
theorem dX8_reads_66 : decode cX8_reads 66 = .ok (.aload_n 0, 1) := by decide +kernel
theorem dX8_reads_67 : decode cX8_reads 67 = .ok (.getfield 54, 3) := by decide +kernel
theorem dX8_reads_70 : decode cX8_reads 70 = .ok (.iaload, 1) := by decide +kernel
theorem dX8_reads_71 : decode cX8_reads 71 = .ok (.invokestatic 63, 3) := by decide +kernel
theorem dX8_reads_74 : decode cX8_reads 74 = .ok (.ifCond .eq 135, 3) := by decide +kernel
theorem dX8_reads_77 : decode cX8_reads 77 = .ok (.aload_n 0, 1) := by decide +kernel
theorem dX8_reads_78 : decode cX8_reads 78 = .ok (.iconst 0, 1) := by decide +kernel
theorem dX8_reads_79 : decode cX8_reads 79 = .ok (.putfield 67, 3) := by decide +kernel
theorem dX8_reads_82 : decode cX8_reads 82 = .ok (.aload_n 0, 1) := by decide +kernel
theorem dX8_reads_83 : decode cX8_reads 83 = .ok (.getfield 54, 3) := by decide +kernel
theorem dX8_reads_86 : decode cX8_reads 86 = .ok (.aload_n 0, 1) := by decide +kernel
theorem dX8_reads_87 : decode cX8_reads 87 = .ok (.getfield 46, 3) := by decide +kernel
theorem dX8_reads_90 : decode cX8_reads 90 = .ok (.if_icmp .ge 71, 3) := by decide +kernel
theorem dX8_reads_93 : decode cX8_reads 93 = .ok (.aload_n 0, 1) := by decide +kernel
theorem dX8_reads_94 : decode cX8_reads 94 = .ok (.getfield 7, 3) := by decide +kernel
theorem dX8_reads_97 : decode cX8_reads 97 = .ok (.aload_n 0, 1) := by decide +kernel
theorem dX8_reads_98 : decode cX8_reads 98 = .ok (.getfield 54, 3) := by decide +kernel
theorem dX8_reads_101 : decode cX8_reads 101 = .ok (.iaload, 1) := by decide +kernel
theorem dX8_reads_102 : decode cX8_reads 102 = .ok (.invokestatic 63, 3) := by decide +kernel
theorem dX8_reads_105 : decode cX8_reads 105 = .ok (.ifCond .eq 56, 3) := by decide +kernel
theorem dX8_reads_108 : decode cX8_reads 108 = .ok (.aload_n 0, 1) := by decide +kernel
theorem dX8_reads_109 : decode cX8_reads 109 = .ok (.aload_n 0, 1) := by decide +kernel
theorem dX8_reads_110 : decode cX8_reads 110 = .ok (.getfield 67, 3) := by decide +kernel
theorem dX8_reads_113 : decode cX8_reads 113 = .ok (.bipush 20, 2) := by decide +kernel
theorem dX8_reads_115 : decode cX8_reads 115 = .ok (.if_icmp .le 10, 3) := by decide +kernel
theorem dX8_reads_118 : decode cX8_reads 118 = .ok (.aload_n 0, 1) := by decide +kernel
theorem dX8_reads_119 : decode cX8_reads 119 = .ok (.getfield 67, 3) := by decide +kernel
theorem dX8_reads_122 : decode cX8_reads 122 = .ok (.goto 23, 3) := by decide +kernel
theorem dX8_reads_125 : decode cX8_reads 125 = .ok (.bipush 10, 2) := by decide +kernel
theorem dX8_reads_127 : decode cX8_reads 127 = .ok (.aload_n 0, 1) := by decide +kernel
theorem dX8_reads_128 : decode cX8_reads 128 = .ok (.getfield 67, 3) := by decide +kernel
theorem dX8_reads_131 : decode cX8_reads 131 = .ok (.imul, 1) := by decide +kernel
theorem dX8_reads_132 : decode cX8_reads 132 = .ok (.aload_n 0, 1) := by decide +kernel
theorem dX8_reads_133 : decode cX8_reads 133 = .ok (.getfield 7, 3) := by decide +kernel
theorem dX8_reads_136 : decode cX8_reads 136 = .ok (.aload_n 0, 1) := by decide +kernel
theorem dX8_reads_137 : decode cX8_reads 137 = .ok (.getfield 54, 3) := by decide +kernel
theorem dX8_reads_140 : decode cX8_reads 140 = .ok (.iaload, 1) := by decide +kernel
theorem dX8_reads_141 : decode cX8_reads 141 = .ok (.iadd, 1) := by decide +kernel
theorem dX8_reads_142 : decode cX8_reads 142 = .ok (.bipush 48, 2) := by decide +kernel
theorem dX8_reads_144 : decode cX8_reads 144 = .ok (.isub, 1) := by decide +kernel
theorem dX8_reads_145 : decode cX8_reads 145 = .ok (.putfield 67, 3) := by decide +kernel
theorem dX8_reads_148 : decode cX8_reads 148 = .ok (.aload_n 0, 1) := by decide +kernel
theorem dX8_reads_149 : decode cX8_reads 149 = .ok (.dup, 1) := by decide +kernel
theorem dX8_reads_150 : decode cX8_reads 150 = .ok (.getfield 54, 3) := by decide +kernel
theorem dX8_reads_153 : decode cX8_reads 153 = .ok (.iconst 1, 1) := by decide +kernel
theorem dX8_reads_154 : decode cX8_reads 154 = .ok (.iadd, 1) := by decide +kernel
theorem dX8_reads_155 : decode cX8_reads 155 = .ok (.putfield 54, 3) := by decide +kernel
theorem dX8_reads_158 : decode cX8_reads 158 = .ok (.goto (-76), 3) := by decide +kernel
theorem dX8_reads_161 : decode cX8_reads 161 = .ok (.aload_n 0, 1) := by decide +kernel
theorem dX8_reads_162 : decode cX8_reads 162 = .ok (.aload_n 0, 1) := by decide +kernel
theorem dX8_reads_163 : decode cX8_reads 163 = .ok (.getfield 67, 3) := by decide +kernel
theorem dX8_reads_166 : decode cX8_reads 166 = .ok (.bipush 20, 2) := by decide +kernel
theorem dX8_reads_168 : decode cX8_reads 168 = .ok (.if_icmp .gt 30, 3) := by decide +kernel
theorem dX8_reads_171 : decode cX8_reads 171 = .ok (.aload_n 0, 1) := by decide +kernel
theorem dX8_reads_172 : decode cX8_reads 172 = .ok (.getfield 54, 3) := by decide +kernel
theorem dX8_reads_175 : decode cX8_reads 175 = .ok (.aload_n 0, 1) := by decide +kernel
theorem dX8_reads_176 : decode cX8_reads 176 = .ok (.getfield 57, 3) := by decide +kernel
theorem dX8_reads_179 : decode cX8_reads 179 = .ok (.isub, 1) := by decide +kernel
theorem dX8_reads_180 : decode cX8_reads 180 = .ok (.iconst 1, 1) := by decide +kernel
theorem dX8_reads_181 : decode cX8_reads 181 = .ok (.if_icmp .le 21, 3) := by decide +kernel
theorem dX8_reads_184 : decode cX8_reads 184 = .ok (.aload_n 0, 1) := by decide +kernel
theorem dX8_reads_185 : decode cX8_reads 185 = .ok (.getfield 7, 3) := by decide +kernel
theorem dX8_reads_188 : decode cX8_reads 188 = .ok (.aload_n 0, 1) := by decide +kernel
theorem dX8_reads_189 : decode cX8_reads 189 = .ok (.getfield 57, 3) := by decide +kernel
theorem dX8_reads_192 : decode cX8_reads 192 = .ok (.iaload, 1) := by decide +kernel
theorem dX8_reads_193 : decode cX8_reads 193 = .ok (.bipush 48, 2) := by decide +kernel
theorem dX8_reads_195 : decode cX8_reads 195 = .ok (.if_icmp .ne 7, 3) := by decide +kernel
theorem dX8_reads_198 : decode cX8_reads 198 = .ok (.iconst 4, 1) := by decide +kernel
theorem dX8_reads_199 : decode cX8_reads 199 = .ok (.goto 4, 3) := by decide +kernel
theorem dX8_reads_202 : decode cX8_reads 202 = .ok (.iconst 2, 1) := by decide +kernel
theorem dX8_reads_203 : decode cX8_reads 203 = .ok (.putfield 60, 3) := by decide +kernel
theorem dX8_reads_206 : decode cX8_reads 206 = .ok (.goto 77, 3) := by decide +kernel
theorem dX8_reads_209 : decode cX8_reads 209 = .ok (.aload_n 0, 1) := by decide +kernel
theorem dX8_reads_210 : decode cX8_reads 210 = .ok (.getfield 54, 3) := by decide +kernel
theorem dX8_reads_213 : decode cX8_reads 213 = .ok (.aload_n 0, 1) := by decide +kernel
theorem dX8_reads_214 : decode cX8_reads 214 = .ok (.getfield 46, 3) := by decide +kernel
theorem dX8_reads_217 : decode cX8_reads 217 = .ok (.if_icmp .ge 66, 3) := by decide +kernel
theorem dX8_reads_220 : decode cX8_reads 220 = .ok (.aload_n 0, 1) := by decide +kernel
theorem dX8_reads_221 : decode cX8_reads 221 = .ok (.aload_n 0, 1) := by decide +kernel
theorem dX8_reads_222 : decode cX8_reads 222 = .ok (.getfield 7, 3) := by decide +kernel
theorem dX8_reads_225 : decode cX8_reads 225 = .ok (.aload_n 0, 1) := by decide +kernel
theorem dX8_reads_226 : decode cX8_reads 226 = .ok (.getfield 54, 3) := by decide +kernel
theorem dX8_reads_229 : decode cX8_reads 229 = .ok (.iaload, 1) := by decide +kernel
theorem dX8_reads_230 : decode cX8_reads 230 = .ok (.putfield 67, 3) := by decide +kernel
theorem dX8_reads_233 : decode cX8_reads 233 = .ok (.aload_n 0, 1) := by decide +kernel
theorem dX8_reads_234 : decode cX8_reads 234 = .ok (.aload_n 0, 1) := by decide +kernel
theorem dX8_reads_235 : decode cX8_reads 235 = .ok (.getfield 67, 3) := by decide +kernel
theorem dX8_reads_238 : decode cX8_reads 238 = .ok (.bipush 119, 2) := by decide +kernel
theorem dX8_reads_240 : decode cX8_reads 240 = .ok (.if_icmp .eq 12, 3) := by decide +kernel
theorem dX8_reads_243 : decode cX8_reads 243 = .ok (.aload_n 0, 1) := by decide +kernel
theorem dX8_reads_244 : decode cX8_reads 244 = .ok (.getfield 67, 3) := by decide +kernel
theorem dX8_reads_247 : decode cX8_reads 247 = .ok (.bipush 116, 2) := by decide +kernel
theorem dX8_reads_249 : decode cX8_reads 249 = .ok (.if_icmp .ne 7, 3) := by decide +kernel
theorem dX8_reads_252 : decode cX8_reads 252 = .ok (.iconst 1, 1) := by decide +kernel
theorem dX8_reads_253 : decode cX8_reads 253 = .ok (.goto 17, 3) := by decide +kernel
theorem dX8_reads_256 : decode cX8_reads 256 = .ok (.aload_n 0, 1) := by decide +kernel
theorem dX8_reads_257 : decode cX8_reads 257 = .ok (.getfield 67, 3) := by decide +kernel
theorem dX8_reads_260 : decode cX8_reads 260 = .ok (.bipush 59, 2) := by decide +kernel
theorem dX8_reads_262 : decode cX8_reads 262 = .ok (.if_icmp .ne 7, 3) := by decide +kernel
theorem dX8_reads_265 : decode cX8_reads 265 = .ok (.iconst 3, 1) := by decide +kernel
theorem dX8_reads_266 : decode cX8_reads 266 = .ok (.goto 4, 3) := by decide +kernel
theorem dX8_reads_269 : decode cX8_reads 269 = .ok (.iconst 4, 1) := by decide +kernel
theorem dX8_reads_270 : decode cX8_reads 270 = .ok (.putfield 60, 3) := by decide +kernel
theorem dX8_reads_273 : decode cX8_reads 273 = .ok (.aload_n 0, 1) := by decide +kernel
theorem dX8_reads_274 : decode cX8_reads 274 = .ok (.dup, 1) := by decide +kernel
theorem dX8_reads_275 : decode cX8_reads 275 = .ok (.getfield 54, 3) := by decide +kernel
theorem dX8_reads_278 : decode cX8_reads 278 = .ok (.iconst 1, 1) := by decide +kernel
theorem dX8_reads_279 : decode cX8_reads 279 = .ok (.iadd, 1) := by decide +kernel
theorem dX8_reads_280 : decode cX8_reads 280 = .ok (.putfield 54, 3) := by decide +kernel
theorem dX8_reads_283 : decode cX8_reads 283 = .ok (.return_, 1) := by decide +kernel
set_option maxRecDepth 20000 in
theorem ggX8_number_X8_reads : GoodIn wsX8_number wsX8_reads := goodIn_r _ [7, 8, 9, 10, 11, 1, 2, 12, 13, 6, 14, 15, 16, 17, 18, 19, 20, 21, 22, 23, 24, 25, 26, 27, 28, 29, 30, 31, 32, 33, 34, 35, 36, 37] (by decide +kernel) (by decide +kernel)
set_option maxRecDepth 20000 in
theorem gX8_number_X8_reads : GoodIn wsX8_number (wsV RX8 70 RX8 yX8_reads wsX8_reads) := goodIn_app (goodIn_of _ (by decide +kernel)) ggX8_number_X8_reads
set_option maxRecDepth 20000 in
theorem ggX8_number_X8_in : GoodIn wsX8_number wsX8_in := goodIn_r _ [19] (by decide +kernel) (by decide +kernel)
set_option maxRecDepth 20000 in
theorem gX8_number_X8_in : GoodIn wsX8_number (va_wsS RX8 42 yX8_in wsX8_in) := goodIn_app (goodIn_of _ (by decide +kernel)) ggX8_number_X8_in
theorem dX8_number_0 : decode cX8_number 0 = .ok (.aload_n 0, 1) := by decide +kernel
theorem dX8_number_1 : decode cX8_number 1 = .ok (.invokevirtual 70, 3) := by decide +kernel
theorem dX8_number_4 : decode cX8_number 4 = .ok (.aload_n 0, 1) := by decide +kernel
theorem dX8_number_5 : decode cX8_number 5 = .ok (.getfield 60, 3) := by decide +kernel
theorem dX8_number_8 : decode cX8_number 8 = .ok (.iconst 2, 1) := by decide +kernel
theorem dX8_number_9 : decode cX8_number 9 = .ok (.if_icmp .ne 22, 3) := by decide +kernel
theorem dX8_number_12 : decode cX8_number 12 = .ok (.aload_n 0, 1) := by decide +kernel
theorem dX8_number_13 : decode cX8_number 13 = .ok (.getfield 67, 3) := by decide +kernel
theorem dX8_number_16 : decode cX8_number 16 = .ok (.i2l, 1) := by decide +kernel
theorem dX8_number_17 : decode cX8_number 17 = .ok (.iload_n 1, 1) := by decide +kernel
theorem dX8_number_18 : decode cX8_number 18 = .ok (.i2l, 1) := by decide +kernel
theorem dX8_number_19 : decode cX8_number 19 = .ok (.iload_n 2, 1) := by decide +kernel
theorem dX8_number_20 : decode cX8_number 20 = .ok (.i2l, 1) := by decide +kernel
theorem dX8_number_21 : decode cX8_number 21 = .ok (.invokestatic 42, 3) := by decide +kernel
theorem dX8_number_24 : decode cX8_number 24 = .ok (.ifCond .eq 7, 3) := by decide +kernel
theorem dX8_number_27 : decode cX8_number 27 = .ok (.iconst 1, 1) := by decide +kernel
theorem dX8_number_28 : decode cX8_number 28 = .ok (.goto 4, 3) := by decide +kernel
theorem dX8_number_31 : decode cX8_number 31 = .ok (.iconst 0, 1) := by decide +kernel
theorem dX8_number_32 : decode cX8_number 32 = .ok (.ireturn, 1) := by decide +kernel
set_option maxRecDepth 20000 in
theorem ggX8_itemEnds_X8_reads : GoodIn wsX8_itemEnds wsX8_reads := goodIn_r _ [6, 7, 8, 9, 10, 1, 11, 12, 13, 5, 14, 15, 16, 17, 18, 19, 20, 21, 22, 23, 24, 25, 26, 27, 28, 29, 30, 31, 32, 33, 34, 35, 36, 37] (by decide +kernel) (by decide +kernel)
set_option maxRecDepth 20000 in
theorem gX8_itemEnds_X8_reads : GoodIn wsX8_itemEnds (wsV RX8 70 RX8 yX8_reads wsX8_reads) := goodIn_app (goodIn_of _ (by decide +kernel)) ggX8_itemEnds_X8_reads
theorem dX8_itemEnds_0 : decode cX8_itemEnds 0 = .ok (.aload_n 0, 1) := by decide +kernel
theorem dX8_itemEnds_1 : decode cX8_itemEnds 1 = .ok (.invokevirtual 70, 3) := by decide +kernel
theorem dX8_itemEnds_4 : decode cX8_itemEnds 4 = .ok (.aload_n 0, 1) := by decide +kernel
theorem dX8_itemEnds_5 : decode cX8_itemEnds 5 = .ok (.getfield 60, 3) := by decide +kernel
theorem dX8_itemEnds_8 : decode cX8_itemEnds 8 = .ok (.iconst 3, 1) := by decide +kernel
theorem dX8_itemEnds_9 : decode cX8_itemEnds 9 = .ok (.if_icmp .ne 7, 3) := by decide +kernel
theorem dX8_itemEnds_12 : decode cX8_itemEnds 12 = .ok (.iconst 1, 1) := by decide +kernel
theorem dX8_itemEnds_13 : decode cX8_itemEnds 13 = .ok (.goto 4, 3) := by decide +kernel
theorem dX8_itemEnds_16 : decode cX8_itemEnds 16 = .ok (.iconst 0, 1) := by decide +kernel
theorem dX8_itemEnds_17 : decode cX8_itemEnds 17 = .ok (.ireturn, 1) := by decide +kernel
theorem dX8_plain_0 : decode cX8_plain 0 = .ok (.iconst 0, 1) := by decide +kernel
theorem dX8_plain_1 : decode cX8_plain 1 = .ok (.istore_n 1, 1) := by decide +kernel
theorem dX8_plain_2 : decode cX8_plain 2 = .ok (.iload_n 1, 1) := by decide +kernel
theorem dX8_plain_3 : decode cX8_plain 3 = .ok (.bipush 45, 2) := by decide +kernel
theorem dX8_plain_5 : decode cX8_plain 5 = .ok (.if_icmp .ge 16, 3) := by decide +kernel
theorem dX8_plain_8 : decode cX8_plain 8 = .ok (.aload_n 0, 1) := by decide +kernel
theorem dX8_plain_9 : decode cX8_plain 9 = .ok (.getfield 13, 3) := by decide +kernel
theorem dX8_plain_12 : decode cX8_plain 12 = .ok (.iload_n 1, 1) := by decide +kernel
theorem dX8_plain_13 : decode cX8_plain 13 = .ok (.iconst 0, 1) := by decide +kernel
theorem dX8_plain_14 : decode cX8_plain 14 = .ok (.iastore, 1) := by decide +kernel
theorem dX8_plain_15 : decode cX8_plain 15 = .ok (.iinc 1 1, 3) := by decide +kernel
theorem dX8_plain_18 : decode cX8_plain 18 = .ok (.goto (-16), 3) := by decide +kernel
theorem dX8_plain_21 : decode cX8_plain 21 = .ok (.aload_n 0, 1) := by decide +kernel
theorem dX8_plain_22 : decode cX8_plain 22 = .ok (.getfield 13, 3) := by decide +kernel
theorem dX8_plain_25 : decode cX8_plain 25 = .ok (.iconst 1, 1) := by decide +kernel
theorem dX8_plain_26 : decode cX8_plain 26 = .ok (.bipush 9, 2) := by decide +kernel
theorem dX8_plain_28 : decode cX8_plain 28 = .ok (.iastore, 1) := by decide +kernel
theorem dX8_plain_29 : decode cX8_plain 29 = .ok (.return_, 1) := by decide +kernel
set_option maxRecDepth 20000 in
theorem ggX8_readItem_X8_number : GoodIn wsX8_readItem wsX8_number := goodIn_r _ [8, 1, 2, 9, 10, 11, 7, 12, 13, 14, 15, 16, 17, 18, 19, 20, 21, 22, 23, 24, 29, 30, 31, 32, 33, 34, 35, 36, 37, 38, 39, 40, 41, 42, 43, 44, 45, 46] (by decide +kernel) (by decide +kernel)
set_option maxRecDepth 20000 in
theorem gX8_readItem_X8_number : GoodIn wsX8_readItem (wsV RX8 73 RX8 yX8_number wsX8_number) := goodIn_app (goodIn_of _ (by decide +kernel)) ggX8_readItem_X8_number
set_option maxRecDepth 20000 in
theorem ggX8_readItem_X8_itemEnds : GoodIn wsX8_readItem wsX8_itemEnds := goodIn_r _ [28, 1, 9, 10, 11, 7, 12, 13, 14, 15, 16, 2, 17, 18, 19, 20, 21, 22, 23, 24, 29, 30, 31, 32, 33, 34, 35, 36, 37, 38, 39, 40, 41, 42, 43, 44, 45, 46] (by decide +kernel) (by decide +kernel)
set_option maxRecDepth 20000 in
theorem gX8_readItem_X8_itemEnds : GoodIn wsX8_readItem (wsV RX8 77 RX8 yX8_itemEnds wsX8_itemEnds) := goodIn_app (goodIn_of _ (by decide +kernel)) ggX8_readItem_X8_itemEnds
theorem dX8_readItem_0 : decode cX8_readItem 0 = .ok (.aload_n 0, 1) := by decide +kernel
theorem dX8_readItem_1 : decode cX8_readItem 1 = .ok (.getfield 60, 3) := by decide +kernel
theorem dX8_readItem_4 : decode cX8_readItem 4 = .ok (.iconst 1, 1) := by decide +kernel
theorem dX8_readItem_5 : decode cX8_readItem 5 = .ok (.if_icmp .eq 5, 3) := by decide +kernel
theorem dX8_readItem_8 : decode cX8_readItem 8 = .ok (.iconst 0, 1) := by decide +kernel
theorem dX8_readItem_9 : decode cX8_readItem 9 = .ok (.ireturn, 1) := by decide +kernel
theorem dX8_readItem_10 : decode cX8_readItem 10 = .ok (.aload_n 0, 1) := by decide +kernel
theorem dX8_readItem_11 : decode cX8_readItem 11 = .ok (.getfield 67, 3) := by decide +kernel
theorem dX8_readItem_14 : decode cX8_readItem 14 = .ok (.bipush 116, 2) := by decide +kernel
theorem dX8_readItem_16 : decode cX8_readItem 16 = .ok (.if_icmp .ne 47, 3) := by decide +kernel
theorem dX8_readItem_19 : decode cX8_readItem 19 = .ok (.aload_n 0, 1) := by decide +kernel
theorem dX8_readItem_20 : decode cX8_readItem 20 = .ok (.getfield 13, 3) := by decide +kernel
theorem dX8_readItem_23 : decode cX8_readItem 23 = .ok (.iconst 2, 1) := by decide +kernel
theorem dX8_readItem_24 : decode cX8_readItem 24 = .ok (.iaload, 1) := by decide +kernel
theorem dX8_readItem_25 : decode cX8_readItem 25 = .ok (.iconst 1, 1) := by decide +kernel
theorem dX8_readItem_26 : decode cX8_readItem 26 = .ok (.if_icmp .eq 13, 3) := by decide +kernel
theorem dX8_readItem_29 : decode cX8_readItem 29 = .ok (.aload_n 0, 1) := by decide +kernel
theorem dX8_readItem_30 : decode cX8_readItem 30 = .ok (.iconst 1, 1) := by decide +kernel
theorem dX8_readItem_31 : decode cX8_readItem 31 = .ok (.bipush 20, 2) := by decide +kernel
theorem dX8_readItem_33 : decode cX8_readItem 33 = .ok (.invokevirtual 73, 3) := by decide +kernel
theorem dX8_readItem_36 : decode cX8_readItem 36 = .ok (.ifCond .ne 5, 3) := by decide +kernel
theorem dX8_readItem_39 : decode cX8_readItem 39 = .ok (.iconst 0, 1) := by decide +kernel
theorem dX8_readItem_40 : decode cX8_readItem 40 = .ok (.ireturn, 1) := by decide +kernel
theorem dX8_readItem_41 : decode cX8_readItem 41 = .ok (.aload_n 0, 1) := by decide +kernel
theorem dX8_readItem_42 : decode cX8_readItem 42 = .ok (.getfield 13, 3) := by decide +kernel
theorem dX8_readItem_45 : decode cX8_readItem 45 = .ok (.iconst 1, 1) := by decide +kernel
theorem dX8_readItem_46 : decode cX8_readItem 46 = .ok (.aload_n 0, 1) := by decide +kernel
theorem dX8_readItem_47 : decode cX8_readItem 47 = .ok (.getfield 67, 3) := by decide +kernel
theorem dX8_readItem_50 : decode cX8_readItem 50 = .ok (.iastore, 1) := by decide +kernel
theorem dX8_readItem_51 : decode cX8_readItem 51 = .ok (.aload_n 0, 1) := by decide +kernel
theorem dX8_readItem_52 : decode cX8_readItem 52 = .ok (.getfield 13, 3) := by decide +kernel
theorem dX8_readItem_55 : decode cX8_readItem 55 = .ok (.iconst 2, 1) := by decide +kernel
theorem dX8_readItem_56 : decode cX8_readItem 56 = .ok (.iconst 1, 1) := by decide +kernel
theorem dX8_readItem_57 : decode cX8_readItem 57 = .ok (.iastore, 1) := by decide +kernel
theorem dX8_readItem_58 : decode cX8_readItem 58 = .ok (.aload_n 0, 1) := by decide +kernel
theorem dX8_readItem_59 : decode cX8_readItem 59 = .ok (.invokevirtual 77, 3) := by decide +kernel
theorem dX8_readItem_62 : decode cX8_readItem 62 = .ok (.ireturn, 1) := by decide +kernel
theorem dX8_readItem_63 : decode cX8_readItem 63 = .ok (.aload_n 0, 1) := by decide +kernel
theorem dX8_readItem_64 : decode cX8_readItem 64 = .ok (.getfield 13, 3) := by decide +kernel
theorem dX8_readItem_67 : decode cX8_readItem 67 = .ok (.iconst 0, 1) := by decide +kernel
theorem dX8_readItem_68 : decode cX8_readItem 68 = .ok (.iaload, 1) := by decide +kernel
theorem dX8_readItem_69 : decode cX8_readItem 69 = .ok (.bipush 6, 2) := by decide +kernel
theorem dX8_readItem_71 : decode cX8_readItem 71 = .ok (.if_icmp .ne 5, 3) := by decide +kernel
theorem dX8_readItem_74 : decode cX8_readItem 74 = .ok (.iconst 0, 1) := by decide +kernel
theorem dX8_readItem_75 : decode cX8_readItem 75 = .ok (.ireturn, 1) := by decide +kernel
theorem dX8_readItem_76 : decode cX8_readItem 76 = .ok (.iconst 0, 1) := by decide +kernel
theorem dX8_readItem_77 : decode cX8_readItem 77 = .ok (.istore_n 1, 1) := by decide +kernel
theorem dX8_readItem_78 : decode cX8_readItem 78 = .ok (.iload_n 1, 1) := by decide +kernel
theorem dX8_readItem_79 : decode cX8_readItem 79 = .ok (.bipush 7, 2) := by decide +kernel
theorem dX8_readItem_81 : decode cX8_readItem 81 = .ok (.if_icmp .ge 60, 3) := by decide +kernel
theorem dX8_readItem_84 : decode cX8_readItem 84 = .ok (.aload_n 0, 1) := by decide +kernel
theorem dX8_readItem_85 : decode cX8_readItem 85 = .ok (.iload_n 1, 1) := by decide +kernel
theorem dX8_readItem_86 : decode cX8_readItem 86 = .ok (.ifCond .ne 7, 3) := by decide +kernel
theorem dX8_readItem_89 : decode cX8_readItem 89 = .ok (.iconst 1, 1) := by decide +kernel
theorem dX8_readItem_90 : decode cX8_readItem 90 = .ok (.goto 4, 3) := by decide +kernel
theorem dX8_readItem_93 : decode cX8_readItem 93 = .ok (.iconst 0, 1) := by decide +kernel
theorem dX8_readItem_94 : decode cX8_readItem 94 = .ok (.iload_n 1, 1) := by decide +kernel
theorem dX8_readItem_95 : decode cX8_readItem 95 = .ok (.iconst 1, 1) := by decide +kernel
theorem dX8_readItem_96 : decode cX8_readItem 96 = .ok (.if_icmp .ne 7, 3) := by decide +kernel
theorem dX8_readItem_99 : decode cX8_readItem 99 = .ok (.iconst 5, 1) := by decide +kernel
theorem dX8_readItem_100 : decode cX8_readItem 100 = .ok (.goto 5, 3) := by decide +kernel
theorem dX8_readItem_103 : decode cX8_readItem 103 = .ok (.bipush 9, 2) := by decide +kernel
theorem dX8_readItem_105 : decode cX8_readItem 105 = .ok (.invokevirtual 73, 3) := by decide +kernel
theorem dX8_readItem_108 : decode cX8_readItem 108 = .ok (.ifCond .ne 5, 3) := by decide +kernel
theorem dX8_readItem_111 : decode cX8_readItem 111 = .ok (.iconst 0, 1) := by decide +kernel
theorem dX8_readItem_112 : decode cX8_readItem 112 = .ok (.ireturn, 1) := by decide +kernel
theorem dX8_readItem_113 : decode cX8_readItem 113 = .ok (.aload_n 0, 1) := by decide +kernel
theorem dX8_readItem_114 : decode cX8_readItem 114 = .ok (.getfield 13, 3) := by decide +kernel
theorem dX8_readItem_117 : decode cX8_readItem 117 = .ok (.iconst 3, 1) := by decide +kernel
theorem dX8_readItem_118 : decode cX8_readItem 118 = .ok (.bipush 7, 2) := by decide +kernel
theorem dX8_readItem_120 : decode cX8_readItem 120 = .ok (.aload_n 0, 1) := by decide +kernel
theorem dX8_readItem_121 : decode cX8_readItem 121 = .ok (.getfield 13, 3) := by decide +kernel
theorem dX8_readItem_124 : decode cX8_readItem 124 = .ok (.iconst 0, 1) := by decide +kernel
theorem dX8_readItem_125 : decode cX8_readItem 125 = .ok (.iaload, 1) := by decide +kernel
theorem dX8_readItem_126 : decode cX8_readItem 126 = .ok (.imul, 1) := by decide +kernel
theorem dX8_readItem_127 : decode cX8_readItem 127 = .ok (.iadd, 1) := by decide +kernel
theorem dX8_readItem_128 : decode cX8_readItem 128 = .ok (.iload_n 1, 1) := by decide +kernel
theorem dX8_readItem_129 : decode cX8_readItem 129 = .ok (.iadd, 1) := by decide +kernel
theorem dX8_readItem_130 : decode cX8_readItem 130 = .ok (.aload_n 0, 1) := by decide +kernel
theorem dX8_readItem_131 : decode cX8_readItem 131 = .ok (.getfield 67, 3) := by decide +kernel
theorem dX8_readItem_134 : decode cX8_readItem 134 = .ok (.iastore, 1) := by decide +kernel
theorem dX8_readItem_135 : decode cX8_readItem 135 = .ok (.iinc 1 1, 3) := by decide +kernel
theorem dX8_readItem_138 : decode cX8_readItem 138 = .ok (.goto (-60), 3) := by decide +kernel
theorem dX8_readItem_141 : decode cX8_readItem 141 = .ok (.aload_n 0, 1) := by decide +kernel
theorem dX8_readItem_142 : decode cX8_readItem 142 = .ok (.getfield 13, 3) := by decide +kernel
theorem dX8_readItem_145 : decode cX8_readItem 145 = .ok (.iconst 0, 1) := by decide +kernel
theorem dX8_readItem_146 : decode cX8_readItem 146 = .ok (.dup2, 1) := by decide +kernel
theorem dX8_readItem_147 : decode cX8_readItem 147 = .ok (.iaload, 1) := by decide +kernel
theorem dX8_readItem_148 : decode cX8_readItem 148 = .ok (.iconst 1, 1) := by decide +kernel
theorem dX8_readItem_149 : decode cX8_readItem 149 = .ok (.iadd, 1) := by decide +kernel
theorem dX8_readItem_150 : decode cX8_readItem 150 = .ok (.iastore, 1) := by decide +kernel
theorem dX8_readItem_151 : decode cX8_readItem 151 = .ok (.aload_n 0, 1) := by decide +kernel
theorem dX8_readItem_152 : decode cX8_readItem 152 = .ok (.invokevirtual 77, 3) := by decide +kernel
theorem dX8_readItem_155 : decode cX8_readItem 155 = .ok (.ireturn, 1) := by decide +kernel
set_option maxRecDepth 20000 in
theorem ggX8_paper_X8_plain : GoodIn wsX8_paper wsX8_plain := goodIn_r _ [9, 10, 46, 47, 48, 49, 50, 51, 52, 53, 54, 55, 56, 57, 58, 59, 60, 61, 62, 63] (by decide +kernel) (by decide +kernel)
set_option maxRecDepth 20000 in
theorem gX8_paper_X8_plain : GoodIn wsX8_paper (wsV RX8 34 RX8 yX8_plain wsX8_plain) := goodIn_app (goodIn_of _ (by decide +kernel)) ggX8_paper_X8_plain
set_option maxRecDepth 20000 in
theorem ggX8_paper_X8_reads : GoodIn wsX8_paper wsX8_reads := goodIn_r _ [14, 1, 4, 15, 3, 2, 16, 17, 18, 8, 19, 20, 21, 22, 23, 24, 46, 47, 48, 49, 50, 51, 52, 53, 54, 55, 56, 57, 58, 59, 60, 61, 62, 63] (by decide +kernel) (by decide +kernel)
set_option maxRecDepth 20000 in
theorem gX8_paper_X8_reads : GoodIn wsX8_paper (wsV RX8 70 RX8 yX8_reads wsX8_reads) := goodIn_app (goodIn_of _ (by decide +kernel)) ggX8_paper_X8_reads
set_option maxRecDepth 20000 in
theorem ggX8_paper_X8_readItem : GoodIn wsX8_paper wsX8_readItem := goodIn_r _ [28, 2, 16, 10, 29, 30, 31, 8, 32, 11, 12, 13, 14, 1, 4, 15, 3, 17, 18, 19, 20, 21, 22, 23, 24, 33, 34, 35, 36, 46, 47, 48, 49, 50, 51, 52, 53, 54, 55, 56, 57, 58, 59, 60, 61, 62, 63] (by decide +kernel) (by decide +kernel)
set_option maxRecDepth 20000 in
theorem gX8_paper_X8_readItem : GoodIn wsX8_paper (wsV RX8 81 RX8 yX8_readItem wsX8_readItem) := goodIn_app (goodIn_of _ (by decide +kernel)) ggX8_paper_X8_readItem
set_option maxRecDepth 20000 in
theorem ggX8_paper_X8_takes : GoodIn wsX8_paper wsX8_takes := goodIn_r _ [40, 41, 10, 42, 43, 44, 45, 46, 47, 48, 49, 50, 51, 52, 53, 54, 55, 56, 57, 58, 59, 60, 61, 62, 63] (by decide +kernel) (by decide +kernel)
set_option maxRecDepth 20000 in
theorem gX8_paper_X8_takes : GoodIn wsX8_paper (wsV RX8 37 RX8 yX8_takes wsX8_takes) := goodIn_app (goodIn_of _ (by decide +kernel)) ggX8_paper_X8_takes
theorem dX8_paper_0 : decode cX8_paper 0 = .ok (.aload_n 0, 1) := by decide +kernel
theorem dX8_paper_1 : decode cX8_paper 1 = .ok (.invokevirtual 34, 3) := by decide +kernel
theorem dX8_paper_4 : decode cX8_paper 4 = .ok (.aload_n 0, 1) := by decide +kernel
theorem dX8_paper_5 : decode cX8_paper 5 = .ok (.iconst 0, 1) := by decide +kernel
theorem dX8_paper_6 : decode cX8_paper 6 = .ok (.putfield 54, 3) := by decide +kernel
theorem dX8_paper_9 : decode cX8_paper 9 = .ok (.iconst 0, 1) := by decide +kernel
theorem dX8_paper_10 : decode cX8_paper 10 = .ok (.istore_n 1, 1) := by decide +kernel
theorem dX8_paper_11 : decode cX8_paper 11 = .ok (.aload_n 0, 1) := by decide +kernel
theorem dX8_paper_12 : decode cX8_paper 12 = .ok (.invokevirtual 70, 3) := by decide +kernel
theorem dX8_paper_15 : decode cX8_paper 15 = .ok (.aload_n 0, 1) := by decide +kernel
theorem dX8_paper_16 : decode cX8_paper 16 = .ok (.getfield 60, 3) := by decide +kernel
theorem dX8_paper_19 : decode cX8_paper 19 = .ok (.ifCond .eq 28, 3) := by decide +kernel
theorem dX8_paper_22 : decode cX8_paper 22 = .ok (.aload_n 0, 1) := by decide +kernel
theorem dX8_paper_23 : decode cX8_paper 23 = .ok (.invokevirtual 81, 3) := by decide +kernel
theorem dX8_paper_26 : decode cX8_paper 26 = .ok (.ifCond .ne 11, 3) := by decide +kernel
theorem dX8_paper_29 : decode cX8_paper 29 = .ok (.bipush (-10), 2) := by decide +kernel
theorem dX8_paper_31 : decode cX8_paper 31 = .ok (.aload_n 0, 1) := by decide +kernel
theorem dX8_paper_32 : decode cX8_paper 32 = .ok (.getfield 57, 3) := by decide +kernel
theorem dX8_paper_35 : decode cX8_paper 35 = .ok (.isub, 1) := by decide +kernel
theorem dX8_paper_36 : decode cX8_paper 36 = .ok (.ireturn, 1) := by decide +kernel
theorem dX8_paper_37 : decode cX8_paper 37 = .ok (.iinc 1 1, 3) := by decide +kernel
theorem dX8_paper_40 : decode cX8_paper 40 = .ok (.aload_n 0, 1) := by decide +kernel
theorem dX8_paper_41 : decode cX8_paper 41 = .ok (.invokevirtual 70, 3) := by decide +kernel
theorem dX8_paper_44 : decode cX8_paper 44 = .ok (.goto (-29), 3) := by decide +kernel
theorem dX8_paper_47 : decode cX8_paper 47 = .ok (.aload_n 0, 1) := by decide +kernel
theorem dX8_paper_48 : decode cX8_paper 48 = .ok (.iconst 0, 1) := by decide +kernel
theorem dX8_paper_49 : decode cX8_paper 49 = .ok (.putfield 46, 3) := by decide +kernel
theorem dX8_paper_52 : decode cX8_paper 52 = .ok (.aload_n 0, 1) := by decide +kernel
theorem dX8_paper_53 : decode cX8_paper 53 = .ok (.invokevirtual 37, 3) := by decide +kernel
theorem dX8_paper_56 : decode cX8_paper 56 = .ok (.iload_n 1, 1) := by decide +kernel
theorem dX8_paper_57 : decode cX8_paper 57 = .ok (.ireturn, 1) := by decide +kernel
theorem dX8_takes_0 : decode cX8_takes 0 = .ok (.iconst 0, 1) := by decide +kernel
theorem dX8_takes_1 : decode cX8_takes 1 = .ok (.istore_n 1, 1) := by decide +kernel
theorem dX8_takes_2 : decode cX8_takes 2 = .ok (.iload_n 1, 1) := by decide +kernel
theorem dX8_takes_3 : decode cX8_takes 3 = .ok (.bipush 45, 2) := by decide +kernel
theorem dX8_takes_5 : decode cX8_takes 5 = .ok (.if_icmp .ge 21, 3) := by decide +kernel
theorem dX8_takes_8 : decode cX8_takes 8 = .ok (.aload_n 0, 1) := by decide +kernel
theorem dX8_takes_9 : decode cX8_takes 9 = .ok (.getfield 16, 3) := by decide +kernel
theorem dX8_takes_12 : decode cX8_takes 12 = .ok (.iload_n 1, 1) := by decide +kernel
theorem dX8_takes_13 : decode cX8_takes 13 = .ok (.aload_n 0, 1) := by decide +kernel
theorem dX8_takes_14 : decode cX8_takes 14 = .ok (.getfield 13, 3) := by decide +kernel
theorem dX8_takes_17 : decode cX8_takes 17 = .ok (.iload_n 1, 1) := by decide +kernel
theorem dX8_takes_18 : decode cX8_takes 18 = .ok (.iaload, 1) := by decide +kernel
theorem dX8_takes_19 : decode cX8_takes 19 = .ok (.iastore, 1) := by decide +kernel
theorem dX8_takes_20 : decode cX8_takes 20 = .ok (.iinc 1 1, 3) := by decide +kernel
theorem dX8_takes_23 : decode cX8_takes 23 = .ok (.goto (-21), 3) := by decide +kernel
theorem dX8_takes_26 : decode cX8_takes 26 = .ok (.iconst 0, 1) := by decide +kernel
theorem dX8_takes_27 : decode cX8_takes 27 = .ok (.istore_n 1, 1) := by decide +kernel
theorem dX8_takes_28 : decode cX8_takes 28 = .ok (.iload_n 1, 1) := by decide +kernel
theorem dX8_takes_29 : decode cX8_takes 29 = .ok (.bipush 46, 2) := by decide +kernel
theorem dX8_takes_31 : decode cX8_takes 31 = .ok (.if_icmp .ge 16, 3) := by decide +kernel
theorem dX8_takes_34 : decode cX8_takes 34 = .ok (.aload_n 0, 1) := by decide +kernel
theorem dX8_takes_35 : decode cX8_takes 35 = .ok (.getfield 19, 3) := by decide +kernel
theorem dX8_takes_38 : decode cX8_takes 38 = .ok (.iload_n 1, 1) := by decide +kernel
theorem dX8_takes_39 : decode cX8_takes 39 = .ok (.iconst 0, 1) := by decide +kernel
theorem dX8_takes_40 : decode cX8_takes 40 = .ok (.iastore, 1) := by decide +kernel
theorem dX8_takes_41 : decode cX8_takes 41 = .ok (.iinc 1 1, 3) := by decide +kernel
theorem dX8_takes_44 : decode cX8_takes 44 = .ok (.goto (-16), 3) := by decide +kernel
theorem dX8_takes_47 : decode cX8_takes 47 = .ok (.aload_n 0, 1) := by decide +kernel
theorem dX8_takes_48 : decode cX8_takes 48 = .ok (.iconst 0, 1) := by decide +kernel
theorem dX8_takes_49 : decode cX8_takes 49 = .ok (.putfield 84, 3) := by decide +kernel
theorem dX8_takes_52 : decode cX8_takes 52 = .ok (.aload_n 0, 1) := by decide +kernel
theorem dX8_takes_53 : decode cX8_takes 53 = .ok (.iconst 0, 1) := by decide +kernel
theorem dX8_takes_54 : decode cX8_takes 54 = .ok (.putfield 87, 3) := by decide +kernel
theorem dX8_takes_57 : decode cX8_takes 57 = .ok (.aload_n 0, 1) := by decide +kernel
theorem dX8_takes_58 : decode cX8_takes 58 = .ok (.getfield 31, 3) := by decide +kernel
theorem dX8_takes_61 : decode cX8_takes 61 = .ok (.iconst 0, 1) := by decide +kernel
theorem dX8_takes_62 : decode cX8_takes 62 = .ok (.iconst 0, 1) := by decide +kernel
theorem dX8_takes_63 : decode cX8_takes 63 = .ok (.iastore, 1) := by decide +kernel
theorem dX8_takes_64 : decode cX8_takes 64 = .ok (.aload_n 0, 1) := by decide +kernel
theorem dX8_takes_65 : decode cX8_takes 65 = .ok (.getfield 31, 3) := by decide +kernel
theorem dX8_takes_68 : decode cX8_takes 68 = .ok (.bipush 47, 2) := by decide +kernel
theorem dX8_takes_70 : decode cX8_takes 70 = .ok (.iconst 0, 1) := by decide +kernel
theorem dX8_takes_71 : decode cX8_takes 71 = .ok (.iastore, 1) := by decide +kernel
theorem dX8_takes_72 : decode cX8_takes 72 = .ok (.return_, 1) := by decide +kernel
set_option maxRecDepth 20000 in
theorem ggX8_isWriter_X8_in : GoodIn wsX8_isWriter wsX8_in := goodIn_r _ [5] (by decide +kernel) (by decide +kernel)
set_option maxRecDepth 20000 in
theorem gX8_isWriter_X8_in : GoodIn wsX8_isWriter (va_wsS RX8 42 yX8_in wsX8_in) := goodIn_app (goodIn_of _ (by decide +kernel)) ggX8_isWriter_X8_in
theorem dX8_isWriter_0 : decode cX8_isWriter 0 = .ok (.iload_n 1, 1) := by decide +kernel
theorem dX8_isWriter_1 : decode cX8_isWriter 1 = .ok (.i2l, 1) := by decide +kernel
theorem dX8_isWriter_2 : decode cX8_isWriter 2 = .ok (.lconst 0, 1) := by decide +kernel
theorem dX8_isWriter_3 : decode cX8_isWriter 3 = .ok (.aload_n 0, 1) := by decide +kernel
theorem dX8_isWriter_4 : decode cX8_isWriter 4 = .ok (.getfield 16, 3) := by decide +kernel
theorem dX8_isWriter_7 : decode cX8_isWriter 7 = .ok (.iconst 0, 1) := by decide +kernel
theorem dX8_isWriter_8 : decode cX8_isWriter 8 = .ok (.iaload, 1) := by decide +kernel
theorem dX8_isWriter_9 : decode cX8_isWriter 9 = .ok (.iconst 1, 1) := by decide +kernel
theorem dX8_isWriter_10 : decode cX8_isWriter 10 = .ok (.isub, 1) := by decide +kernel
theorem dX8_isWriter_11 : decode cX8_isWriter 11 = .ok (.i2l, 1) := by decide +kernel
theorem dX8_isWriter_12 : decode cX8_isWriter 12 = .ok (.invokestatic 42, 3) := by decide +kernel
theorem dX8_isWriter_15 : decode cX8_isWriter 15 = .ok (.ireturn, 1) := by decide +kernel
set_option maxRecDepth 20000 in
theorem ggX8_isQuarrel_X8_in : GoodIn wsX8_isQuarrel wsX8_in := goodIn_r _ [5] (by decide +kernel) (by decide +kernel)
set_option maxRecDepth 20000 in
theorem gX8_isQuarrel_X8_in : GoodIn wsX8_isQuarrel (va_wsS RX8 42 yX8_in wsX8_in) := goodIn_app (goodIn_of _ (by decide +kernel)) ggX8_isQuarrel_X8_in
theorem dX8_isQuarrel_0 : decode cX8_isQuarrel 0 = .ok (.iload_n 1, 1) := by decide +kernel
theorem dX8_isQuarrel_1 : decode cX8_isQuarrel 1 = .ok (.i2l, 1) := by decide +kernel
theorem dX8_isQuarrel_2 : decode cX8_isQuarrel 2 = .ok (.lconst 0, 1) := by decide +kernel
theorem dX8_isQuarrel_3 : decode cX8_isQuarrel 3 = .ok (.aload_n 0, 1) := by decide +kernel
theorem dX8_isQuarrel_4 : decode cX8_isQuarrel 4 = .ok (.getfield 19, 3) := by decide +kernel
theorem dX8_isQuarrel_7 : decode cX8_isQuarrel 7 = .ok (.iconst 1, 1) := by decide +kernel
theorem dX8_isQuarrel_8 : decode cX8_isQuarrel 8 = .ok (.iaload, 1) := by decide +kernel
theorem dX8_isQuarrel_9 : decode cX8_isQuarrel 9 = .ok (.iconst 1, 1) := by decide +kernel
theorem dX8_isQuarrel_10 : decode cX8_isQuarrel 10 = .ok (.isub, 1) := by decide +kernel
theorem dX8_isQuarrel_11 : decode cX8_isQuarrel 11 = .ok (.i2l, 1) := by decide +kernel
theorem dX8_isQuarrel_12 : decode cX8_isQuarrel 12 = .ok (.invokestatic 42, 3) := by decide +kernel
theorem dX8_isQuarrel_15 : decode cX8_isQuarrel 15 = .ok (.ireturn, 1) := by decide +kernel
set_option maxRecDepth 20000 in
theorem ggX8_isSubject_X8_in : GoodIn wsX8_isSubject wsX8_in := goodIn_r _ [5] (by decide +kernel) (by decide +kernel)
set_option maxRecDepth 20000 in
theorem gX8_isSubject_X8_in : GoodIn wsX8_isSubject (va_wsS RX8 42 yX8_in wsX8_in) := goodIn_app (goodIn_of _ (by decide +kernel)) ggX8_isSubject_X8_in
theorem dX8_isSubject_0 : decode cX8_isSubject 0 = .ok (.iload_n 0, 1) := by decide +kernel
theorem dX8_isSubject_1 : decode cX8_isSubject 1 = .ok (.i2l, 1) := by decide +kernel
theorem dX8_isSubject_2 : decode cX8_isSubject 2 = .ok (.lconst 0, 1) := by decide +kernel
theorem dX8_isSubject_3 : decode cX8_isSubject 3 = .ok (.ldc2_w 90, 3) := by decide +kernel
theorem dX8_isSubject_6 : decode cX8_isSubject 6 = .ok (.invokestatic 42, 3) := by decide +kernel
theorem dX8_isSubject_9 : decode cX8_isSubject 9 = .ok (.ireturn, 1) := by decide +kernel
theorem dX8_pen_0 : decode cX8_pen 0 = .ok (.aload_n 0, 1) := by decide +kernel
theorem dX8_pen_1 : decode cX8_pen 1 = .ok (.getfield 16, 3) := by decide +kernel
theorem dX8_pen_4 : decode cX8_pen 4 = .ok (.iconst 3, 1) := by decide +kernel
theorem dX8_pen_5 : decode cX8_pen 5 = .ok (.bipush 7, 2) := by decide +kernel
theorem dX8_pen_7 : decode cX8_pen 7 = .ok (.iload_n 1, 1) := by decide +kernel
theorem dX8_pen_8 : decode cX8_pen 8 = .ok (.imul, 1) := by decide +kernel
theorem dX8_pen_9 : decode cX8_pen 9 = .ok (.iadd, 1) := by decide +kernel
theorem dX8_pen_10 : decode cX8_pen 10 = .ok (.iaload, 1) := by decide +kernel
theorem dX8_pen_11 : decode cX8_pen 11 = .ok (.ireturn, 1) := by decide +kernel
theorem dX8_near_0 : decode cX8_near 0 = .ok (.aload_n 0, 1) := by decide +kernel
theorem dX8_near_1 : decode cX8_near 1 = .ok (.getfield 16, 3) := by decide +kernel
theorem dX8_near_4 : decode cX8_near 4 = .ok (.iconst 3, 1) := by decide +kernel
theorem dX8_near_5 : decode cX8_near 5 = .ok (.bipush 7, 2) := by decide +kernel
theorem dX8_near_7 : decode cX8_near 7 = .ok (.iload_n 1, 1) := by decide +kernel
theorem dX8_near_8 : decode cX8_near 8 = .ok (.imul, 1) := by decide +kernel
theorem dX8_near_9 : decode cX8_near 9 = .ok (.iadd, 1) := by decide +kernel
theorem dX8_near_10 : decode cX8_near 10 = .ok (.iconst 2, 1) := by decide +kernel
theorem dX8_near_11 : decode cX8_near 11 = .ok (.iadd, 1) := by decide +kernel
theorem dX8_near_12 : decode cX8_near 12 = .ok (.iload_n 2, 1) := by decide +kernel
theorem dX8_near_13 : decode cX8_near 13 = .ok (.iadd, 1) := by decide +kernel
theorem dX8_near_14 : decode cX8_near 14 = .ok (.iaload, 1) := by decide +kernel
theorem dX8_near_15 : decode cX8_near 15 = .ok (.ireturn, 1) := by decide +kernel
theorem dX8_hasLaid_0 : decode cX8_hasLaid 0 = .ok (.aload_n 0, 1) := by decide +kernel
theorem dX8_hasLaid_1 : decode cX8_hasLaid 1 = .ok (.getfield 19, 3) := by decide +kernel
theorem dX8_hasLaid_4 : decode cX8_hasLaid 4 = .ok (.iconst 2, 1) := by decide +kernel
theorem dX8_hasLaid_5 : decode cX8_hasLaid 5 = .ok (.iaload, 1) := by decide +kernel
theorem dX8_hasLaid_6 : decode cX8_hasLaid 6 = .ok (.iload_n 1, 1) := by decide +kernel
theorem dX8_hasLaid_7 : decode cX8_hasLaid 7 = .ok (.ishr, 1) := by decide +kernel
theorem dX8_hasLaid_8 : decode cX8_hasLaid 8 = .ok (.iconst 1, 1) := by decide +kernel
theorem dX8_hasLaid_9 : decode cX8_hasLaid 9 = .ok (.iand, 1) := by decide +kernel
theorem dX8_hasLaid_10 : decode cX8_hasLaid 10 = .ok (.iconst 1, 1) := by decide +kernel
theorem dX8_hasLaid_11 : decode cX8_hasLaid 11 = .ok (.if_icmp .ne 7, 3) := by decide +kernel
theorem dX8_hasLaid_14 : decode cX8_hasLaid 14 = .ok (.iconst 1, 1) := by decide +kernel
theorem dX8_hasLaid_15 : decode cX8_hasLaid 15 = .ok (.goto 4, 3) := by decide +kernel
theorem dX8_hasLaid_18 : decode cX8_hasLaid 18 = .ok (.iconst 0, 1) := by decide +kernel
theorem dX8_hasLaid_19 : decode cX8_hasLaid 19 = .ok (.ireturn, 1) := by decide +kernel
set_option maxRecDepth 20000 in
theorem ggX8_meantOf_X8_near : GoodIn wsX8_meantOf wsX8_near := goodIn_r _ [6, 1, 7, 8, 9, 10, 11, 12, 13, 14, 15, 16, 17, 18, 19, 20, 21, 22, 23, 24] (by decide +kernel) (by decide +kernel)
set_option maxRecDepth 20000 in
theorem gX8_meantOf_X8_near : GoodIn wsX8_meantOf (wsV RX8 92 RX8 yX8_near wsX8_near) := goodIn_app (goodIn_of _ (by decide +kernel)) ggX8_meantOf_X8_near
theorem dX8_meantOf_0 : decode cX8_meantOf 0 = .ok (.bipush (-9), 2) := by decide +kernel
theorem dX8_meantOf_2 : decode cX8_meantOf 2 = .ok (.istore 4, 2) := by decide +kernel
theorem dX8_meantOf_4 : decode cX8_meantOf 4 = .ok (.iconst 0, 1) := by decide +kernel
theorem dX8_meantOf_5 : decode cX8_meantOf 5 = .ok (.istore 5, 2) := by decide +kernel
theorem dX8_meantOf_7 : decode cX8_meantOf 7 = .ok (.iload 5, 2) := by decide +kernel
theorem dX8_meantOf_9 : decode cX8_meantOf 9 = .ok (.aload_n 0, 1) := by decide +kernel
theorem dX8_meantOf_10 : decode cX8_meantOf 10 = .ok (.getfield 16, 3) := by decide +kernel
theorem dX8_meantOf_13 : decode cX8_meantOf 13 = .ok (.iconst 0, 1) := by decide +kernel
theorem dX8_meantOf_14 : decode cX8_meantOf 14 = .ok (.iaload, 1) := by decide +kernel
theorem dX8_meantOf_15 : decode cX8_meantOf 15 = .ok (.if_icmp .ge 79, 3) := by decide +kernel
theorem dX8_meantOf_18 : decode cX8_meantOf 18 = .ok (.iload 5, 2) := by decide +kernel
theorem dX8_meantOf_20 : decode cX8_meantOf 20 = .ok (.iload_n 1, 1) := by decide +kernel
theorem dX8_meantOf_21 : decode cX8_meantOf 21 = .ok (.if_icmp .eq 26, 3) := by decide +kernel
theorem dX8_meantOf_24 : decode cX8_meantOf 24 = .ok (.iload_n 3, 1) := by decide +kernel
theorem dX8_meantOf_25 : decode cX8_meantOf 25 = .ok (.iload 5, 2) := by decide +kernel
theorem dX8_meantOf_27 : decode cX8_meantOf 27 = .ok (.ishr, 1) := by decide +kernel
theorem dX8_meantOf_28 : decode cX8_meantOf 28 = .ok (.iconst 1, 1) := by decide +kernel
theorem dX8_meantOf_29 : decode cX8_meantOf 29 = .ok (.iand, 1) := by decide +kernel
theorem dX8_meantOf_30 : decode cX8_meantOf 30 = .ok (.ifCond .ne 17, 3) := by decide +kernel
theorem dX8_meantOf_33 : decode cX8_meantOf 33 = .ok (.aload_n 0, 1) := by decide +kernel
theorem dX8_meantOf_34 : decode cX8_meantOf 34 = .ok (.iload 5, 2) := by decide +kernel
theorem dX8_meantOf_36 : decode cX8_meantOf 36 = .ok (.iload_n 2, 1) := by decide +kernel
theorem dX8_meantOf_37 : decode cX8_meantOf 37 = .ok (.invokevirtual 92, 3) := by decide +kernel
theorem dX8_meantOf_40 : decode cX8_meantOf 40 = .ok (.ifCond .le 7, 3) := by decide +kernel
theorem dX8_meantOf_43 : decode cX8_meantOf 43 = .ok (.iconst 1, 1) := by decide +kernel
theorem dX8_meantOf_44 : decode cX8_meantOf 44 = .ok (.goto 4, 3) := by decide +kernel
theorem dX8_meantOf_47 : decode cX8_meantOf 47 = .ok (.iconst 0, 1) := by decide +kernel
theorem dX8_meantOf_48 : decode cX8_meantOf 48 = .ok (.istore 6, 2) := by decide +kernel
theorem dX8_meantOf_50 : decode cX8_meantOf 50 = .ok (.iload 6, 2) := by decide +kernel
theorem dX8_meantOf_52 : decode cX8_meantOf 52 = .ok (.ifCond .eq 32, 3) := by decide +kernel
theorem dX8_meantOf_55 : decode cX8_meantOf 55 = .ok (.iload 4, 2) := by decide +kernel
theorem dX8_meantOf_57 : decode cX8_meantOf 57 = .ok (.bipush (-9), 2) := by decide +kernel
theorem dX8_meantOf_59 : decode cX8_meantOf 59 = .ok (.if_icmp .eq 20, 3) := by decide +kernel
theorem dX8_meantOf_62 : decode cX8_meantOf 62 = .ok (.aload_n 0, 1) := by decide +kernel
theorem dX8_meantOf_63 : decode cX8_meantOf 63 = .ok (.iload 5, 2) := by decide +kernel
theorem dX8_meantOf_65 : decode cX8_meantOf 65 = .ok (.iload_n 2, 1) := by decide +kernel
theorem dX8_meantOf_66 : decode cX8_meantOf 66 = .ok (.invokevirtual 92, 3) := by decide +kernel
theorem dX8_meantOf_69 : decode cX8_meantOf 69 = .ok (.aload_n 0, 1) := by decide +kernel
theorem dX8_meantOf_70 : decode cX8_meantOf 70 = .ok (.iload 4, 2) := by decide +kernel
theorem dX8_meantOf_72 : decode cX8_meantOf 72 = .ok (.iload_n 2, 1) := by decide +kernel
theorem dX8_meantOf_73 : decode cX8_meantOf 73 = .ok (.invokevirtual 92, 3) := by decide +kernel
theorem dX8_meantOf_76 : decode cX8_meantOf 76 = .ok (.if_icmp .le 8, 3) := by decide +kernel
theorem dX8_meantOf_79 : decode cX8_meantOf 79 = .ok (.iload 5, 2) := by decide +kernel
theorem dX8_meantOf_81 : decode cX8_meantOf 81 = .ok (.goto 5, 3) := by decide +kernel
theorem dX8_meantOf_84 : decode cX8_meantOf 84 = .ok (.iload 4, 2) := by decide +kernel
theorem dX8_meantOf_86 : decode cX8_meantOf 86 = .ok (.istore 4, 2) := by decide +kernel
theorem dX8_meantOf_88 : decode cX8_meantOf 88 = .ok (.iinc 5 1, 3) := by decide +kernel
theorem dX8_meantOf_91 : decode cX8_meantOf 91 = .ok (.goto (-84), 3) := by decide +kernel
theorem dX8_meantOf_94 : decode cX8_meantOf 94 = .ok (.iload 4, 2) := by decide +kernel
theorem dX8_meantOf_96 : decode cX8_meantOf 96 = .ok (.ireturn, 1) := by decide +kernel
theorem dX8_answers_0 : decode cX8_answers 0 = .ok (.aload_n 0, 1) := by decide +kernel
theorem dX8_answers_1 : decode cX8_answers 1 = .ok (.getfield 16, 3) := by decide +kernel
theorem dX8_answers_4 : decode cX8_answers 4 = .ok (.iconst 3, 1) := by decide +kernel
theorem dX8_answers_5 : decode cX8_answers 5 = .ok (.bipush 7, 2) := by decide +kernel
theorem dX8_answers_7 : decode cX8_answers 7 = .ok (.iload_n 1, 1) := by decide +kernel
theorem dX8_answers_8 : decode cX8_answers 8 = .ok (.imul, 1) := by decide +kernel
theorem dX8_answers_9 : decode cX8_answers 9 = .ok (.iadd, 1) := by decide +kernel
theorem dX8_answers_10 : decode cX8_answers 10 = .ok (.iconst 1, 1) := by decide +kernel
theorem dX8_answers_11 : decode cX8_answers 11 = .ok (.iadd, 1) := by decide +kernel
theorem dX8_answers_12 : decode cX8_answers 12 = .ok (.iaload, 1) := by decide +kernel
theorem dX8_answers_13 : decode cX8_answers 13 = .ok (.istore_n 3, 1) := by decide +kernel
theorem dX8_answers_14 : decode cX8_answers 14 = .ok (.iload_n 3, 1) := by decide +kernel
theorem dX8_answers_15 : decode cX8_answers 15 = .ok (.iconst 5, 1) := by decide +kernel
theorem dX8_answers_16 : decode cX8_answers 16 = .ok (.if_icmp .ne 7, 3) := by decide +kernel
theorem dX8_answers_19 : decode cX8_answers 19 = .ok (.iload_n 2, 1) := by decide +kernel
theorem dX8_answers_20 : decode cX8_answers 20 = .ok (.goto 4, 3) := by decide +kernel
theorem dX8_answers_23 : decode cX8_answers 23 = .ok (.iload_n 3, 1) := by decide +kernel
theorem dX8_answers_24 : decode cX8_answers 24 = .ok (.ireturn, 1) := by decide +kernel
theorem dX8_at_0 : decode cX8_at 0 = .ok (.aload_n 0, 1) := by decide +kernel
theorem dX8_at_1 : decode cX8_at 1 = .ok (.getfield 19, 3) := by decide +kernel
theorem dX8_at_4 : decode cX8_at 4 = .ok (.bipush 10, 2) := by decide +kernel
theorem dX8_at_6 : decode cX8_at 6 = .ok (.bipush 6, 2) := by decide +kernel
theorem dX8_at_8 : decode cX8_at 8 = .ok (.iload_n 1, 1) := by decide +kernel
theorem dX8_at_9 : decode cX8_at 9 = .ok (.imul, 1) := by decide +kernel
theorem dX8_at_10 : decode cX8_at 10 = .ok (.iadd, 1) := by decide +kernel
theorem dX8_at_11 : decode cX8_at 11 = .ok (.iload_n 2, 1) := by decide +kernel
theorem dX8_at_12 : decode cX8_at 12 = .ok (.iadd, 1) := by decide +kernel
theorem dX8_at_13 : decode cX8_at 13 = .ok (.iaload, 1) := by decide +kernel
theorem dX8_at_14 : decode cX8_at 14 = .ok (.ireturn, 1) := by decide +kernel
set_option maxRecDepth 20000 in
theorem ggX8_owes_X8_at : GoodIn wsX8_owes wsX8_at := goodIn_r _ [6, 1, 7, 8, 9, 10, 11, 12, 13, 14, 15, 16, 17, 18, 19, 20, 21, 22, 23, 24] (by decide +kernel) (by decide +kernel)
set_option maxRecDepth 20000 in
theorem gX8_owes_X8_at : GoodIn wsX8_owes (wsV RX8 96 RX8 yX8_at wsX8_at) := goodIn_app (goodIn_of _ (by decide +kernel)) ggX8_owes_X8_at
theorem dX8_owes_0 : decode cX8_owes 0 = .ok (.iconst 0, 1) := by decide +kernel
theorem dX8_owes_1 : decode cX8_owes 1 = .ok (.istore_n 2, 1) := by decide +kernel
theorem dX8_owes_2 : decode cX8_owes 2 = .ok (.iconst 0, 1) := by decide +kernel
theorem dX8_owes_3 : decode cX8_owes 3 = .ok (.istore_n 3, 1) := by decide +kernel
theorem dX8_owes_4 : decode cX8_owes 4 = .ok (.iload_n 3, 1) := by decide +kernel
theorem dX8_owes_5 : decode cX8_owes 5 = .ok (.aload_n 0, 1) := by decide +kernel
theorem dX8_owes_6 : decode cX8_owes 6 = .ok (.getfield 19, 3) := by decide +kernel
theorem dX8_owes_9 : decode cX8_owes 9 = .ok (.iconst 1, 1) := by decide +kernel
theorem dX8_owes_10 : decode cX8_owes 10 = .ok (.iaload, 1) := by decide +kernel
theorem dX8_owes_11 : decode cX8_owes 11 = .ok (.if_icmp .ge 27, 3) := by decide +kernel
theorem dX8_owes_14 : decode cX8_owes 14 = .ok (.iload_n 2, 1) := by decide +kernel
theorem dX8_owes_15 : decode cX8_owes 15 = .ok (.aload_n 0, 1) := by decide +kernel
theorem dX8_owes_16 : decode cX8_owes 16 = .ok (.iload_n 3, 1) := by decide +kernel
theorem dX8_owes_17 : decode cX8_owes 17 = .ok (.iconst 3, 1) := by decide +kernel
theorem dX8_owes_18 : decode cX8_owes 18 = .ok (.invokevirtual 96, 3) := by decide +kernel
theorem dX8_owes_21 : decode cX8_owes 21 = .ok (.iload_n 1, 1) := by decide +kernel
theorem dX8_owes_22 : decode cX8_owes 22 = .ok (.if_icmp .ne 7, 3) := by decide +kernel
theorem dX8_owes_25 : decode cX8_owes 25 = .ok (.iconst 1, 1) := by decide +kernel
theorem dX8_owes_26 : decode cX8_owes 26 = .ok (.goto 4, 3) := by decide +kernel
theorem dX8_owes_29 : decode cX8_owes 29 = .ok (.iconst 0, 1) := by decide +kernel
theorem dX8_owes_30 : decode cX8_owes 30 = .ok (.iadd, 1) := by decide +kernel
theorem dX8_owes_31 : decode cX8_owes 31 = .ok (.istore_n 2, 1) := by decide +kernel
theorem dX8_owes_32 : decode cX8_owes 32 = .ok (.iinc 3 1, 3) := by decide +kernel
theorem dX8_owes_35 : decode cX8_owes 35 = .ok (.goto (-31), 3) := by decide +kernel
theorem dX8_owes_38 : decode cX8_owes 38 = .ok (.iload_n 2, 1) := by decide +kernel
theorem dX8_owes_39 : decode cX8_owes 39 = .ok (.ireturn, 1) := by decide +kernel
set_option maxRecDepth 20000 in
theorem ggX8_words_X8_at : GoodIn wsX8_words wsX8_at := goodIn_r _ [6, 1, 7, 8, 9, 10, 11, 12, 13, 14, 15, 16, 17, 18, 19, 20, 21, 22, 23, 24] (by decide +kernel) (by decide +kernel)
set_option maxRecDepth 20000 in
theorem gX8_words_X8_at : GoodIn wsX8_words (wsV RX8 96 RX8 yX8_at wsX8_at) := goodIn_app (goodIn_of _ (by decide +kernel)) ggX8_words_X8_at
theorem dX8_words_0 : decode cX8_words 0 = .ok (.iconst 0, 1) := by decide +kernel
theorem dX8_words_1 : decode cX8_words 1 = .ok (.istore_n 2, 1) := by decide +kernel
theorem dX8_words_2 : decode cX8_words 2 = .ok (.iconst 0, 1) := by decide +kernel
theorem dX8_words_3 : decode cX8_words 3 = .ok (.istore_n 3, 1) := by decide +kernel
theorem dX8_words_4 : decode cX8_words 4 = .ok (.iload_n 3, 1) := by decide +kernel
theorem dX8_words_5 : decode cX8_words 5 = .ok (.aload_n 0, 1) := by decide +kernel
theorem dX8_words_6 : decode cX8_words 6 = .ok (.getfield 19, 3) := by decide +kernel
theorem dX8_words_9 : decode cX8_words 9 = .ok (.iconst 1, 1) := by decide +kernel
theorem dX8_words_10 : decode cX8_words 10 = .ok (.iaload, 1) := by decide +kernel
theorem dX8_words_11 : decode cX8_words 11 = .ok (.if_icmp .ge 38, 3) := by decide +kernel
theorem dX8_words_14 : decode cX8_words 14 = .ok (.iload_n 2, 1) := by decide +kernel
theorem dX8_words_15 : decode cX8_words 15 = .ok (.aload_n 0, 1) := by decide +kernel
theorem dX8_words_16 : decode cX8_words 16 = .ok (.iload_n 3, 1) := by decide +kernel
theorem dX8_words_17 : decode cX8_words 17 = .ok (.iconst 3, 1) := by decide +kernel
theorem dX8_words_18 : decode cX8_words 18 = .ok (.invokevirtual 96, 3) := by decide +kernel
theorem dX8_words_21 : decode cX8_words 21 = .ok (.bipush (-9), 2) := by decide +kernel
theorem dX8_words_23 : decode cX8_words 23 = .ok (.if_icmp .ne 17, 3) := by decide +kernel
theorem dX8_words_26 : decode cX8_words 26 = .ok (.aload_n 0, 1) := by decide +kernel
theorem dX8_words_27 : decode cX8_words 27 = .ok (.iload_n 3, 1) := by decide +kernel
theorem dX8_words_28 : decode cX8_words 28 = .ok (.iconst 0, 1) := by decide +kernel
theorem dX8_words_29 : decode cX8_words 29 = .ok (.invokevirtual 96, 3) := by decide +kernel
theorem dX8_words_32 : decode cX8_words 32 = .ok (.iload_n 1, 1) := by decide +kernel
theorem dX8_words_33 : decode cX8_words 33 = .ok (.if_icmp .ne 7, 3) := by decide +kernel
theorem dX8_words_36 : decode cX8_words 36 = .ok (.iconst 1, 1) := by decide +kernel
theorem dX8_words_37 : decode cX8_words 37 = .ok (.goto 4, 3) := by decide +kernel
theorem dX8_words_40 : decode cX8_words 40 = .ok (.iconst 0, 1) := by decide +kernel
theorem dX8_words_41 : decode cX8_words 41 = .ok (.iadd, 1) := by decide +kernel
theorem dX8_words_42 : decode cX8_words 42 = .ok (.istore_n 2, 1) := by decide +kernel
theorem dX8_words_43 : decode cX8_words 43 = .ok (.iinc 3 1, 3) := by decide +kernel
theorem dX8_words_46 : decode cX8_words 46 = .ok (.goto (-42), 3) := by decide +kernel
theorem dX8_words_49 : decode cX8_words 49 = .ok (.iload_n 2, 1) := by decide +kernel
theorem dX8_words_50 : decode cX8_words 50 = .ok (.ireturn, 1) := by decide +kernel
set_option maxRecDepth 20000 in
theorem ggX8_writer_X8_isWriter : GoodIn wsX8_writer wsX8_isWriter := goodIn_r _ [8, 2, 9, 10, 7, 11, 20, 21, 22, 23, 24, 25, 26, 27, 28, 29, 30, 31, 32, 33, 34, 35, 36, 37] (by decide +kernel) (by decide +kernel)
set_option maxRecDepth 20000 in
theorem gX8_writer_X8_isWriter : GoodIn wsX8_writer (wsV RX8 98 RX8 yX8_isWriter wsX8_isWriter) := goodIn_app (goodIn_of _ (by decide +kernel)) ggX8_writer_X8_isWriter
set_option maxRecDepth 20000 in
theorem ggX8_writer_X8_in : GoodIn wsX8_writer wsX8_in := goodIn_r _ [11] (by decide +kernel) (by decide +kernel)
set_option maxRecDepth 20000 in
theorem gX8_writer_X8_in : GoodIn wsX8_writer (va_wsS RX8 42 yX8_in wsX8_in) := goodIn_app (goodIn_of _ (by decide +kernel)) ggX8_writer_X8_in
set_option maxRecDepth 20000 in
theorem ggX8_writer_X8_owes : GoodIn wsX8_writer wsX8_owes := goodIn_r _ [15, 3, 16, 17, 18, 7, 19, 20, 21, 22, 23, 24, 25, 26, 27, 28, 29, 30, 31, 32, 33, 34, 35, 36, 37] (by decide +kernel) (by decide +kernel)
set_option maxRecDepth 20000 in
theorem gX8_writer_X8_owes : GoodIn wsX8_writer (wsV RX8 103 RX8 yX8_owes wsX8_owes) := goodIn_app (goodIn_of _ (by decide +kernel)) ggX8_writer_X8_owes
theorem dX8_writer_0 : decode cX8_writer 0 = .ok (.aload_n 0, 1) := by decide +kernel
theorem dX8_writer_1 : decode cX8_writer 1 = .ok (.iload_n 1, 1) := by decide +kernel
theorem dX8_writer_2 : decode cX8_writer 2 = .ok (.invokevirtual 98, 3) := by decide +kernel
theorem dX8_writer_5 : decode cX8_writer 5 = .ok (.ifCond .eq 15, 3) := by decide +kernel
theorem dX8_writer_8 : decode cX8_writer 8 = .ok (.iload_n 2, 1) := by decide +kernel
theorem dX8_writer_9 : decode cX8_writer 9 = .ok (.i2l, 1) := by decide +kernel
theorem dX8_writer_10 : decode cX8_writer 10 = .ok (.lconst 0, 1) := by decide +kernel
theorem dX8_writer_11 : decode cX8_writer 11 = .ok (.ldc2_w 101, 3) := by decide +kernel
theorem dX8_writer_14 : decode cX8_writer 14 = .ok (.invokestatic 42, 3) := by decide +kernel
theorem dX8_writer_17 : decode cX8_writer 17 = .ok (.ifCond .ne 5, 3) := by decide +kernel
theorem dX8_writer_20 : decode cX8_writer 20 = .ok (.iconst (-1), 1) := by decide +kernel
theorem dX8_writer_21 : decode cX8_writer 21 = .ok (.ireturn, 1) := by decide +kernel
theorem dX8_writer_22 : decode cX8_writer 22 = .ok (.iload_n 2, 1) := by decide +kernel
theorem dX8_writer_23 : decode cX8_writer 23 = .ok (.bipush 7, 2) := by decide +kernel
theorem dX8_writer_25 : decode cX8_writer 25 = .ok (.if_icmp .ge 19, 3) := by decide +kernel
theorem dX8_writer_28 : decode cX8_writer 28 = .ok (.aload_n 0, 1) := by decide +kernel
theorem dX8_writer_29 : decode cX8_writer 29 = .ok (.getfield 16, 3) := by decide +kernel
theorem dX8_writer_32 : decode cX8_writer 32 = .ok (.iconst 3, 1) := by decide +kernel
theorem dX8_writer_33 : decode cX8_writer 33 = .ok (.bipush 7, 2) := by decide +kernel
theorem dX8_writer_35 : decode cX8_writer 35 = .ok (.iload_n 1, 1) := by decide +kernel
theorem dX8_writer_36 : decode cX8_writer 36 = .ok (.imul, 1) := by decide +kernel
theorem dX8_writer_37 : decode cX8_writer 37 = .ok (.iadd, 1) := by decide +kernel
theorem dX8_writer_38 : decode cX8_writer 38 = .ok (.iload_n 2, 1) := by decide +kernel
theorem dX8_writer_39 : decode cX8_writer 39 = .ok (.iadd, 1) := by decide +kernel
theorem dX8_writer_40 : decode cX8_writer 40 = .ok (.iaload, 1) := by decide +kernel
theorem dX8_writer_41 : decode cX8_writer 41 = .ok (.goto 44, 3) := by decide +kernel
theorem dX8_writer_44 : decode cX8_writer 44 = .ok (.iload_n 2, 1) := by decide +kernel
theorem dX8_writer_45 : decode cX8_writer 45 = .ok (.bipush 7, 2) := by decide +kernel
theorem dX8_writer_47 : decode cX8_writer 47 = .ok (.if_icmp .ne 16, 3) := by decide +kernel
theorem dX8_writer_50 : decode cX8_writer 50 = .ok (.aload_n 0, 1) := by decide +kernel
theorem dX8_writer_51 : decode cX8_writer 51 = .ok (.getfield 19, 3) := by decide +kernel
theorem dX8_writer_54 : decode cX8_writer 54 = .ok (.iconst 2, 1) := by decide +kernel
theorem dX8_writer_55 : decode cX8_writer 55 = .ok (.iaload, 1) := by decide +kernel
theorem dX8_writer_56 : decode cX8_writer 56 = .ok (.iload_n 1, 1) := by decide +kernel
theorem dX8_writer_57 : decode cX8_writer 57 = .ok (.ishr, 1) := by decide +kernel
theorem dX8_writer_58 : decode cX8_writer 58 = .ok (.iconst 1, 1) := by decide +kernel
theorem dX8_writer_59 : decode cX8_writer 59 = .ok (.iand, 1) := by decide +kernel
theorem dX8_writer_60 : decode cX8_writer 60 = .ok (.goto 25, 3) := by decide +kernel
theorem dX8_writer_63 : decode cX8_writer 63 = .ok (.iload_n 2, 1) := by decide +kernel
theorem dX8_writer_64 : decode cX8_writer 64 = .ok (.bipush 8, 2) := by decide +kernel
theorem dX8_writer_66 : decode cX8_writer 66 = .ok (.if_icmp .ne 11, 3) := by decide +kernel
theorem dX8_writer_69 : decode cX8_writer 69 = .ok (.aload_n 0, 1) := by decide +kernel
theorem dX8_writer_70 : decode cX8_writer 70 = .ok (.iload_n 1, 1) := by decide +kernel
theorem dX8_writer_71 : decode cX8_writer 71 = .ok (.invokevirtual 103, 3) := by decide +kernel
theorem dX8_writer_74 : decode cX8_writer 74 = .ok (.goto 11, 3) := by decide +kernel
theorem dX8_writer_77 : decode cX8_writer 77 = .ok (.aload_n 0, 1) := by decide +kernel
theorem dX8_writer_78 : decode cX8_writer 78 = .ok (.getfield 19, 3) := by decide +kernel
theorem dX8_writer_81 : decode cX8_writer 81 = .ok (.iconst 4, 1) := by decide +kernel
theorem dX8_writer_82 : decode cX8_writer 82 = .ok (.iload_n 1, 1) := by decide +kernel
theorem dX8_writer_83 : decode cX8_writer 83 = .ok (.iadd, 1) := by decide +kernel
theorem dX8_writer_84 : decode cX8_writer 84 = .ok (.iaload, 1) := by decide +kernel
theorem dX8_writer_85 : decode cX8_writer 85 = .ok (.ireturn, 1) := by decide +kernel
set_option maxRecDepth 20000 in
theorem ggX8_quarrel_X8_isQuarrel : GoodIn wsX8_quarrel wsX8_isQuarrel := goodIn_r _ [6, 7, 8, 9, 5, 10, 15, 16, 17, 18, 19, 20, 21, 22, 23, 24, 25, 26, 27, 28, 29, 30, 31, 32] (by decide +kernel) (by decide +kernel)
set_option maxRecDepth 20000 in
theorem gX8_quarrel_X8_isQuarrel : GoodIn wsX8_quarrel (wsV RX8 107 RX8 yX8_isQuarrel wsX8_isQuarrel) := goodIn_app (goodIn_of _ (by decide +kernel)) ggX8_quarrel_X8_isQuarrel
set_option maxRecDepth 20000 in
theorem ggX8_quarrel_X8_in : GoodIn wsX8_quarrel wsX8_in := goodIn_r _ [10] (by decide +kernel) (by decide +kernel)
set_option maxRecDepth 20000 in
theorem gX8_quarrel_X8_in : GoodIn wsX8_quarrel (va_wsS RX8 42 yX8_in wsX8_in) := goodIn_app (goodIn_of _ (by decide +kernel)) ggX8_quarrel_X8_in
set_option maxRecDepth 20000 in
theorem ggX8_quarrel_X8_at : GoodIn wsX8_quarrel wsX8_at := goodIn_r _ [14, 7, 15, 16, 17, 18, 19, 20, 21, 22, 23, 24, 25, 26, 27, 28, 29, 30, 31, 32] (by decide +kernel) (by decide +kernel)
set_option maxRecDepth 20000 in
theorem gX8_quarrel_X8_at : GoodIn wsX8_quarrel (wsV RX8 96 RX8 yX8_at wsX8_at) := goodIn_app (goodIn_of _ (by decide +kernel)) ggX8_quarrel_X8_at
theorem dX8_quarrel_0 : decode cX8_quarrel 0 = .ok (.aload_n 0, 1) := by decide +kernel
theorem dX8_quarrel_1 : decode cX8_quarrel 1 = .ok (.iload_n 1, 1) := by decide +kernel
theorem dX8_quarrel_2 : decode cX8_quarrel 2 = .ok (.invokevirtual 107, 3) := by decide +kernel
theorem dX8_quarrel_5 : decode cX8_quarrel 5 = .ok (.ifCond .eq 24, 3) := by decide +kernel
theorem dX8_quarrel_8 : decode cX8_quarrel 8 = .ok (.iload_n 2, 1) := by decide +kernel
theorem dX8_quarrel_9 : decode cX8_quarrel 9 = .ok (.i2l, 1) := by decide +kernel
theorem dX8_quarrel_10 : decode cX8_quarrel 10 = .ok (.lconst 0, 1) := by decide +kernel
theorem dX8_quarrel_11 : decode cX8_quarrel 11 = .ok (.ldc2_w 110, 3) := by decide +kernel
theorem dX8_quarrel_14 : decode cX8_quarrel 14 = .ok (.invokestatic 42, 3) := by decide +kernel
theorem dX8_quarrel_17 : decode cX8_quarrel 17 = .ok (.ifCond .eq 12, 3) := by decide +kernel
theorem dX8_quarrel_20 : decode cX8_quarrel 20 = .ok (.aload_n 0, 1) := by decide +kernel
theorem dX8_quarrel_21 : decode cX8_quarrel 21 = .ok (.iload_n 1, 1) := by decide +kernel
theorem dX8_quarrel_22 : decode cX8_quarrel 22 = .ok (.iload_n 2, 1) := by decide +kernel
theorem dX8_quarrel_23 : decode cX8_quarrel 23 = .ok (.invokevirtual 96, 3) := by decide +kernel
theorem dX8_quarrel_26 : decode cX8_quarrel 26 = .ok (.goto 4, 3) := by decide +kernel
theorem dX8_quarrel_29 : decode cX8_quarrel 29 = .ok (.iconst (-1), 1) := by decide +kernel
theorem dX8_quarrel_30 : decode cX8_quarrel 30 = .ok (.ireturn, 1) := by decide +kernel
set_option maxRecDepth 20000 in
theorem ggX8_meant_X8_isWriter : GoodIn wsX8_meant wsX8_isWriter := goodIn_r _ [6, 7, 8, 9, 5, 10, 23, 24, 25, 26, 27, 28, 29, 30, 31, 32, 33, 34, 35, 36, 37, 38, 39, 40] (by decide +kernel) (by decide +kernel)
set_option maxRecDepth 20000 in
theorem gX8_meant_X8_isWriter : GoodIn wsX8_meant (wsV RX8 98 RX8 yX8_isWriter wsX8_isWriter) := goodIn_app (goodIn_of _ (by decide +kernel)) ggX8_meant_X8_isWriter
set_option maxRecDepth 20000 in
theorem ggX8_meant_X8_isSubject : GoodIn wsX8_meant wsX8_isSubject := goodIn_r _ [13, 14, 8, 9, 5, 10] (by decide +kernel) (by decide +kernel)
set_option maxRecDepth 20000 in
theorem gX8_meant_X8_isSubject : GoodIn wsX8_meant (va_wsS RX8 112 yX8_isSubject wsX8_isSubject) := goodIn_app (goodIn_of _ (by decide +kernel)) ggX8_meant_X8_isSubject
set_option maxRecDepth 20000 in
theorem ggX8_meant_X8_meantOf : GoodIn wsX8_meant wsX8_meantOf := goodIn_r _ [18, 7, 19, 20, 21, 5, 22, 23, 24, 25, 26, 27, 28, 29, 30, 31, 32, 33, 34, 35, 36, 37, 38, 39, 40] (by decide +kernel) (by decide +kernel)
set_option maxRecDepth 20000 in
theorem gX8_meant_X8_meantOf : GoodIn wsX8_meant (wsV RX8 115 RX8 yX8_meantOf wsX8_meantOf) := goodIn_app (goodIn_of _ (by decide +kernel)) ggX8_meant_X8_meantOf
theorem dX8_meant_0 : decode cX8_meant 0 = .ok (.aload_n 0, 1) := by decide +kernel
theorem dX8_meant_1 : decode cX8_meant 1 = .ok (.iload_n 1, 1) := by decide +kernel
theorem dX8_meant_2 : decode cX8_meant 2 = .ok (.invokevirtual 98, 3) := by decide +kernel
theorem dX8_meant_5 : decode cX8_meant 5 = .ok (.ifCond .eq 25, 3) := by decide +kernel
theorem dX8_meant_8 : decode cX8_meant 8 = .ok (.iload_n 2, 1) := by decide +kernel
theorem dX8_meant_9 : decode cX8_meant 9 = .ok (.invokestatic 112, 3) := by decide +kernel
theorem dX8_meant_12 : decode cX8_meant 12 = .ok (.ifCond .eq 18, 3) := by decide +kernel
theorem dX8_meant_15 : decode cX8_meant 15 = .ok (.aload_n 0, 1) := by decide +kernel
theorem dX8_meant_16 : decode cX8_meant 16 = .ok (.iload_n 1, 1) := by decide +kernel
theorem dX8_meant_17 : decode cX8_meant 17 = .ok (.iload_n 2, 1) := by decide +kernel
theorem dX8_meant_18 : decode cX8_meant 18 = .ok (.aload_n 0, 1) := by decide +kernel
theorem dX8_meant_19 : decode cX8_meant 19 = .ok (.getfield 19, 3) := by decide +kernel
theorem dX8_meant_22 : decode cX8_meant 22 = .ok (.iconst 2, 1) := by decide +kernel
theorem dX8_meant_23 : decode cX8_meant 23 = .ok (.iaload, 1) := by decide +kernel
theorem dX8_meant_24 : decode cX8_meant 24 = .ok (.invokevirtual 115, 3) := by decide +kernel
theorem dX8_meant_27 : decode cX8_meant 27 = .ok (.goto 4, 3) := by decide +kernel
theorem dX8_meant_30 : decode cX8_meant 30 = .ok (.iconst (-1), 1) := by decide +kernel
theorem dX8_meant_31 : decode cX8_meant 31 = .ok (.ireturn, 1) := by decide +kernel
set_option maxRecDepth 20000 in
theorem ggX8_now_X8_at : GoodIn wsX8_now wsX8_at := goodIn_r _ [7, 1, 8, 9, 10, 11, 12, 13, 14, 15, 16, 17, 18, 19, 20, 21, 22, 23, 24, 25] (by decide +kernel) (by decide +kernel)
set_option maxRecDepth 20000 in
theorem gX8_now_X8_at : GoodIn wsX8_now (wsV RX8 96 RX8 yX8_at wsX8_at) := goodIn_app (goodIn_of _ (by decide +kernel)) ggX8_now_X8_at
theorem dX8_now_0 : decode cX8_now 0 = .ok (.iconst 0, 1) := by decide +kernel
theorem dX8_now_1 : decode cX8_now 1 = .ok (.istore_n 2, 1) := by decide +kernel
theorem dX8_now_2 : decode cX8_now 2 = .ok (.iconst 0, 1) := by decide +kernel
theorem dX8_now_3 : decode cX8_now 3 = .ok (.istore_n 3, 1) := by decide +kernel
theorem dX8_now_4 : decode cX8_now 4 = .ok (.iload_n 3, 1) := by decide +kernel
theorem dX8_now_5 : decode cX8_now 5 = .ok (.aload_n 0, 1) := by decide +kernel
theorem dX8_now_6 : decode cX8_now 6 = .ok (.getfield 19, 3) := by decide +kernel
theorem dX8_now_9 : decode cX8_now 9 = .ok (.iconst 1, 1) := by decide +kernel
theorem dX8_now_10 : decode cX8_now 10 = .ok (.iaload, 1) := by decide +kernel
theorem dX8_now_11 : decode cX8_now 11 = .ok (.if_icmp .ge 30, 3) := by decide +kernel
theorem dX8_now_14 : decode cX8_now 14 = .ok (.iload_n 2, 1) := by decide +kernel
theorem dX8_now_15 : decode cX8_now 15 = .ok (.aload_n 0, 1) := by decide +kernel
theorem dX8_now_16 : decode cX8_now 16 = .ok (.iload_n 3, 1) := by decide +kernel
theorem dX8_now_17 : decode cX8_now 17 = .ok (.iconst 3, 1) := by decide +kernel
theorem dX8_now_18 : decode cX8_now 18 = .ok (.invokevirtual 96, 3) := by decide +kernel
theorem dX8_now_21 : decode cX8_now 21 = .ok (.bipush (-9), 2) := by decide +kernel
theorem dX8_now_23 : decode cX8_now 23 = .ok (.if_icmp .ne 9, 3) := by decide +kernel
theorem dX8_now_26 : decode cX8_now 26 = .ok (.iconst 1, 1) := by decide +kernel
theorem dX8_now_27 : decode cX8_now 27 = .ok (.iload_n 3, 1) := by decide +kernel
theorem dX8_now_28 : decode cX8_now 28 = .ok (.ishl, 1) := by decide +kernel
theorem dX8_now_29 : decode cX8_now 29 = .ok (.goto 4, 3) := by decide +kernel
theorem dX8_now_32 : decode cX8_now 32 = .ok (.iconst 0, 1) := by decide +kernel
theorem dX8_now_33 : decode cX8_now 33 = .ok (.ior, 1) := by decide +kernel
theorem dX8_now_34 : decode cX8_now 34 = .ok (.istore_n 2, 1) := by decide +kernel
theorem dX8_now_35 : decode cX8_now 35 = .ok (.iinc 3 1, 3) := by decide +kernel
theorem dX8_now_38 : decode cX8_now 38 = .ok (.goto (-34), 3) := by decide +kernel
theorem dX8_now_41 : decode cX8_now 41 = .ok (.iload_n 1, 1) := by decide +kernel
theorem dX8_now_42 : decode cX8_now 42 = .ok (.tableswitch 48 0 4 #[34, 34, 41, 34, 43], 34) := by decide +kernel
theorem dX8_now_76 : decode cX8_now 76 = .ok (.aload_n 0, 1) := by decide +kernel
theorem dX8_now_77 : decode cX8_now 77 = .ok (.getfield 19, 3) := by decide +kernel
theorem dX8_now_80 : decode cX8_now 80 = .ok (.iload_n 1, 1) := by decide +kernel
theorem dX8_now_81 : decode cX8_now 81 = .ok (.iaload, 1) := by decide +kernel
theorem dX8_now_82 : decode cX8_now 82 = .ok (.ireturn, 1) := by decide +kernel
theorem dX8_now_83 : decode cX8_now 83 = .ok (.iload_n 2, 1) := by decide +kernel
theorem dX8_now_84 : decode cX8_now 84 = .ok (.ireturn, 1) := by decide +kernel
theorem dX8_now_85 : decode cX8_now 85 = .ok (.aload_n 0, 1) := by decide +kernel
theorem dX8_now_86 : decode cX8_now 86 = .ok (.getfield 87, 3) := by decide +kernel
theorem dX8_now_89 : decode cX8_now 89 = .ok (.ireturn, 1) := by decide +kernel
theorem dX8_now_90 : decode cX8_now 90 = .ok (.iconst (-1), 1) := by decide +kernel
theorem dX8_now_91 : decode cX8_now 91 = .ok (.ireturn, 1) := by decide +kernel
end
section
theorem dX8_notes_0 : decode cX8_notes 0 = .ok (.aload_n 0, 1) := by decide +kernel
theorem dX8_notes_1 : decode cX8_notes 1 = .ok (.getfield 87, 3) := by decide +kernel
theorem dX8_notes_4 : decode cX8_notes 4 = .ok (.bipush 10, 2) := by decide +kernel
theorem dX8_notes_6 : decode cX8_notes 6 = .ok (.if_icmp .ne 40, 3) := by decide +kernel
theorem dX8_notes_9 : decode cX8_notes 9 = .ok (.bipush 46, 2) := by decide +kernel
theorem dX8_notes_11 : decode cX8_notes 11 = .ok (.istore_n 1, 1) := by decide +kernel
theorem dX8_notes_12 : decode cX8_notes 12 = .ok (.iload_n 1, 1) := by decide +kernel
theorem dX8_notes_13 : decode cX8_notes 13 = .ok (.sipush 460, 3) := by decide +kernel
theorem dX8_notes_16 : decode cX8_notes 16 = .ok (.if_icmp .ge 24, 3) := by decide +kernel
theorem dX8_notes_19 : decode cX8_notes 19 = .ok (.aload_n 0, 1) := by decide +kernel
theorem dX8_notes_20 : decode cX8_notes 20 = .ok (.getfield 22, 3) := by decide +kernel
theorem dX8_notes_23 : decode cX8_notes 23 = .ok (.iload_n 1, 1) := by decide +kernel
theorem dX8_notes_24 : decode cX8_notes 24 = .ok (.bipush 46, 2) := by decide +kernel
theorem dX8_notes_26 : decode cX8_notes 26 = .ok (.isub, 1) := by decide +kernel
theorem dX8_notes_27 : decode cX8_notes 27 = .ok (.aload_n 0, 1) := by decide +kernel
theorem dX8_notes_28 : decode cX8_notes 28 = .ok (.getfield 22, 3) := by decide +kernel
theorem dX8_notes_31 : decode cX8_notes 31 = .ok (.iload_n 1, 1) := by decide +kernel
theorem dX8_notes_32 : decode cX8_notes 32 = .ok (.iaload, 1) := by decide +kernel
theorem dX8_notes_33 : decode cX8_notes 33 = .ok (.iastore, 1) := by decide +kernel
theorem dX8_notes_34 : decode cX8_notes 34 = .ok (.iinc 1 1, 3) := by decide +kernel
theorem dX8_notes_37 : decode cX8_notes 37 = .ok (.goto (-25), 3) := by decide +kernel
theorem dX8_notes_40 : decode cX8_notes 40 = .ok (.aload_n 0, 1) := by decide +kernel
theorem dX8_notes_41 : decode cX8_notes 41 = .ok (.bipush 9, 2) := by decide +kernel
theorem dX8_notes_43 : decode cX8_notes 43 = .ok (.putfield 87, 3) := by decide +kernel
theorem dX8_notes_46 : decode cX8_notes 46 = .ok (.iconst 0, 1) := by decide +kernel
theorem dX8_notes_47 : decode cX8_notes 47 = .ok (.istore_n 1, 1) := by decide +kernel
theorem dX8_notes_48 : decode cX8_notes 48 = .ok (.iload_n 1, 1) := by decide +kernel
theorem dX8_notes_49 : decode cX8_notes 49 = .ok (.bipush 46, 2) := by decide +kernel
theorem dX8_notes_51 : decode cX8_notes 51 = .ok (.if_icmp .ge 29, 3) := by decide +kernel
theorem dX8_notes_54 : decode cX8_notes 54 = .ok (.aload_n 0, 1) := by decide +kernel
theorem dX8_notes_55 : decode cX8_notes 55 = .ok (.getfield 22, 3) := by decide +kernel
theorem dX8_notes_58 : decode cX8_notes 58 = .ok (.bipush 46, 2) := by decide +kernel
theorem dX8_notes_60 : decode cX8_notes 60 = .ok (.aload_n 0, 1) := by decide +kernel
theorem dX8_notes_61 : decode cX8_notes 61 = .ok (.getfield 87, 3) := by decide +kernel
theorem dX8_notes_64 : decode cX8_notes 64 = .ok (.imul, 1) := by decide +kernel
theorem dX8_notes_65 : decode cX8_notes 65 = .ok (.iload_n 1, 1) := by decide +kernel
theorem dX8_notes_66 : decode cX8_notes 66 = .ok (.iadd, 1) := by decide +kernel
theorem dX8_notes_67 : decode cX8_notes 67 = .ok (.aload_n 0, 1) := by decide +kernel
theorem dX8_notes_68 : decode cX8_notes 68 = .ok (.getfield 19, 3) := by decide +kernel
theorem dX8_notes_71 : decode cX8_notes 71 = .ok (.iload_n 1, 1) := by decide +kernel
theorem dX8_notes_72 : decode cX8_notes 72 = .ok (.iaload, 1) := by decide +kernel
theorem dX8_notes_73 : decode cX8_notes 73 = .ok (.iastore, 1) := by decide +kernel
theorem dX8_notes_74 : decode cX8_notes 74 = .ok (.iinc 1 1, 3) := by decide +kernel
theorem dX8_notes_77 : decode cX8_notes 77 = .ok (.goto (-29), 3) := by decide +kernel
theorem dX8_notes_80 : decode cX8_notes 80 = .ok (.aload_n 0, 1) := by decide +kernel
theorem dX8_notes_81 : decode cX8_notes 81 = .ok (.dup, 1) := by decide +kernel
theorem dX8_notes_82 : decode cX8_notes 82 = .ok (.getfield 87, 3) := by decide +kernel
theorem dX8_notes_85 : decode cX8_notes 85 = .ok (.iconst 1, 1) := by decide +kernel
theorem dX8_notes_86 : decode cX8_notes 86 = .ok (.iadd, 1) := by decide +kernel
theorem dX8_notes_87 : decode cX8_notes 87 = .ok (.putfield 87, 3) := by decide +kernel
theorem dX8_notes_90 : decode cX8_notes 90 = .ok (.return_, 1) := by decide +kernel
set_option maxRecDepth 20000 in
theorem ggX8_means_X8_meantOf : GoodIn wsX8_means wsX8_meantOf := goodIn_r _ [6, 7, 8, 9, 10, 5, 11, 16, 17, 18, 19, 20, 21, 22, 23, 24, 25, 26, 27, 28, 29, 30, 31, 32, 33] (by decide +kernel) (by decide +kernel)
set_option maxRecDepth 20000 in
theorem gX8_means_X8_meantOf : GoodIn wsX8_means (wsV RX8 115 RX8 yX8_meantOf wsX8_meantOf) := goodIn_app (goodIn_of _ (by decide +kernel)) ggX8_means_X8_meantOf
set_option maxRecDepth 20000 in
theorem ggX8_means_X8_pen : GoodIn wsX8_means wsX8_pen := goodIn_r _ [15, 7, 16, 17, 18, 19, 20, 21, 22, 23, 24, 25, 26, 27, 28, 29, 30, 31, 32, 33] (by decide +kernel) (by decide +kernel)
set_option maxRecDepth 20000 in
theorem gX8_means_X8_pen : GoodIn wsX8_means (wsV RX8 119 RX8 yX8_pen wsX8_pen) := goodIn_app (goodIn_of _ (by decide +kernel)) ggX8_means_X8_pen
theorem dX8_means_0 : decode cX8_means 0 = .ok (.bipush 10, 2) := by decide +kernel
theorem dX8_means_2 : decode cX8_means 2 = .ok (.bipush 6, 2) := by decide +kernel
theorem dX8_means_4 : decode cX8_means 4 = .ok (.iload_n 1, 1) := by decide +kernel
theorem dX8_means_5 : decode cX8_means 5 = .ok (.imul, 1) := by decide +kernel
theorem dX8_means_6 : decode cX8_means 6 = .ok (.iadd, 1) := by decide +kernel
theorem dX8_means_7 : decode cX8_means 7 = .ok (.istore_n 2, 1) := by decide +kernel
theorem dX8_means_8 : decode cX8_means 8 = .ok (.aload_n 0, 1) := by decide +kernel
theorem dX8_means_9 : decode cX8_means 9 = .ok (.aload_n 0, 1) := by decide +kernel
theorem dX8_means_10 : decode cX8_means 10 = .ok (.getfield 19, 3) := by decide +kernel
theorem dX8_means_13 : decode cX8_means 13 = .ok (.iload_n 2, 1) := by decide +kernel
theorem dX8_means_14 : decode cX8_means 14 = .ok (.iaload, 1) := by decide +kernel
theorem dX8_means_15 : decode cX8_means 15 = .ok (.aload_n 0, 1) := by decide +kernel
theorem dX8_means_16 : decode cX8_means 16 = .ok (.getfield 19, 3) := by decide +kernel
theorem dX8_means_19 : decode cX8_means 19 = .ok (.iload_n 2, 1) := by decide +kernel
theorem dX8_means_20 : decode cX8_means 20 = .ok (.iconst 1, 1) := by decide +kernel
theorem dX8_means_21 : decode cX8_means 21 = .ok (.iadd, 1) := by decide +kernel
theorem dX8_means_22 : decode cX8_means 22 = .ok (.iaload, 1) := by decide +kernel
theorem dX8_means_23 : decode cX8_means 23 = .ok (.aload_n 0, 1) := by decide +kernel
theorem dX8_means_24 : decode cX8_means 24 = .ok (.getfield 19, 3) := by decide +kernel
theorem dX8_means_27 : decode cX8_means 27 = .ok (.iconst 2, 1) := by decide +kernel
theorem dX8_means_28 : decode cX8_means 28 = .ok (.iaload, 1) := by decide +kernel
theorem dX8_means_29 : decode cX8_means 29 = .ok (.invokevirtual 115, 3) := by decide +kernel
theorem dX8_means_32 : decode cX8_means 32 = .ok (.istore_n 3, 1) := by decide +kernel
theorem dX8_means_33 : decode cX8_means 33 = .ok (.aload_n 0, 1) := by decide +kernel
theorem dX8_means_34 : decode cX8_means 34 = .ok (.getfield 19, 3) := by decide +kernel
theorem dX8_means_37 : decode cX8_means 37 = .ok (.iload_n 2, 1) := by decide +kernel
theorem dX8_means_38 : decode cX8_means 38 = .ok (.iconst 3, 1) := by decide +kernel
theorem dX8_means_39 : decode cX8_means 39 = .ok (.iadd, 1) := by decide +kernel
theorem dX8_means_40 : decode cX8_means 40 = .ok (.iload_n 3, 1) := by decide +kernel
theorem dX8_means_41 : decode cX8_means 41 = .ok (.iastore, 1) := by decide +kernel
theorem dX8_means_42 : decode cX8_means 42 = .ok (.aload_n 0, 1) := by decide +kernel
theorem dX8_means_43 : decode cX8_means 43 = .ok (.getfield 19, 3) := by decide +kernel
theorem dX8_means_46 : decode cX8_means 46 = .ok (.iload_n 2, 1) := by decide +kernel
theorem dX8_means_47 : decode cX8_means 47 = .ok (.iconst 4, 1) := by decide +kernel
theorem dX8_means_48 : decode cX8_means 48 = .ok (.iadd, 1) := by decide +kernel
theorem dX8_means_49 : decode cX8_means 49 = .ok (.iload_n 3, 1) := by decide +kernel
theorem dX8_means_50 : decode cX8_means 50 = .ok (.bipush (-9), 2) := by decide +kernel
theorem dX8_means_52 : decode cX8_means 52 = .ok (.if_icmp .ne 7, 3) := by decide +kernel
theorem dX8_means_55 : decode cX8_means 55 = .ok (.iconst 0, 1) := by decide +kernel
theorem dX8_means_56 : decode cX8_means 56 = .ok (.goto 8, 3) := by decide +kernel
theorem dX8_means_59 : decode cX8_means 59 = .ok (.aload_n 0, 1) := by decide +kernel
theorem dX8_means_60 : decode cX8_means 60 = .ok (.iload_n 3, 1) := by decide +kernel
theorem dX8_means_61 : decode cX8_means 61 = .ok (.invokevirtual 119, 3) := by decide +kernel
theorem dX8_means_64 : decode cX8_means 64 = .ok (.iastore, 1) := by decide +kernel
theorem dX8_means_65 : decode cX8_means 65 = .ok (.return_, 1) := by decide +kernel
set_option maxRecDepth 20000 in
theorem ggX8_prints_X8_means : GoodIn wsX8_prints wsX8_means := goodIn_r _ [6, 1, 7, 8, 9, 5, 10, 11, 12, 13, 14, 15, 16, 17, 18, 19, 20, 21, 22, 23, 24, 25, 26, 27, 28, 29, 30, 31, 32, 33, 34, 35, 36, 37] (by decide +kernel) (by decide +kernel)
set_option maxRecDepth 20000 in
theorem gX8_prints_X8_means : GoodIn wsX8_prints (wsV RX8 122 RX8 yX8_means wsX8_means) := goodIn_app (goodIn_of _ (by decide +kernel)) ggX8_prints_X8_means
theorem dX8_prints_0 : decode cX8_prints 0 = .ok (.bipush 10, 2) := by decide +kernel
theorem dX8_prints_2 : decode cX8_prints 2 = .ok (.bipush 6, 2) := by decide +kernel
theorem dX8_prints_4 : decode cX8_prints 4 = .ok (.iload_n 1, 1) := by decide +kernel
theorem dX8_prints_5 : decode cX8_prints 5 = .ok (.imul, 1) := by decide +kernel
theorem dX8_prints_6 : decode cX8_prints 6 = .ok (.iadd, 1) := by decide +kernel
theorem dX8_prints_7 : decode cX8_prints 7 = .ok (.istore 4, 2) := by decide +kernel
theorem dX8_prints_9 : decode cX8_prints 9 = .ok (.aload_n 0, 1) := by decide +kernel
theorem dX8_prints_10 : decode cX8_prints 10 = .ok (.getfield 19, 3) := by decide +kernel
theorem dX8_prints_13 : decode cX8_prints 13 = .ok (.iload 4, 2) := by decide +kernel
theorem dX8_prints_15 : decode cX8_prints 15 = .ok (.iload_n 2, 1) := by decide +kernel
theorem dX8_prints_16 : decode cX8_prints 16 = .ok (.iastore, 1) := by decide +kernel
theorem dX8_prints_17 : decode cX8_prints 17 = .ok (.aload_n 0, 1) := by decide +kernel
theorem dX8_prints_18 : decode cX8_prints 18 = .ok (.getfield 19, 3) := by decide +kernel
theorem dX8_prints_21 : decode cX8_prints 21 = .ok (.iload 4, 2) := by decide +kernel
theorem dX8_prints_23 : decode cX8_prints 23 = .ok (.iconst 1, 1) := by decide +kernel
theorem dX8_prints_24 : decode cX8_prints 24 = .ok (.iadd, 1) := by decide +kernel
theorem dX8_prints_25 : decode cX8_prints 25 = .ok (.iload_n 3, 1) := by decide +kernel
theorem dX8_prints_26 : decode cX8_prints 26 = .ok (.iastore, 1) := by decide +kernel
theorem dX8_prints_27 : decode cX8_prints 27 = .ok (.aload_n 0, 1) := by decide +kernel
theorem dX8_prints_28 : decode cX8_prints 28 = .ok (.getfield 19, 3) := by decide +kernel
theorem dX8_prints_31 : decode cX8_prints 31 = .ok (.iload 4, 2) := by decide +kernel
theorem dX8_prints_33 : decode cX8_prints 33 = .ok (.iconst 2, 1) := by decide +kernel
theorem dX8_prints_34 : decode cX8_prints 34 = .ok (.iadd, 1) := by decide +kernel
theorem dX8_prints_35 : decode cX8_prints 35 = .ok (.aload_n 0, 1) := by decide +kernel
theorem dX8_prints_36 : decode cX8_prints 36 = .ok (.getfield 19, 3) := by decide +kernel
theorem dX8_prints_39 : decode cX8_prints 39 = .ok (.iconst 0, 1) := by decide +kernel
theorem dX8_prints_40 : decode cX8_prints 40 = .ok (.iaload, 1) := by decide +kernel
theorem dX8_prints_41 : decode cX8_prints 41 = .ok (.iastore, 1) := by decide +kernel
theorem dX8_prints_42 : decode cX8_prints 42 = .ok (.aload_n 0, 1) := by decide +kernel
theorem dX8_prints_43 : decode cX8_prints 43 = .ok (.getfield 19, 3) := by decide +kernel
theorem dX8_prints_46 : decode cX8_prints 46 = .ok (.iload 4, 2) := by decide +kernel
theorem dX8_prints_48 : decode cX8_prints 48 = .ok (.iconst 5, 1) := by decide +kernel
theorem dX8_prints_49 : decode cX8_prints 49 = .ok (.iadd, 1) := by decide +kernel
theorem dX8_prints_50 : decode cX8_prints 50 = .ok (.iconst 0, 1) := by decide +kernel
theorem dX8_prints_51 : decode cX8_prints 51 = .ok (.iastore, 1) := by decide +kernel
theorem dX8_prints_52 : decode cX8_prints 52 = .ok (.aload_n 0, 1) := by decide +kernel
theorem dX8_prints_53 : decode cX8_prints 53 = .ok (.getfield 19, 3) := by decide +kernel
theorem dX8_prints_56 : decode cX8_prints 56 = .ok (.iconst 3, 1) := by decide +kernel
theorem dX8_prints_57 : decode cX8_prints 57 = .ok (.dup2, 1) := by decide +kernel
theorem dX8_prints_58 : decode cX8_prints 58 = .ok (.iaload, 1) := by decide +kernel
theorem dX8_prints_59 : decode cX8_prints 59 = .ok (.iconst 1, 1) := by decide +kernel
theorem dX8_prints_60 : decode cX8_prints 60 = .ok (.iadd, 1) := by decide +kernel
theorem dX8_prints_61 : decode cX8_prints 61 = .ok (.iastore, 1) := by decide +kernel
theorem dX8_prints_62 : decode cX8_prints 62 = .ok (.aload_n 0, 1) := by decide +kernel
theorem dX8_prints_63 : decode cX8_prints 63 = .ok (.iload_n 1, 1) := by decide +kernel
theorem dX8_prints_64 : decode cX8_prints 64 = .ok (.invokevirtual 122, 3) := by decide +kernel
theorem dX8_prints_67 : decode cX8_prints 67 = .ok (.return_, 1) := by decide +kernel
set_option maxRecDepth 20000 in
theorem ggX8_writes_X8_isWriter : GoodIn wsX8_writes wsX8_isWriter := goodIn_r _ [6, 7, 8, 9, 5, 10, 45, 46, 47, 48, 49, 50, 51, 52, 53, 54, 55, 56, 57, 58, 59, 60, 61, 62] (by decide +kernel) (by decide +kernel)
set_option maxRecDepth 20000 in
theorem gX8_writes_X8_isWriter : GoodIn wsX8_writes (wsV RX8 98 RX8 yX8_isWriter wsX8_isWriter) := goodIn_app (goodIn_of _ (by decide +kernel)) ggX8_writes_X8_isWriter
set_option maxRecDepth 20000 in
theorem ggX8_writes_X8_isSubject : GoodIn wsX8_writes wsX8_isSubject := goodIn_r _ [13, 14, 8, 9, 5, 10] (by decide +kernel) (by decide +kernel)
set_option maxRecDepth 20000 in
theorem gX8_writes_X8_isSubject : GoodIn wsX8_writes (va_wsS RX8 112 yX8_isSubject wsX8_isSubject) := goodIn_app (goodIn_of _ (by decide +kernel)) ggX8_writes_X8_isSubject
set_option maxRecDepth 20000 in
theorem ggX8_writes_X8_hasLaid : GoodIn wsX8_writes wsX8_hasLaid := goodIn_r _ [18, 1, 45, 46, 47, 48, 49, 50, 51, 52, 53, 54, 55, 56, 57, 58, 59, 60, 61, 62] (by decide +kernel) (by decide +kernel)
set_option maxRecDepth 20000 in
theorem gX8_writes_X8_hasLaid : GoodIn wsX8_writes (wsV RX8 126 RX8 yX8_hasLaid wsX8_hasLaid) := goodIn_app (goodIn_of _ (by decide +kernel)) ggX8_writes_X8_hasLaid
set_option maxRecDepth 20000 in
theorem ggX8_writes_X8_notes : GoodIn wsX8_writes wsX8_notes := goodIn_r _ [22, 23, 24, 1, 45, 46, 47, 48, 49, 50, 51, 52, 53, 54, 55, 56, 57, 58, 59, 60, 61, 62] (by decide +kernel) (by decide +kernel)
set_option maxRecDepth 20000 in
theorem gX8_writes_X8_notes : GoodIn wsX8_writes (wsV RX8 129 RX8 yX8_notes wsX8_notes) := goodIn_app (goodIn_of _ (by decide +kernel)) ggX8_writes_X8_notes
set_option maxRecDepth 20000 in
theorem ggX8_writes_X8_prints : GoodIn wsX8_writes wsX8_prints := goodIn_r _ [28, 1, 29, 30, 31, 5, 32, 33, 34, 35, 36, 7, 37, 38, 39, 40, 41, 42, 43, 44, 45, 46, 47, 48, 49, 50, 51, 52, 53, 54, 55, 56, 57, 58, 59, 60, 61, 62] (by decide +kernel) (by decide +kernel)
set_option maxRecDepth 20000 in
theorem gX8_writes_X8_prints : GoodIn wsX8_writes (wsV RX8 132 RX8 yX8_prints wsX8_prints) := goodIn_app (goodIn_of _ (by decide +kernel)) ggX8_writes_X8_prints
theorem dX8_writes_0 : decode cX8_writes 0 = .ok (.aload_n 0, 1) := by decide +kernel
theorem dX8_writes_1 : decode cX8_writes 1 = .ok (.iload_n 1, 1) := by decide +kernel
theorem dX8_writes_2 : decode cX8_writes 2 = .ok (.invokevirtual 98, 3) := by decide +kernel
theorem dX8_writes_5 : decode cX8_writes 5 = .ok (.ifCond .eq 10, 3) := by decide +kernel
theorem dX8_writes_8 : decode cX8_writes 8 = .ok (.iload_n 2, 1) := by decide +kernel
theorem dX8_writes_9 : decode cX8_writes 9 = .ok (.invokestatic 112, 3) := by decide +kernel
theorem dX8_writes_12 : decode cX8_writes 12 = .ok (.ifCond .ne 5, 3) := by decide +kernel
theorem dX8_writes_15 : decode cX8_writes 15 = .ok (.iconst (-1), 1) := by decide +kernel
theorem dX8_writes_16 : decode cX8_writes 16 = .ok (.ireturn, 1) := by decide +kernel
theorem dX8_writes_17 : decode cX8_writes 17 = .ok (.aload_n 0, 1) := by decide +kernel
theorem dX8_writes_18 : decode cX8_writes 18 = .ok (.iload_n 1, 1) := by decide +kernel
theorem dX8_writes_19 : decode cX8_writes 19 = .ok (.invokevirtual 126, 3) := by decide +kernel
theorem dX8_writes_22 : decode cX8_writes 22 = .ok (.ifCond .eq 6, 3) := by decide +kernel
theorem dX8_writes_25 : decode cX8_writes 25 = .ok (.bipush (-2), 2) := by decide +kernel
theorem dX8_writes_27 : decode cX8_writes 27 = .ok (.ireturn, 1) := by decide +kernel
theorem dX8_writes_28 : decode cX8_writes 28 = .ok (.aload_n 0, 1) := by decide +kernel
theorem dX8_writes_29 : decode cX8_writes 29 = .ok (.getfield 19, 3) := by decide +kernel
theorem dX8_writes_32 : decode cX8_writes 32 = .ok (.iconst 1, 1) := by decide +kernel
theorem dX8_writes_33 : decode cX8_writes 33 = .ok (.iaload, 1) := by decide +kernel
theorem dX8_writes_34 : decode cX8_writes 34 = .ok (.bipush 6, 2) := by decide +kernel
theorem dX8_writes_36 : decode cX8_writes 36 = .ok (.if_icmp .ne 6, 3) := by decide +kernel
theorem dX8_writes_39 : decode cX8_writes 39 = .ok (.bipush (-3), 2) := by decide +kernel
theorem dX8_writes_41 : decode cX8_writes 41 = .ok (.ireturn, 1) := by decide +kernel
theorem dX8_writes_42 : decode cX8_writes 42 = .ok (.aload_n 0, 1) := by decide +kernel
theorem dX8_writes_43 : decode cX8_writes 43 = .ok (.invokevirtual 129, 3) := by decide +kernel
theorem dX8_writes_46 : decode cX8_writes 46 = .ok (.aload_n 0, 1) := by decide +kernel
theorem dX8_writes_47 : decode cX8_writes 47 = .ok (.getfield 19, 3) := by decide +kernel
theorem dX8_writes_50 : decode cX8_writes 50 = .ok (.iconst 1, 1) := by decide +kernel
theorem dX8_writes_51 : decode cX8_writes 51 = .ok (.dup2, 1) := by decide +kernel
theorem dX8_writes_52 : decode cX8_writes 52 = .ok (.iaload, 1) := by decide +kernel
theorem dX8_writes_53 : decode cX8_writes 53 = .ok (.iconst 1, 1) := by decide +kernel
theorem dX8_writes_54 : decode cX8_writes 54 = .ok (.iadd, 1) := by decide +kernel
theorem dX8_writes_55 : decode cX8_writes 55 = .ok (.iastore, 1) := by decide +kernel
theorem dX8_writes_56 : decode cX8_writes 56 = .ok (.aload_n 0, 1) := by decide +kernel
theorem dX8_writes_57 : decode cX8_writes 57 = .ok (.aload_n 0, 1) := by decide +kernel
theorem dX8_writes_58 : decode cX8_writes 58 = .ok (.getfield 19, 3) := by decide +kernel
theorem dX8_writes_61 : decode cX8_writes 61 = .ok (.iconst 1, 1) := by decide +kernel
theorem dX8_writes_62 : decode cX8_writes 62 = .ok (.iaload, 1) := by decide +kernel
theorem dX8_writes_63 : decode cX8_writes 63 = .ok (.iconst 1, 1) := by decide +kernel
theorem dX8_writes_64 : decode cX8_writes 64 = .ok (.isub, 1) := by decide +kernel
theorem dX8_writes_65 : decode cX8_writes 65 = .ok (.iload_n 1, 1) := by decide +kernel
theorem dX8_writes_66 : decode cX8_writes 66 = .ok (.iload_n 2, 1) := by decide +kernel
theorem dX8_writes_67 : decode cX8_writes 67 = .ok (.invokevirtual 132, 3) := by decide +kernel
theorem dX8_writes_70 : decode cX8_writes 70 = .ok (.aload_n 0, 1) := by decide +kernel
theorem dX8_writes_71 : decode cX8_writes 71 = .ok (.getfield 19, 3) := by decide +kernel
theorem dX8_writes_74 : decode cX8_writes 74 = .ok (.iconst 1, 1) := by decide +kernel
theorem dX8_writes_75 : decode cX8_writes 75 = .ok (.iaload, 1) := by decide +kernel
theorem dX8_writes_76 : decode cX8_writes 76 = .ok (.iconst 1, 1) := by decide +kernel
theorem dX8_writes_77 : decode cX8_writes 77 = .ok (.isub, 1) := by decide +kernel
theorem dX8_writes_78 : decode cX8_writes 78 = .ok (.ireturn, 1) := by decide +kernel
set_option maxRecDepth 20000 in
theorem ggX8_worksOn_X8_at : GoodIn wsX8_worksOn wsX8_at := goodIn_r _ [6, 1, 7, 8, 9, 10, 11, 12, 13, 14, 15, 16, 17, 18, 19, 20, 21, 22, 23, 24] (by decide +kernel) (by decide +kernel)
set_option maxRecDepth 20000 in
theorem gX8_worksOn_X8_at : GoodIn wsX8_worksOn (wsV RX8 96 RX8 yX8_at wsX8_at) := goodIn_app (goodIn_of _ (by decide +kernel)) ggX8_worksOn_X8_at
theorem dX8_worksOn_0 : decode cX8_worksOn 0 = .ok (.bipush (-9), 2) := by decide +kernel
theorem dX8_worksOn_2 : decode cX8_worksOn 2 = .ok (.istore_n 2, 1) := by decide +kernel
theorem dX8_worksOn_3 : decode cX8_worksOn 3 = .ok (.iconst 0, 1) := by decide +kernel
theorem dX8_worksOn_4 : decode cX8_worksOn 4 = .ok (.istore_n 3, 1) := by decide +kernel
theorem dX8_worksOn_5 : decode cX8_worksOn 5 = .ok (.iload_n 3, 1) := by decide +kernel
theorem dX8_worksOn_6 : decode cX8_worksOn 6 = .ok (.aload_n 0, 1) := by decide +kernel
theorem dX8_worksOn_7 : decode cX8_worksOn 7 = .ok (.getfield 19, 3) := by decide +kernel
theorem dX8_worksOn_10 : decode cX8_worksOn 10 = .ok (.iconst 1, 1) := by decide +kernel
theorem dX8_worksOn_11 : decode cX8_worksOn 11 = .ok (.iaload, 1) := by decide +kernel
theorem dX8_worksOn_12 : decode cX8_worksOn 12 = .ok (.if_icmp .ge 46, 3) := by decide +kernel
theorem dX8_worksOn_15 : decode cX8_worksOn 15 = .ok (.aload_n 0, 1) := by decide +kernel
theorem dX8_worksOn_16 : decode cX8_worksOn 16 = .ok (.iload_n 3, 1) := by decide +kernel
theorem dX8_worksOn_17 : decode cX8_worksOn 17 = .ok (.iconst 3, 1) := by decide +kernel
theorem dX8_worksOn_18 : decode cX8_worksOn 18 = .ok (.invokevirtual 96, 3) := by decide +kernel
theorem dX8_worksOn_21 : decode cX8_worksOn 21 = .ok (.iload_n 1, 1) := by decide +kernel
theorem dX8_worksOn_22 : decode cX8_worksOn 22 = .ok (.if_icmp .ne 28, 3) := by decide +kernel
theorem dX8_worksOn_25 : decode cX8_worksOn 25 = .ok (.iload_n 2, 1) := by decide +kernel
theorem dX8_worksOn_26 : decode cX8_worksOn 26 = .ok (.bipush (-9), 2) := by decide +kernel
theorem dX8_worksOn_28 : decode cX8_worksOn 28 = .ok (.if_icmp .eq 18, 3) := by decide +kernel
theorem dX8_worksOn_31 : decode cX8_worksOn 31 = .ok (.aload_n 0, 1) := by decide +kernel
theorem dX8_worksOn_32 : decode cX8_worksOn 32 = .ok (.iload_n 3, 1) := by decide +kernel
theorem dX8_worksOn_33 : decode cX8_worksOn 33 = .ok (.iconst 2, 1) := by decide +kernel
theorem dX8_worksOn_34 : decode cX8_worksOn 34 = .ok (.invokevirtual 96, 3) := by decide +kernel
theorem dX8_worksOn_37 : decode cX8_worksOn 37 = .ok (.aload_n 0, 1) := by decide +kernel
theorem dX8_worksOn_38 : decode cX8_worksOn 38 = .ok (.iload_n 2, 1) := by decide +kernel
theorem dX8_worksOn_39 : decode cX8_worksOn 39 = .ok (.iconst 2, 1) := by decide +kernel
theorem dX8_worksOn_40 : decode cX8_worksOn 40 = .ok (.invokevirtual 96, 3) := by decide +kernel
theorem dX8_worksOn_43 : decode cX8_worksOn 43 = .ok (.if_icmp .ge 7, 3) := by decide +kernel
theorem dX8_worksOn_46 : decode cX8_worksOn 46 = .ok (.iload_n 3, 1) := by decide +kernel
theorem dX8_worksOn_47 : decode cX8_worksOn 47 = .ok (.goto 4, 3) := by decide +kernel
theorem dX8_worksOn_50 : decode cX8_worksOn 50 = .ok (.iload_n 2, 1) := by decide +kernel
theorem dX8_worksOn_51 : decode cX8_worksOn 51 = .ok (.istore_n 2, 1) := by decide +kernel
theorem dX8_worksOn_52 : decode cX8_worksOn 52 = .ok (.iinc 3 1, 3) := by decide +kernel
theorem dX8_worksOn_55 : decode cX8_worksOn 55 = .ok (.goto (-50), 3) := by decide +kernel
theorem dX8_worksOn_58 : decode cX8_worksOn 58 = .ok (.iload_n 2, 1) := by decide +kernel
theorem dX8_worksOn_59 : decode cX8_worksOn 59 = .ok (.ireturn, 1) := by decide +kernel
set_option maxRecDepth 20000 in
theorem ggX8_goesBy_X8_worksOn : GoodIn wsX8_goesBy wsX8_worksOn := goodIn_r _ [8, 2, 9, 10, 11, 7, 12, 37, 38, 39, 40, 41, 42, 43, 44, 45, 46, 47, 48, 49, 50, 51, 52, 53, 54] (by decide +kernel) (by decide +kernel)
set_option maxRecDepth 20000 in
theorem gX8_goesBy_X8_worksOn : GoodIn wsX8_goesBy (wsV RX8 136 RX8 yX8_worksOn wsX8_worksOn) := goodIn_app (goodIn_of _ (by decide +kernel)) ggX8_goesBy_X8_worksOn
set_option maxRecDepth 20000 in
theorem ggX8_goesBy_X8_at : GoodIn wsX8_goesBy wsX8_at := goodIn_r _ [12, 2, 37, 38, 39, 40, 41, 42, 43, 44, 45, 46, 47, 48, 49, 50, 51, 52, 53, 54] (by decide +kernel) (by decide +kernel)
set_option maxRecDepth 20000 in
theorem gX8_goesBy_X8_at : GoodIn wsX8_goesBy (wsV RX8 96 RX8 yX8_at wsX8_at) := goodIn_app (goodIn_of _ (by decide +kernel)) ggX8_goesBy_X8_at
set_option maxRecDepth 20000 in
theorem ggX8_goesBy_X8_answers : GoodIn wsX8_goesBy wsX8_answers := goodIn_r _ [16, 1, 37, 38, 39, 40, 41, 42, 43, 44, 45, 46, 47, 48, 49, 50, 51, 52, 53, 54] (by decide +kernel) (by decide +kernel)
set_option maxRecDepth 20000 in
theorem gX8_goesBy_X8_answers : GoodIn wsX8_goesBy (wsV RX8 142 RX8 yX8_answers wsX8_answers) := goodIn_app (goodIn_of _ (by decide +kernel)) ggX8_goesBy_X8_answers
set_option maxRecDepth 20000 in
theorem ggX8_goesBy_X8_prints : GoodIn wsX8_goesBy wsX8_prints := goodIn_r _ [20, 2, 21, 22, 23, 7, 24, 25, 26, 27, 28, 1, 29, 30, 31, 32, 33, 34, 35, 36, 37, 38, 39, 40, 41, 42, 43, 44, 45, 46, 47, 48, 49, 50, 51, 52, 53, 54] (by decide +kernel) (by decide +kernel)
set_option maxRecDepth 20000 in
theorem gX8_goesBy_X8_prints : GoodIn wsX8_goesBy (wsV RX8 132 RX8 yX8_prints wsX8_prints) := goodIn_app (goodIn_of _ (by decide +kernel)) ggX8_goesBy_X8_prints
theorem dX8_goesBy_0 : decode cX8_goesBy 0 = .ok (.iconst 0, 1) := by decide +kernel
theorem dX8_goesBy_1 : decode cX8_goesBy 1 = .ok (.istore_n 1, 1) := by decide +kernel
theorem dX8_goesBy_2 : decode cX8_goesBy 2 = .ok (.iload_n 1, 1) := by decide +kernel
theorem dX8_goesBy_3 : decode cX8_goesBy 3 = .ok (.aload_n 0, 1) := by decide +kernel
theorem dX8_goesBy_4 : decode cX8_goesBy 4 = .ok (.getfield 16, 3) := by decide +kernel
theorem dX8_goesBy_7 : decode cX8_goesBy 7 = .ok (.iconst 0, 1) := by decide +kernel
theorem dX8_goesBy_8 : decode cX8_goesBy 8 = .ok (.iaload, 1) := by decide +kernel
theorem dX8_goesBy_9 : decode cX8_goesBy 9 = .ok (.if_icmp .ge 39, 3) := by decide +kernel
theorem dX8_goesBy_12 : decode cX8_goesBy 12 = .ok (.aload_n 0, 1) := by decide +kernel
theorem dX8_goesBy_13 : decode cX8_goesBy 13 = .ok (.iload_n 1, 1) := by decide +kernel
theorem dX8_goesBy_14 : decode cX8_goesBy 14 = .ok (.invokevirtual 136, 3) := by decide +kernel
theorem dX8_goesBy_17 : decode cX8_goesBy 17 = .ok (.istore_n 2, 1) := by decide +kernel
theorem dX8_goesBy_18 : decode cX8_goesBy 18 = .ok (.iload_n 2, 1) := by decide +kernel
theorem dX8_goesBy_19 : decode cX8_goesBy 19 = .ok (.bipush (-9), 2) := by decide +kernel
theorem dX8_goesBy_21 : decode cX8_goesBy 21 = .ok (.if_icmp .eq 21, 3) := by decide +kernel
theorem dX8_goesBy_24 : decode cX8_goesBy 24 = .ok (.aload_n 0, 1) := by decide +kernel
theorem dX8_goesBy_25 : decode cX8_goesBy 25 = .ok (.getfield 19, 3) := by decide +kernel
theorem dX8_goesBy_28 : decode cX8_goesBy 28 = .ok (.bipush 10, 2) := by decide +kernel
theorem dX8_goesBy_30 : decode cX8_goesBy 30 = .ok (.bipush 6, 2) := by decide +kernel
theorem dX8_goesBy_32 : decode cX8_goesBy 32 = .ok (.iload_n 2, 1) := by decide +kernel
theorem dX8_goesBy_33 : decode cX8_goesBy 33 = .ok (.imul, 1) := by decide +kernel
theorem dX8_goesBy_34 : decode cX8_goesBy 34 = .ok (.iadd, 1) := by decide +kernel
theorem dX8_goesBy_35 : decode cX8_goesBy 35 = .ok (.iconst 4, 1) := by decide +kernel
theorem dX8_goesBy_36 : decode cX8_goesBy 36 = .ok (.iadd, 1) := by decide +kernel
theorem dX8_goesBy_37 : decode cX8_goesBy 37 = .ok (.dup2, 1) := by decide +kernel
theorem dX8_goesBy_38 : decode cX8_goesBy 38 = .ok (.iaload, 1) := by decide +kernel
theorem dX8_goesBy_39 : decode cX8_goesBy 39 = .ok (.iconst 1, 1) := by decide +kernel
theorem dX8_goesBy_40 : decode cX8_goesBy 40 = .ok (.isub, 1) := by decide +kernel
theorem dX8_goesBy_41 : decode cX8_goesBy 41 = .ok (.iastore, 1) := by decide +kernel
theorem dX8_goesBy_42 : decode cX8_goesBy 42 = .ok (.iinc 1 1, 3) := by decide +kernel
theorem dX8_goesBy_45 : decode cX8_goesBy 45 = .ok (.goto (-43), 3) := by decide +kernel
theorem dX8_goesBy_48 : decode cX8_goesBy 48 = .ok (.aload_n 0, 1) := by decide +kernel
theorem dX8_goesBy_49 : decode cX8_goesBy 49 = .ok (.getfield 19, 3) := by decide +kernel
theorem dX8_goesBy_52 : decode cX8_goesBy 52 = .ok (.iconst 0, 1) := by decide +kernel
theorem dX8_goesBy_53 : decode cX8_goesBy 53 = .ok (.dup2, 1) := by decide +kernel
theorem dX8_goesBy_54 : decode cX8_goesBy 54 = .ok (.iaload, 1) := by decide +kernel
theorem dX8_goesBy_55 : decode cX8_goesBy 55 = .ok (.iconst 1, 1) := by decide +kernel
theorem dX8_goesBy_56 : decode cX8_goesBy 56 = .ok (.iadd, 1) := by decide +kernel
theorem dX8_goesBy_57 : decode cX8_goesBy 57 = .ok (.iastore, 1) := by decide +kernel
theorem dX8_goesBy_58 : decode cX8_goesBy 58 = .ok (.iconst 0, 1) := by decide +kernel
theorem dX8_goesBy_59 : decode cX8_goesBy 59 = .ok (.istore_n 1, 1) := by decide +kernel
theorem dX8_goesBy_60 : decode cX8_goesBy 60 = .ok (.aload_n 0, 1) := by decide +kernel
theorem dX8_goesBy_61 : decode cX8_goesBy 61 = .ok (.bipush (-9), 2) := by decide +kernel
theorem dX8_goesBy_63 : decode cX8_goesBy 63 = .ok (.putfield 139, 3) := by decide +kernel
theorem dX8_goesBy_66 : decode cX8_goesBy 66 = .ok (.iconst 0, 1) := by decide +kernel
theorem dX8_goesBy_67 : decode cX8_goesBy 67 = .ok (.istore_n 2, 1) := by decide +kernel
theorem dX8_goesBy_68 : decode cX8_goesBy 68 = .ok (.iload_n 2, 1) := by decide +kernel
theorem dX8_goesBy_69 : decode cX8_goesBy 69 = .ok (.aload_n 0, 1) := by decide +kernel
theorem dX8_goesBy_70 : decode cX8_goesBy 70 = .ok (.getfield 19, 3) := by decide +kernel
theorem dX8_goesBy_73 : decode cX8_goesBy 73 = .ok (.iconst 1, 1) := by decide +kernel
theorem dX8_goesBy_74 : decode cX8_goesBy 74 = .ok (.iaload, 1) := by decide +kernel
theorem dX8_goesBy_75 : decode cX8_goesBy 75 = .ok (.if_icmp .ge 130, 3) := by decide +kernel
theorem dX8_goesBy_78 : decode cX8_goesBy 78 = .ok (.aload_n 0, 1) := by decide +kernel
theorem dX8_goesBy_79 : decode cX8_goesBy 79 = .ok (.iload_n 2, 1) := by decide +kernel
theorem dX8_goesBy_80 : decode cX8_goesBy 80 = .ok (.iconst 3, 1) := by decide +kernel
theorem dX8_goesBy_81 : decode cX8_goesBy 81 = .ok (.invokevirtual 96, 3) := by decide +kernel
theorem dX8_goesBy_84 : decode cX8_goesBy 84 = .ok (.istore_n 3, 1) := by decide +kernel
theorem dX8_goesBy_85 : decode cX8_goesBy 85 = .ok (.iload_n 3, 1) := by decide +kernel
theorem dX8_goesBy_86 : decode cX8_goesBy 86 = .ok (.bipush (-9), 2) := by decide +kernel
theorem dX8_goesBy_88 : decode cX8_goesBy 88 = .ok (.if_icmp .eq 35, 3) := by decide +kernel
theorem dX8_goesBy_91 : decode cX8_goesBy 91 = .ok (.aload_n 0, 1) := by decide +kernel
theorem dX8_goesBy_92 : decode cX8_goesBy 92 = .ok (.iload_n 2, 1) := by decide +kernel
theorem dX8_goesBy_93 : decode cX8_goesBy 93 = .ok (.iconst 4, 1) := by decide +kernel
theorem dX8_goesBy_94 : decode cX8_goesBy 94 = .ok (.invokevirtual 96, 3) := by decide +kernel
theorem dX8_goesBy_97 : decode cX8_goesBy 97 = .ok (.ifCond .ne 26, 3) := by decide +kernel
theorem dX8_goesBy_100 : decode cX8_goesBy 100 = .ok (.aload_n 0, 1) := by decide +kernel
theorem dX8_goesBy_101 : decode cX8_goesBy 101 = .ok (.iload_n 2, 1) := by decide +kernel
theorem dX8_goesBy_102 : decode cX8_goesBy 102 = .ok (.iload_n 3, 1) := by decide +kernel
theorem dX8_goesBy_103 : decode cX8_goesBy 103 = .ok (.aload_n 0, 1) := by decide +kernel
theorem dX8_goesBy_104 : decode cX8_goesBy 104 = .ok (.iload_n 3, 1) := by decide +kernel
theorem dX8_goesBy_105 : decode cX8_goesBy 105 = .ok (.aload_n 0, 1) := by decide +kernel
theorem dX8_goesBy_106 : decode cX8_goesBy 106 = .ok (.iload_n 2, 1) := by decide +kernel
theorem dX8_goesBy_107 : decode cX8_goesBy 107 = .ok (.iconst 1, 1) := by decide +kernel
theorem dX8_goesBy_108 : decode cX8_goesBy 108 = .ok (.invokevirtual 96, 3) := by decide +kernel
theorem dX8_goesBy_111 : decode cX8_goesBy 111 = .ok (.invokevirtual 142, 3) := by decide +kernel
theorem dX8_goesBy_114 : decode cX8_goesBy 114 = .ok (.invokevirtual 132, 3) := by decide +kernel
theorem dX8_goesBy_117 : decode cX8_goesBy 117 = .ok (.iinc 1 1, 3) := by decide +kernel
theorem dX8_goesBy_120 : decode cX8_goesBy 120 = .ok (.goto 79, 3) := by decide +kernel
theorem dX8_goesBy_123 : decode cX8_goesBy 123 = .ok (.iload_n 3, 1) := by decide +kernel
theorem dX8_goesBy_124 : decode cX8_goesBy 124 = .ok (.bipush (-9), 2) := by decide +kernel
theorem dX8_goesBy_126 : decode cX8_goesBy 126 = .ok (.if_icmp .eq 73, 3) := by decide +kernel
theorem dX8_goesBy_129 : decode cX8_goesBy 129 = .ok (.aload_n 0, 1) := by decide +kernel
theorem dX8_goesBy_130 : decode cX8_goesBy 130 = .ok (.iload_n 2, 1) := by decide +kernel
theorem dX8_goesBy_131 : decode cX8_goesBy 131 = .ok (.iconst 2, 1) := by decide +kernel
theorem dX8_goesBy_132 : decode cX8_goesBy 132 = .ok (.invokevirtual 96, 3) := by decide +kernel
theorem dX8_goesBy_135 : decode cX8_goesBy 135 = .ok (.aload_n 0, 1) := by decide +kernel
theorem dX8_goesBy_136 : decode cX8_goesBy 136 = .ok (.getfield 16, 3) := by decide +kernel
theorem dX8_goesBy_139 : decode cX8_goesBy 139 = .ok (.iconst 1, 1) := by decide +kernel
theorem dX8_goesBy_140 : decode cX8_goesBy 140 = .ok (.iaload, 1) := by decide +kernel
theorem dX8_goesBy_141 : decode cX8_goesBy 141 = .ok (.iadd, 1) := by decide +kernel
theorem dX8_goesBy_142 : decode cX8_goesBy 142 = .ok (.aload_n 0, 1) := by decide +kernel
theorem dX8_goesBy_143 : decode cX8_goesBy 143 = .ok (.getfield 19, 3) := by decide +kernel
theorem dX8_goesBy_146 : decode cX8_goesBy 146 = .ok (.iconst 0, 1) := by decide +kernel
theorem dX8_goesBy_147 : decode cX8_goesBy 147 = .ok (.iaload, 1) := by decide +kernel
theorem dX8_goesBy_148 : decode cX8_goesBy 148 = .ok (.if_icmp .ne 51, 3) := by decide +kernel
theorem dX8_goesBy_151 : decode cX8_goesBy 151 = .ok (.aload_n 0, 1) := by decide +kernel
theorem dX8_goesBy_152 : decode cX8_goesBy 152 = .ok (.getfield 19, 3) := by decide +kernel
theorem dX8_goesBy_155 : decode cX8_goesBy 155 = .ok (.bipush 10, 2) := by decide +kernel
theorem dX8_goesBy_157 : decode cX8_goesBy 157 = .ok (.bipush 6, 2) := by decide +kernel
theorem dX8_goesBy_159 : decode cX8_goesBy 159 = .ok (.iload_n 2, 1) := by decide +kernel
theorem dX8_goesBy_160 : decode cX8_goesBy 160 = .ok (.imul, 1) := by decide +kernel
theorem dX8_goesBy_161 : decode cX8_goesBy 161 = .ok (.iadd, 1) := by decide +kernel
theorem dX8_goesBy_162 : decode cX8_goesBy 162 = .ok (.iconst 5, 1) := by decide +kernel
theorem dX8_goesBy_163 : decode cX8_goesBy 163 = .ok (.iadd, 1) := by decide +kernel
theorem dX8_goesBy_164 : decode cX8_goesBy 164 = .ok (.iconst 1, 1) := by decide +kernel
theorem dX8_goesBy_165 : decode cX8_goesBy 165 = .ok (.iastore, 1) := by decide +kernel
theorem dX8_goesBy_166 : decode cX8_goesBy 166 = .ok (.aload_n 0, 1) := by decide +kernel
theorem dX8_goesBy_167 : decode cX8_goesBy 167 = .ok (.getfield 19, 3) := by decide +kernel
theorem dX8_goesBy_170 : decode cX8_goesBy 170 = .ok (.iconst 4, 1) := by decide +kernel
theorem dX8_goesBy_171 : decode cX8_goesBy 171 = .ok (.iload_n 3, 1) := by decide +kernel
theorem dX8_goesBy_172 : decode cX8_goesBy 172 = .ok (.iadd, 1) := by decide +kernel
theorem dX8_goesBy_173 : decode cX8_goesBy 173 = .ok (.dup2, 1) := by decide +kernel
theorem dX8_goesBy_174 : decode cX8_goesBy 174 = .ok (.iaload, 1) := by decide +kernel
theorem dX8_goesBy_175 : decode cX8_goesBy 175 = .ok (.iconst 1, 1) := by decide +kernel
theorem dX8_goesBy_176 : decode cX8_goesBy 176 = .ok (.iadd, 1) := by decide +kernel
theorem dX8_goesBy_177 : decode cX8_goesBy 177 = .ok (.iastore, 1) := by decide +kernel
theorem dX8_goesBy_178 : decode cX8_goesBy 178 = .ok (.aload_n 0, 1) := by decide +kernel
theorem dX8_goesBy_179 : decode cX8_goesBy 179 = .ok (.aload_n 0, 1) := by decide +kernel
theorem dX8_goesBy_180 : decode cX8_goesBy 180 = .ok (.getfield 139, 3) := by decide +kernel
theorem dX8_goesBy_183 : decode cX8_goesBy 183 = .ok (.bipush (-9), 2) := by decide +kernel
theorem dX8_goesBy_185 : decode cX8_goesBy 185 = .ok (.if_icmp .ne 7, 3) := by decide +kernel
theorem dX8_goesBy_188 : decode cX8_goesBy 188 = .ok (.iload_n 2, 1) := by decide +kernel
theorem dX8_goesBy_189 : decode cX8_goesBy 189 = .ok (.goto 7, 3) := by decide +kernel
theorem dX8_goesBy_192 : decode cX8_goesBy 192 = .ok (.aload_n 0, 1) := by decide +kernel
theorem dX8_goesBy_193 : decode cX8_goesBy 193 = .ok (.getfield 139, 3) := by decide +kernel
theorem dX8_goesBy_196 : decode cX8_goesBy 196 = .ok (.putfield 139, 3) := by decide +kernel
theorem dX8_goesBy_199 : decode cX8_goesBy 199 = .ok (.iinc 2 1, 3) := by decide +kernel
theorem dX8_goesBy_202 : decode cX8_goesBy 202 = .ok (.goto (-134), 3) := by decide +kernel
theorem dX8_goesBy_205 : decode cX8_goesBy 205 = .ok (.iload_n 1, 1) := by decide +kernel
theorem dX8_goesBy_206 : decode cX8_goesBy 206 = .ok (.ireturn, 1) := by decide +kernel
set_option maxRecDepth 20000 in
theorem ggX8_day_X8_notes : GoodIn wsX8_day wsX8_notes := goodIn_r _ [6, 7, 8, 1, 47, 48, 49, 50, 51, 52, 53, 54, 55, 56, 57, 58, 59, 60, 61, 62, 63, 64] (by decide +kernel) (by decide +kernel)
set_option maxRecDepth 20000 in
theorem gX8_day_X8_notes : GoodIn wsX8_day (wsV RX8 129 RX8 yX8_notes wsX8_notes) := goodIn_app (goodIn_of _ (by decide +kernel)) ggX8_day_X8_notes
set_option maxRecDepth 20000 in
theorem ggX8_day_X8_goesBy : GoodIn wsX8_day wsX8_goesBy := goodIn_r _ [12, 13, 1, 14, 15, 16, 17, 5, 18, 19, 20, 21, 22, 23, 24, 25, 26, 27, 28, 29, 30, 31, 32, 33, 34, 35, 36, 37, 38, 39, 40, 41, 42, 43, 44, 45, 46, 47, 48, 49, 50, 51, 52, 53, 54, 55, 56, 57, 58, 59, 60, 61, 62, 63, 64] (by decide +kernel) (by decide +kernel)
set_option maxRecDepth 20000 in
theorem gX8_day_X8_goesBy : GoodIn wsX8_day (wsV RX8 145 RX8 yX8_goesBy wsX8_goesBy) := goodIn_app (goodIn_of _ (by decide +kernel)) ggX8_day_X8_goesBy
theorem dX8_day_0 : decode cX8_day 0 = .ok (.aload_n 0, 1) := by decide +kernel
theorem dX8_day_1 : decode cX8_day 1 = .ok (.getfield 19, 3) := by decide +kernel
theorem dX8_day_4 : decode cX8_day 4 = .ok (.iconst 0, 1) := by decide +kernel
theorem dX8_day_5 : decode cX8_day 5 = .ok (.iaload, 1) := by decide +kernel
theorem dX8_day_6 : decode cX8_day 6 = .ok (.sipush 999, 3) := by decide +kernel
theorem dX8_day_9 : decode cX8_day 9 = .ok (.if_icmp .ne 6, 3) := by decide +kernel
theorem dX8_day_12 : decode cX8_day 12 = .ok (.bipush (-2), 2) := by decide +kernel
theorem dX8_day_14 : decode cX8_day 14 = .ok (.ireturn, 1) := by decide +kernel
theorem dX8_day_15 : decode cX8_day 15 = .ok (.aload_n 0, 1) := by decide +kernel
theorem dX8_day_16 : decode cX8_day 16 = .ok (.invokevirtual 129, 3) := by decide +kernel
theorem dX8_day_19 : decode cX8_day 19 = .ok (.aload_n 0, 1) := by decide +kernel
theorem dX8_day_20 : decode cX8_day 20 = .ok (.invokevirtual 145, 3) := by decide +kernel
theorem dX8_day_23 : decode cX8_day 23 = .ok (.ireturn, 1) := by decide +kernel
set_option maxRecDepth 20000 in
theorem ggX8_laysDown_X8_at : GoodIn wsX8_laysDown wsX8_at := goodIn_r _ [6, 1, 24, 25, 26, 27, 28, 29, 30, 31, 32, 33, 34, 35, 36, 37, 38, 39, 40, 41] (by decide +kernel) (by decide +kernel)
set_option maxRecDepth 20000 in
theorem gX8_laysDown_X8_at : GoodIn wsX8_laysDown (wsV RX8 96 RX8 yX8_at wsX8_at) := goodIn_app (goodIn_of _ (by decide +kernel)) ggX8_laysDown_X8_at
set_option maxRecDepth 20000 in
theorem ggX8_laysDown_X8_means : GoodIn wsX8_laysDown wsX8_means := goodIn_r _ [10, 1, 11, 12, 13, 5, 14, 15, 16, 17, 18, 19, 20, 21, 22, 23, 24, 25, 26, 27, 28, 29, 30, 31, 32, 33, 34, 35, 36, 37, 38, 39, 40, 41] (by decide +kernel) (by decide +kernel)
set_option maxRecDepth 20000 in
theorem gX8_laysDown_X8_means : GoodIn wsX8_laysDown (wsV RX8 122 RX8 yX8_means wsX8_means) := goodIn_app (goodIn_of _ (by decide +kernel)) ggX8_laysDown_X8_means
theorem dX8_laysDown_0 : decode cX8_laysDown 0 = .ok (.aload_n 0, 1) := by decide +kernel
theorem dX8_laysDown_1 : decode cX8_laysDown 1 = .ok (.getfield 19, 3) := by decide +kernel
theorem dX8_laysDown_4 : decode cX8_laysDown 4 = .ok (.iconst 2, 1) := by decide +kernel
theorem dX8_laysDown_5 : decode cX8_laysDown 5 = .ok (.dup2, 1) := by decide +kernel
theorem dX8_laysDown_6 : decode cX8_laysDown 6 = .ok (.iaload, 1) := by decide +kernel
theorem dX8_laysDown_7 : decode cX8_laysDown 7 = .ok (.iconst 1, 1) := by decide +kernel
theorem dX8_laysDown_8 : decode cX8_laysDown 8 = .ok (.iload_n 1, 1) := by decide +kernel
theorem dX8_laysDown_9 : decode cX8_laysDown 9 = .ok (.ishl, 1) := by decide +kernel
theorem dX8_laysDown_10 : decode cX8_laysDown 10 = .ok (.ior, 1) := by decide +kernel
theorem dX8_laysDown_11 : decode cX8_laysDown 11 = .ok (.iastore, 1) := by decide +kernel
theorem dX8_laysDown_12 : decode cX8_laysDown 12 = .ok (.iconst 0, 1) := by decide +kernel
theorem dX8_laysDown_13 : decode cX8_laysDown 13 = .ok (.istore_n 2, 1) := by decide +kernel
theorem dX8_laysDown_14 : decode cX8_laysDown 14 = .ok (.iconst 0, 1) := by decide +kernel
theorem dX8_laysDown_15 : decode cX8_laysDown 15 = .ok (.istore_n 3, 1) := by decide +kernel
theorem dX8_laysDown_16 : decode cX8_laysDown 16 = .ok (.iload_n 3, 1) := by decide +kernel
theorem dX8_laysDown_17 : decode cX8_laysDown 17 = .ok (.aload_n 0, 1) := by decide +kernel
theorem dX8_laysDown_18 : decode cX8_laysDown 18 = .ok (.getfield 19, 3) := by decide +kernel
theorem dX8_laysDown_21 : decode cX8_laysDown 21 = .ok (.iconst 1, 1) := by decide +kernel
theorem dX8_laysDown_22 : decode cX8_laysDown 22 = .ok (.iaload, 1) := by decide +kernel
theorem dX8_laysDown_23 : decode cX8_laysDown 23 = .ok (.if_icmp .ge 27, 3) := by decide +kernel
theorem dX8_laysDown_26 : decode cX8_laysDown 26 = .ok (.aload_n 0, 1) := by decide +kernel
theorem dX8_laysDown_27 : decode cX8_laysDown 27 = .ok (.iload_n 3, 1) := by decide +kernel
theorem dX8_laysDown_28 : decode cX8_laysDown 28 = .ok (.iconst 3, 1) := by decide +kernel
theorem dX8_laysDown_29 : decode cX8_laysDown 29 = .ok (.invokevirtual 96, 3) := by decide +kernel
theorem dX8_laysDown_32 : decode cX8_laysDown 32 = .ok (.iload_n 1, 1) := by decide +kernel
theorem dX8_laysDown_33 : decode cX8_laysDown 33 = .ok (.if_icmp .ne 11, 3) := by decide +kernel
theorem dX8_laysDown_36 : decode cX8_laysDown 36 = .ok (.aload_n 0, 1) := by decide +kernel
theorem dX8_laysDown_37 : decode cX8_laysDown 37 = .ok (.iload_n 3, 1) := by decide +kernel
theorem dX8_laysDown_38 : decode cX8_laysDown 38 = .ok (.invokevirtual 122, 3) := by decide +kernel
theorem dX8_laysDown_41 : decode cX8_laysDown 41 = .ok (.iinc 2 1, 3) := by decide +kernel
theorem dX8_laysDown_44 : decode cX8_laysDown 44 = .ok (.iinc 3 1, 3) := by decide +kernel
theorem dX8_laysDown_47 : decode cX8_laysDown 47 = .ok (.goto (-31), 3) := by decide +kernel
theorem dX8_laysDown_50 : decode cX8_laysDown 50 = .ok (.iload_n 2, 1) := by decide +kernel
theorem dX8_laysDown_51 : decode cX8_laysDown 51 = .ok (.ireturn, 1) := by decide +kernel
set_option maxRecDepth 20000 in
theorem ggX8_lays_X8_isWriter : GoodIn wsX8_lays wsX8_isWriter := goodIn_r _ [5, 6, 7, 8, 4, 9, 45, 46, 47, 48, 49, 50, 51, 52, 53, 54, 55, 56, 57, 58, 59, 60, 61, 62] (by decide +kernel) (by decide +kernel)
set_option maxRecDepth 20000 in
theorem gX8_lays_X8_isWriter : GoodIn wsX8_lays (wsV RX8 98 RX8 yX8_isWriter wsX8_isWriter) := goodIn_app (goodIn_of _ (by decide +kernel)) ggX8_lays_X8_isWriter
set_option maxRecDepth 20000 in
theorem ggX8_lays_X8_hasLaid : GoodIn wsX8_lays wsX8_hasLaid := goodIn_r _ [13, 14, 45, 46, 47, 48, 49, 50, 51, 52, 53, 54, 55, 56, 57, 58, 59, 60, 61, 62] (by decide +kernel) (by decide +kernel)
set_option maxRecDepth 20000 in
theorem gX8_lays_X8_hasLaid : GoodIn wsX8_lays (wsV RX8 126 RX8 yX8_hasLaid wsX8_hasLaid) := goodIn_app (goodIn_of _ (by decide +kernel)) ggX8_lays_X8_hasLaid
set_option maxRecDepth 20000 in
theorem ggX8_lays_X8_notes : GoodIn wsX8_lays wsX8_notes := goodIn_r _ [18, 19, 20, 14, 45, 46, 47, 48, 49, 50, 51, 52, 53, 54, 55, 56, 57, 58, 59, 60, 61, 62] (by decide +kernel) (by decide +kernel)
set_option maxRecDepth 20000 in
theorem gX8_lays_X8_notes : GoodIn wsX8_lays (wsV RX8 129 RX8 yX8_notes wsX8_notes) := goodIn_app (goodIn_of _ (by decide +kernel)) ggX8_lays_X8_notes
set_option maxRecDepth 20000 in
theorem ggX8_lays_X8_laysDown : GoodIn wsX8_lays wsX8_laysDown := goodIn_r _ [24, 14, 25, 26, 27, 4, 28, 29, 30, 31, 32, 33, 34, 35, 36, 6, 37, 38, 39, 40, 41, 42, 43, 44, 45, 46, 47, 48, 49, 50, 51, 52, 53, 54, 55, 56, 57, 58, 59, 60, 61, 62] (by decide +kernel) (by decide +kernel)
set_option maxRecDepth 20000 in
theorem gX8_lays_X8_laysDown : GoodIn wsX8_lays (wsV RX8 149 RX8 yX8_laysDown wsX8_laysDown) := goodIn_app (goodIn_of _ (by decide +kernel)) ggX8_lays_X8_laysDown
theorem dX8_lays_0 : decode cX8_lays 0 = .ok (.aload_n 0, 1) := by decide +kernel
theorem dX8_lays_1 : decode cX8_lays 1 = .ok (.iload_n 1, 1) := by decide +kernel
theorem dX8_lays_2 : decode cX8_lays 2 = .ok (.invokevirtual 98, 3) := by decide +kernel
theorem dX8_lays_5 : decode cX8_lays 5 = .ok (.ifCond .ne 5, 3) := by decide +kernel
theorem dX8_lays_8 : decode cX8_lays 8 = .ok (.iconst (-1), 1) := by decide +kernel
theorem dX8_lays_9 : decode cX8_lays 9 = .ok (.ireturn, 1) := by decide +kernel
theorem dX8_lays_10 : decode cX8_lays 10 = .ok (.aload_n 0, 1) := by decide +kernel
theorem dX8_lays_11 : decode cX8_lays 11 = .ok (.iload_n 1, 1) := by decide +kernel
theorem dX8_lays_12 : decode cX8_lays 12 = .ok (.invokevirtual 126, 3) := by decide +kernel
theorem dX8_lays_15 : decode cX8_lays 15 = .ok (.ifCond .eq 6, 3) := by decide +kernel
theorem dX8_lays_18 : decode cX8_lays 18 = .ok (.bipush (-2), 2) := by decide +kernel
theorem dX8_lays_20 : decode cX8_lays 20 = .ok (.ireturn, 1) := by decide +kernel
theorem dX8_lays_21 : decode cX8_lays 21 = .ok (.aload_n 0, 1) := by decide +kernel
theorem dX8_lays_22 : decode cX8_lays 22 = .ok (.invokevirtual 129, 3) := by decide +kernel
theorem dX8_lays_25 : decode cX8_lays 25 = .ok (.aload_n 0, 1) := by decide +kernel
theorem dX8_lays_26 : decode cX8_lays 26 = .ok (.iload_n 1, 1) := by decide +kernel
theorem dX8_lays_27 : decode cX8_lays 27 = .ok (.invokevirtual 149, 3) := by decide +kernel
theorem dX8_lays_30 : decode cX8_lays 30 = .ok (.ireturn, 1) := by decide +kernel
theorem dX8_undo_0 : decode cX8_undo 0 = .ok (.aload_n 0, 1) := by decide +kernel
theorem dX8_undo_1 : decode cX8_undo 1 = .ok (.getfield 87, 3) := by decide +kernel
theorem dX8_undo_4 : decode cX8_undo 4 = .ok (.ifCond .ne 6, 3) := by decide +kernel
theorem dX8_undo_7 : decode cX8_undo 7 = .ok (.bipush (-2), 2) := by decide +kernel
theorem dX8_undo_9 : decode cX8_undo 9 = .ok (.ireturn, 1) := by decide +kernel
theorem dX8_undo_10 : decode cX8_undo 10 = .ok (.aload_n 0, 1) := by decide +kernel
theorem dX8_undo_11 : decode cX8_undo 11 = .ok (.dup, 1) := by decide +kernel
theorem dX8_undo_12 : decode cX8_undo 12 = .ok (.getfield 87, 3) := by decide +kernel
theorem dX8_undo_15 : decode cX8_undo 15 = .ok (.iconst 1, 1) := by decide +kernel
theorem dX8_undo_16 : decode cX8_undo 16 = .ok (.isub, 1) := by decide +kernel
theorem dX8_undo_17 : decode cX8_undo 17 = .ok (.putfield 87, 3) := by decide +kernel
theorem dX8_undo_20 : decode cX8_undo 20 = .ok (.iconst 0, 1) := by decide +kernel
theorem dX8_undo_21 : decode cX8_undo 21 = .ok (.istore_n 1, 1) := by decide +kernel
theorem dX8_undo_22 : decode cX8_undo 22 = .ok (.iload_n 1, 1) := by decide +kernel
theorem dX8_undo_23 : decode cX8_undo 23 = .ok (.bipush 46, 2) := by decide +kernel
theorem dX8_undo_25 : decode cX8_undo 25 = .ok (.if_icmp .ge 29, 3) := by decide +kernel
theorem dX8_undo_28 : decode cX8_undo 28 = .ok (.aload_n 0, 1) := by decide +kernel
theorem dX8_undo_29 : decode cX8_undo 29 = .ok (.getfield 19, 3) := by decide +kernel
theorem dX8_undo_32 : decode cX8_undo 32 = .ok (.iload_n 1, 1) := by decide +kernel
theorem dX8_undo_33 : decode cX8_undo 33 = .ok (.aload_n 0, 1) := by decide +kernel
theorem dX8_undo_34 : decode cX8_undo 34 = .ok (.getfield 22, 3) := by decide +kernel
theorem dX8_undo_37 : decode cX8_undo 37 = .ok (.bipush 46, 2) := by decide +kernel
theorem dX8_undo_39 : decode cX8_undo 39 = .ok (.aload_n 0, 1) := by decide +kernel
theorem dX8_undo_40 : decode cX8_undo 40 = .ok (.getfield 87, 3) := by decide +kernel
theorem dX8_undo_43 : decode cX8_undo 43 = .ok (.imul, 1) := by decide +kernel
theorem dX8_undo_44 : decode cX8_undo 44 = .ok (.iload_n 1, 1) := by decide +kernel
theorem dX8_undo_45 : decode cX8_undo 45 = .ok (.iadd, 1) := by decide +kernel
theorem dX8_undo_46 : decode cX8_undo 46 = .ok (.iaload, 1) := by decide +kernel
theorem dX8_undo_47 : decode cX8_undo 47 = .ok (.iastore, 1) := by decide +kernel
theorem dX8_undo_48 : decode cX8_undo 48 = .ok (.iinc 1 1, 3) := by decide +kernel
theorem dX8_undo_51 : decode cX8_undo 51 = .ok (.goto (-29), 3) := by decide +kernel
theorem dX8_undo_54 : decode cX8_undo 54 = .ok (.aload_n 0, 1) := by decide +kernel
theorem dX8_undo_55 : decode cX8_undo 55 = .ok (.getfield 87, 3) := by decide +kernel
theorem dX8_undo_58 : decode cX8_undo 58 = .ok (.ireturn, 1) := by decide +kernel
theorem dX8_asides_0 : decode cX8_asides 0 = .ok (.iconst 0, 1) := by decide +kernel
theorem dX8_asides_1 : decode cX8_asides 1 = .ok (.istore_n 1, 1) := by decide +kernel
theorem dX8_asides_2 : decode cX8_asides 2 = .ok (.iload_n 1, 1) := by decide +kernel
theorem dX8_asides_3 : decode cX8_asides 3 = .ok (.bipush 46, 2) := by decide +kernel
theorem dX8_asides_5 : decode cX8_asides 5 = .ok (.if_icmp .ge 21, 3) := by decide +kernel
theorem dX8_asides_8 : decode cX8_asides 8 = .ok (.aload_n 0, 1) := by decide +kernel
theorem dX8_asides_9 : decode cX8_asides 9 = .ok (.getfield 25, 3) := by decide +kernel
theorem dX8_asides_12 : decode cX8_asides 12 = .ok (.iload_n 1, 1) := by decide +kernel
theorem dX8_asides_13 : decode cX8_asides 13 = .ok (.aload_n 0, 1) := by decide +kernel
theorem dX8_asides_14 : decode cX8_asides 14 = .ok (.getfield 19, 3) := by decide +kernel
theorem dX8_asides_17 : decode cX8_asides 17 = .ok (.iload_n 1, 1) := by decide +kernel
theorem dX8_asides_18 : decode cX8_asides 18 = .ok (.iaload, 1) := by decide +kernel
theorem dX8_asides_19 : decode cX8_asides 19 = .ok (.iastore, 1) := by decide +kernel
theorem dX8_asides_20 : decode cX8_asides 20 = .ok (.iinc 1 1, 3) := by decide +kernel
theorem dX8_asides_23 : decode cX8_asides 23 = .ok (.goto (-21), 3) := by decide +kernel
theorem dX8_asides_26 : decode cX8_asides 26 = .ok (.return_, 1) := by decide +kernel
theorem dX8_backs_0 : decode cX8_backs 0 = .ok (.iconst 0, 1) := by decide +kernel
theorem dX8_backs_1 : decode cX8_backs 1 = .ok (.istore_n 1, 1) := by decide +kernel
theorem dX8_backs_2 : decode cX8_backs 2 = .ok (.iload_n 1, 1) := by decide +kernel
theorem dX8_backs_3 : decode cX8_backs 3 = .ok (.bipush 46, 2) := by decide +kernel
theorem dX8_backs_5 : decode cX8_backs 5 = .ok (.if_icmp .ge 21, 3) := by decide +kernel
theorem dX8_backs_8 : decode cX8_backs 8 = .ok (.aload_n 0, 1) := by decide +kernel
theorem dX8_backs_9 : decode cX8_backs 9 = .ok (.getfield 19, 3) := by decide +kernel
theorem dX8_backs_12 : decode cX8_backs 12 = .ok (.iload_n 1, 1) := by decide +kernel
theorem dX8_backs_13 : decode cX8_backs 13 = .ok (.aload_n 0, 1) := by decide +kernel
theorem dX8_backs_14 : decode cX8_backs 14 = .ok (.getfield 25, 3) := by decide +kernel
theorem dX8_backs_17 : decode cX8_backs 17 = .ok (.iload_n 1, 1) := by decide +kernel
theorem dX8_backs_18 : decode cX8_backs 18 = .ok (.iaload, 1) := by decide +kernel
theorem dX8_backs_19 : decode cX8_backs 19 = .ok (.iastore, 1) := by decide +kernel
theorem dX8_backs_20 : decode cX8_backs 20 = .ok (.iinc 1 1, 3) := by decide +kernel
theorem dX8_backs_23 : decode cX8_backs 23 = .ok (.goto (-21), 3) := by decide +kernel
theorem dX8_backs_26 : decode cX8_backs 26 = .ok (.return_, 1) := by decide +kernel
set_option maxRecDepth 20000 in
theorem ggX8_inDays_X8_isQuarrel : GoodIn wsX8_inDays wsX8_isQuarrel := goodIn_r _ [7, 8, 9, 10, 6, 11, 59, 60, 61, 62, 63, 64, 65, 66, 67, 68, 69, 70, 71, 72, 73, 74, 75, 76] (by decide +kernel) (by decide +kernel)
set_option maxRecDepth 20000 in
theorem gX8_inDays_X8_isQuarrel : GoodIn wsX8_inDays (wsV RX8 107 RX8 yX8_isQuarrel wsX8_isQuarrel) := goodIn_app (goodIn_of _ (by decide +kernel)) ggX8_inDays_X8_isQuarrel
set_option maxRecDepth 20000 in
theorem ggX8_inDays_X8_in : GoodIn wsX8_inDays wsX8_in := goodIn_r _ [11] (by decide +kernel) (by decide +kernel)
set_option maxRecDepth 20000 in
theorem gX8_inDays_X8_in : GoodIn wsX8_inDays (va_wsS RX8 42 yX8_in wsX8_in) := goodIn_app (goodIn_of _ (by decide +kernel)) ggX8_inDays_X8_in
set_option maxRecDepth 20000 in
theorem ggX8_inDays_X8_asides : GoodIn wsX8_inDays wsX8_asides := goodIn_r _ [15, 16, 8, 59, 60, 61, 62, 63, 64, 65, 66, 67, 68, 69, 70, 71, 72, 73, 74, 75, 76] (by decide +kernel) (by decide +kernel)
set_option maxRecDepth 20000 in
theorem gX8_inDays_X8_asides : GoodIn wsX8_inDays (wsV RX8 156 RX8 yX8_asides wsX8_asides) := goodIn_app (goodIn_of _ (by decide +kernel)) ggX8_inDays_X8_asides
set_option maxRecDepth 20000 in
theorem ggX8_inDays_X8_goesBy : GoodIn wsX8_inDays wsX8_goesBy := goodIn_r _ [20, 21, 8, 22, 23, 24, 25, 6, 26, 27, 28, 29, 30, 31, 32, 33, 34, 35, 36, 37, 38, 39, 40, 41, 42, 43, 44, 45, 46, 47, 48, 49, 50, 51, 52, 53, 54, 59, 60, 61, 62, 63, 64, 65, 66, 67, 68, 69, 70, 71, 72, 73, 74, 75, 76] (by decide +kernel) (by decide +kernel)
set_option maxRecDepth 20000 in
theorem gX8_inDays_X8_goesBy : GoodIn wsX8_inDays (wsV RX8 145 RX8 yX8_goesBy wsX8_goesBy) := goodIn_app (goodIn_of _ (by decide +kernel)) ggX8_inDays_X8_goesBy
set_option maxRecDepth 20000 in
theorem ggX8_inDays_X8_at : GoodIn wsX8_inDays wsX8_at := goodIn_r _ [30, 8, 59, 60, 61, 62, 63, 64, 65, 66, 67, 68, 69, 70, 71, 72, 73, 74, 75, 76] (by decide +kernel) (by decide +kernel)
set_option maxRecDepth 20000 in
theorem gX8_inDays_X8_at : GoodIn wsX8_inDays (wsV RX8 96 RX8 yX8_at wsX8_at) := goodIn_app (goodIn_of _ (by decide +kernel)) ggX8_inDays_X8_at
set_option maxRecDepth 20000 in
theorem ggX8_inDays_X8_backs : GoodIn wsX8_inDays wsX8_backs := goodIn_r _ [58, 8, 16, 59, 60, 61, 62, 63, 64, 65, 66, 67, 68, 69, 70, 71, 72, 73, 74, 75, 76] (by decide +kernel) (by decide +kernel)
set_option maxRecDepth 20000 in
theorem gX8_inDays_X8_backs : GoodIn wsX8_inDays (wsV RX8 159 RX8 yX8_backs wsX8_backs) := goodIn_app (goodIn_of _ (by decide +kernel)) ggX8_inDays_X8_backs
theorem dX8_inDays_0 : decode cX8_inDays 0 = .ok (.aload_n 0, 1) := by decide +kernel
theorem dX8_inDays_1 : decode cX8_inDays 1 = .ok (.iload_n 1, 1) := by decide +kernel
theorem dX8_inDays_2 : decode cX8_inDays 2 = .ok (.invokevirtual 107, 3) := by decide +kernel
theorem dX8_inDays_5 : decode cX8_inDays 5 = .ok (.ifCond .eq 27, 3) := by decide +kernel
theorem dX8_inDays_8 : decode cX8_inDays 8 = .ok (.iload_n 2, 1) := by decide +kernel
theorem dX8_inDays_9 : decode cX8_inDays 9 = .ok (.i2l, 1) := by decide +kernel
theorem dX8_inDays_10 : decode cX8_inDays 10 = .ok (.lconst 0, 1) := by decide +kernel
theorem dX8_inDays_11 : decode cX8_inDays 11 = .ok (.ldc2_w 152, 3) := by decide +kernel
theorem dX8_inDays_14 : decode cX8_inDays 14 = .ok (.invokestatic 42, 3) := by decide +kernel
theorem dX8_inDays_17 : decode cX8_inDays 17 = .ok (.ifCond .eq 15, 3) := by decide +kernel
theorem dX8_inDays_20 : decode cX8_inDays 20 = .ok (.iload_n 3, 1) := by decide +kernel
theorem dX8_inDays_21 : decode cX8_inDays 21 = .ok (.i2l, 1) := by decide +kernel
theorem dX8_inDays_22 : decode cX8_inDays 22 = .ok (.lconst 0, 1) := by decide +kernel
theorem dX8_inDays_23 : decode cX8_inDays 23 = .ok (.ldc2_w 154, 3) := by decide +kernel
theorem dX8_inDays_26 : decode cX8_inDays 26 = .ok (.invokestatic 42, 3) := by decide +kernel
theorem dX8_inDays_29 : decode cX8_inDays 29 = .ok (.ifCond .ne 5, 3) := by decide +kernel
theorem dX8_inDays_32 : decode cX8_inDays 32 = .ok (.iconst (-1), 1) := by decide +kernel
theorem dX8_inDays_33 : decode cX8_inDays 33 = .ok (.ireturn, 1) := by decide +kernel
theorem dX8_inDays_34 : decode cX8_inDays 34 = .ok (.aload_n 0, 1) := by decide +kernel
theorem dX8_inDays_35 : decode cX8_inDays 35 = .ok (.invokevirtual 156, 3) := by decide +kernel
theorem dX8_inDays_38 : decode cX8_inDays 38 = .ok (.iconst 0, 1) := by decide +kernel
theorem dX8_inDays_39 : decode cX8_inDays 39 = .ok (.istore 4, 2) := by decide +kernel
theorem dX8_inDays_41 : decode cX8_inDays 41 = .ok (.iload 4, 2) := by decide +kernel
theorem dX8_inDays_43 : decode cX8_inDays 43 = .ok (.iload_n 2, 1) := by decide +kernel
theorem dX8_inDays_44 : decode cX8_inDays 44 = .ok (.if_icmp .ge 14, 3) := by decide +kernel
theorem dX8_inDays_47 : decode cX8_inDays 47 = .ok (.aload_n 0, 1) := by decide +kernel
theorem dX8_inDays_48 : decode cX8_inDays 48 = .ok (.invokevirtual 145, 3) := by decide +kernel
theorem dX8_inDays_51 : decode cX8_inDays 51 = .ok (.pop, 1) := by decide +kernel
theorem dX8_inDays_52 : decode cX8_inDays 52 = .ok (.iinc 4 1, 3) := by decide +kernel
theorem dX8_inDays_55 : decode cX8_inDays 55 = .ok (.goto (-14), 3) := by decide +kernel
theorem dX8_inDays_58 : decode cX8_inDays 58 = .ok (.aload_n 0, 1) := by decide +kernel
theorem dX8_inDays_59 : decode cX8_inDays 59 = .ok (.iload_n 1, 1) := by decide +kernel
theorem dX8_inDays_60 : decode cX8_inDays 60 = .ok (.iload_n 3, 1) := by decide +kernel
theorem dX8_inDays_61 : decode cX8_inDays 61 = .ok (.iconst 2, 1) := by decide +kernel
theorem dX8_inDays_62 : decode cX8_inDays 62 = .ok (.if_icmp .ne 7, 3) := by decide +kernel
theorem dX8_inDays_65 : decode cX8_inDays 65 = .ok (.iconst 3, 1) := by decide +kernel
theorem dX8_inDays_66 : decode cX8_inDays 66 = .ok (.goto 4, 3) := by decide +kernel
theorem dX8_inDays_69 : decode cX8_inDays 69 = .ok (.iload_n 3, 1) := by decide +kernel
theorem dX8_inDays_70 : decode cX8_inDays 70 = .ok (.invokevirtual 96, 3) := by decide +kernel
theorem dX8_inDays_73 : decode cX8_inDays 73 = .ok (.istore 4, 2) := by decide +kernel
theorem dX8_inDays_75 : decode cX8_inDays 75 = .ok (.aload_n 0, 1) := by decide +kernel
theorem dX8_inDays_76 : decode cX8_inDays 76 = .ok (.invokevirtual 159, 3) := by decide +kernel
theorem dX8_inDays_79 : decode cX8_inDays 79 = .ok (.iload 4, 2) := by decide +kernel
theorem dX8_inDays_81 : decode cX8_inDays 81 = .ok (.ireturn, 1) := by decide +kernel
set_option maxRecDepth 20000 in
theorem ggX8_closes_X8_at : GoodIn wsX8_closes wsX8_at := goodIn_r _ [5, 6, 41, 42, 43, 44, 45, 46, 47, 48, 49, 50, 51, 52, 53, 54, 55, 56, 57, 58] (by decide +kernel) (by decide +kernel)
set_option maxRecDepth 20000 in
theorem gX8_closes_X8_at : GoodIn wsX8_closes (wsV RX8 96 RX8 yX8_at wsX8_at) := goodIn_app (goodIn_of _ (by decide +kernel)) ggX8_closes_X8_at
set_option maxRecDepth 20000 in
theorem ggX8_closes_X8_goesBy : GoodIn wsX8_closes wsX8_goesBy := goodIn_r _ [10, 11, 6, 12, 13, 14, 15, 4, 16, 1, 2, 3, 5, 17, 18, 19, 20, 21, 22, 23, 24, 25, 26, 27, 28, 29, 30, 31, 32, 33, 34, 35, 36, 37, 38, 39, 40, 41, 42, 43, 44, 45, 46, 47, 48, 49, 50, 51, 52, 53, 54, 55, 56, 57, 58] (by decide +kernel) (by decide +kernel)
set_option maxRecDepth 20000 in
theorem gX8_closes_X8_goesBy : GoodIn wsX8_closes (wsV RX8 145 RX8 yX8_goesBy wsX8_goesBy) := goodIn_app (goodIn_of _ (by decide +kernel)) ggX8_closes_X8_goesBy
theorem dX8_closes_0 : decode cX8_closes 0 = .ok (.iconst 0, 1) := by decide +kernel
theorem dX8_closes_1 : decode cX8_closes 1 = .ok (.istore_n 2, 1) := by decide +kernel
theorem dX8_closes_2 : decode cX8_closes 2 = .ok (.iload_n 2, 1) := by decide +kernel
theorem dX8_closes_3 : decode cX8_closes 3 = .ok (.sipush 400, 3) := by decide +kernel
theorem dX8_closes_6 : decode cX8_closes 6 = .ok (.if_icmp .ge 25, 3) := by decide +kernel
theorem dX8_closes_9 : decode cX8_closes 9 = .ok (.aload_n 0, 1) := by decide +kernel
theorem dX8_closes_10 : decode cX8_closes 10 = .ok (.iload_n 1, 1) := by decide +kernel
theorem dX8_closes_11 : decode cX8_closes 11 = .ok (.iconst 3, 1) := by decide +kernel
theorem dX8_closes_12 : decode cX8_closes 12 = .ok (.invokevirtual 96, 3) := by decide +kernel
theorem dX8_closes_15 : decode cX8_closes 15 = .ok (.bipush (-9), 2) := by decide +kernel
theorem dX8_closes_17 : decode cX8_closes 17 = .ok (.if_icmp .eq 14, 3) := by decide +kernel
theorem dX8_closes_20 : decode cX8_closes 20 = .ok (.aload_n 0, 1) := by decide +kernel
theorem dX8_closes_21 : decode cX8_closes 21 = .ok (.invokevirtual 145, 3) := by decide +kernel
theorem dX8_closes_24 : decode cX8_closes 24 = .ok (.pop, 1) := by decide +kernel
theorem dX8_closes_25 : decode cX8_closes 25 = .ok (.iinc 2 1, 3) := by decide +kernel
theorem dX8_closes_28 : decode cX8_closes 28 = .ok (.goto (-26), 3) := by decide +kernel
theorem dX8_closes_31 : decode cX8_closes 31 = .ok (.aload_n 0, 1) := by decide +kernel
theorem dX8_closes_32 : decode cX8_closes 32 = .ok (.iload_n 1, 1) := by decide +kernel
theorem dX8_closes_33 : decode cX8_closes 33 = .ok (.iconst 3, 1) := by decide +kernel
theorem dX8_closes_34 : decode cX8_closes 34 = .ok (.invokevirtual 96, 3) := by decide +kernel
theorem dX8_closes_37 : decode cX8_closes 37 = .ok (.bipush (-9), 2) := by decide +kernel
theorem dX8_closes_39 : decode cX8_closes 39 = .ok (.if_icmp .ne 7, 3) := by decide +kernel
theorem dX8_closes_42 : decode cX8_closes 42 = .ok (.iload_n 2, 1) := by decide +kernel
theorem dX8_closes_43 : decode cX8_closes 43 = .ok (.goto 5, 3) := by decide +kernel
theorem dX8_closes_46 : decode cX8_closes 46 = .ok (.bipush (-9), 2) := by decide +kernel
theorem dX8_closes_48 : decode cX8_closes 48 = .ok (.ireturn, 1) := by decide +kernel
set_option maxRecDepth 20000 in
theorem ggX8_ends_X8_isQuarrel : GoodIn wsX8_ends wsX8_isQuarrel := goodIn_r _ [5, 6, 7, 8, 4, 9, 61, 62, 63, 64, 65, 66, 67, 68, 69, 70, 71, 72, 73, 74, 75, 76, 77, 78] (by decide +kernel) (by decide +kernel)
set_option maxRecDepth 20000 in
theorem gX8_ends_X8_isQuarrel : GoodIn wsX8_ends (wsV RX8 107 RX8 yX8_isQuarrel wsX8_isQuarrel) := goodIn_app (goodIn_of _ (by decide +kernel)) ggX8_ends_X8_isQuarrel
set_option maxRecDepth 20000 in
theorem ggX8_ends_X8_asides : GoodIn wsX8_ends wsX8_asides := goodIn_r _ [13, 14, 6, 61, 62, 63, 64, 65, 66, 67, 68, 69, 70, 71, 72, 73, 74, 75, 76, 77, 78] (by decide +kernel) (by decide +kernel)
set_option maxRecDepth 20000 in
theorem gX8_ends_X8_asides : GoodIn wsX8_ends (wsV RX8 156 RX8 yX8_asides wsX8_asides) := goodIn_app (goodIn_of _ (by decide +kernel)) ggX8_ends_X8_asides
set_option maxRecDepth 20000 in
theorem ggX8_ends_X8_closes : GoodIn wsX8_ends wsX8_closes := goodIn_r _ [18, 19, 20, 21, 4, 22, 6, 23, 24, 25, 26, 27, 28, 29, 30, 31, 32, 33, 34, 35, 36, 37, 38, 39, 40, 41, 42, 43, 44, 45, 46, 47, 48, 49, 50, 51, 52, 53, 54, 55, 56, 61, 62, 63, 64, 65, 66, 67, 68, 69, 70, 71, 72, 73, 74, 75, 76, 77, 78] (by decide +kernel) (by decide +kernel)
set_option maxRecDepth 20000 in
theorem gX8_ends_X8_closes : GoodIn wsX8_ends (wsV RX8 162 RX8 yX8_closes wsX8_closes) := goodIn_app (goodIn_of _ (by decide +kernel)) ggX8_ends_X8_closes
set_option maxRecDepth 20000 in
theorem ggX8_ends_X8_backs : GoodIn wsX8_ends wsX8_backs := goodIn_r _ [60, 6, 14, 61, 62, 63, 64, 65, 66, 67, 68, 69, 70, 71, 72, 73, 74, 75, 76, 77, 78] (by decide +kernel) (by decide +kernel)
set_option maxRecDepth 20000 in
theorem gX8_ends_X8_backs : GoodIn wsX8_ends (wsV RX8 159 RX8 yX8_backs wsX8_backs) := goodIn_app (goodIn_of _ (by decide +kernel)) ggX8_ends_X8_backs
theorem dX8_ends_0 : decode cX8_ends 0 = .ok (.aload_n 0, 1) := by decide +kernel
theorem dX8_ends_1 : decode cX8_ends 1 = .ok (.iload_n 1, 1) := by decide +kernel
theorem dX8_ends_2 : decode cX8_ends 2 = .ok (.invokevirtual 107, 3) := by decide +kernel
theorem dX8_ends_5 : decode cX8_ends 5 = .ok (.ifCond .ne 5, 3) := by decide +kernel
theorem dX8_ends_8 : decode cX8_ends 8 = .ok (.iconst (-1), 1) := by decide +kernel
theorem dX8_ends_9 : decode cX8_ends 9 = .ok (.ireturn, 1) := by decide +kernel
theorem dX8_ends_10 : decode cX8_ends 10 = .ok (.aload_n 0, 1) := by decide +kernel
theorem dX8_ends_11 : decode cX8_ends 11 = .ok (.invokevirtual 156, 3) := by decide +kernel
theorem dX8_ends_14 : decode cX8_ends 14 = .ok (.aload_n 0, 1) := by decide +kernel
theorem dX8_ends_15 : decode cX8_ends 15 = .ok (.iload_n 1, 1) := by decide +kernel
theorem dX8_ends_16 : decode cX8_ends 16 = .ok (.invokevirtual 162, 3) := by decide +kernel
theorem dX8_ends_19 : decode cX8_ends 19 = .ok (.istore_n 2, 1) := by decide +kernel
theorem dX8_ends_20 : decode cX8_ends 20 = .ok (.aload_n 0, 1) := by decide +kernel
theorem dX8_ends_21 : decode cX8_ends 21 = .ok (.invokevirtual 159, 3) := by decide +kernel
theorem dX8_ends_24 : decode cX8_ends 24 = .ok (.iload_n 2, 1) := by decide +kernel
theorem dX8_ends_25 : decode cX8_ends 25 = .ok (.ireturn, 1) := by decide +kernel
set_option maxRecDepth 20000 in
theorem ggX8_letters_X8_meantOf : GoodIn wsX8_letters wsX8_meantOf := goodIn_r _ [6, 7, 8, 9, 10, 5, 11, 16, 17, 18, 19, 20, 21, 22, 23, 24, 25, 26, 27, 28, 29, 30, 31, 32, 33] (by decide +kernel) (by decide +kernel)
set_option maxRecDepth 20000 in
theorem gX8_letters_X8_meantOf : GoodIn wsX8_letters (wsV RX8 115 RX8 yX8_meantOf wsX8_meantOf) := goodIn_app (goodIn_of _ (by decide +kernel)) ggX8_letters_X8_meantOf
set_option maxRecDepth 20000 in
theorem ggX8_letters_X8_answers : GoodIn wsX8_letters wsX8_answers := goodIn_r _ [15, 7, 16, 17, 18, 19, 20, 21, 22, 23, 24, 25, 26, 27, 28, 29, 30, 31, 32, 33] (by decide +kernel) (by decide +kernel)
set_option maxRecDepth 20000 in
theorem gX8_letters_X8_answers : GoodIn wsX8_letters (wsV RX8 142 RX8 yX8_answers wsX8_answers) := goodIn_app (goodIn_of _ (by decide +kernel)) ggX8_letters_X8_answers
theorem dX8_letters_0 : decode cX8_letters 0 = .ok (.iload_n 1, 1) := by decide +kernel
theorem dX8_letters_1 : decode cX8_letters 1 = .ok (.istore 4, 2) := by decide +kernel
theorem dX8_letters_3 : decode cX8_letters 3 = .ok (.iload_n 2, 1) := by decide +kernel
theorem dX8_letters_4 : decode cX8_letters 4 = .ok (.istore 5, 2) := by decide +kernel
theorem dX8_letters_6 : decode cX8_letters 6 = .ok (.iconst 1, 1) := by decide +kernel
theorem dX8_letters_7 : decode cX8_letters 7 = .ok (.istore 6, 2) := by decide +kernel
theorem dX8_letters_9 : decode cX8_letters 9 = .ok (.iload 6, 2) := by decide +kernel
theorem dX8_letters_11 : decode cX8_letters 11 = .ok (.bipush 32, 2) := by decide +kernel
theorem dX8_letters_13 : decode cX8_letters 13 = .ok (.if_icmp .ge 50, 3) := by decide +kernel
theorem dX8_letters_16 : decode cX8_letters 16 = .ok (.aload_n 0, 1) := by decide +kernel
theorem dX8_letters_17 : decode cX8_letters 17 = .ok (.iload 4, 2) := by decide +kernel
theorem dX8_letters_19 : decode cX8_letters 19 = .ok (.putfield 165, 3) := by decide +kernel
theorem dX8_letters_22 : decode cX8_letters 22 = .ok (.aload_n 0, 1) := by decide +kernel
theorem dX8_letters_23 : decode cX8_letters 23 = .ok (.iload 4, 2) := by decide +kernel
theorem dX8_letters_25 : decode cX8_letters 25 = .ok (.iload 5, 2) := by decide +kernel
theorem dX8_letters_27 : decode cX8_letters 27 = .ok (.iload_n 3, 1) := by decide +kernel
theorem dX8_letters_28 : decode cX8_letters 28 = .ok (.invokevirtual 115, 3) := by decide +kernel
theorem dX8_letters_31 : decode cX8_letters 31 = .ok (.istore 7, 2) := by decide +kernel
theorem dX8_letters_33 : decode cX8_letters 33 = .ok (.iload 7, 2) := by decide +kernel
theorem dX8_letters_35 : decode cX8_letters 35 = .ok (.bipush (-9), 2) := by decide +kernel
theorem dX8_letters_37 : decode cX8_letters 37 = .ok (.if_icmp .ne 6, 3) := by decide +kernel
theorem dX8_letters_40 : decode cX8_letters 40 = .ok (.iload 6, 2) := by decide +kernel
theorem dX8_letters_42 : decode cX8_letters 42 = .ok (.ireturn, 1) := by decide +kernel
theorem dX8_letters_43 : decode cX8_letters 43 = .ok (.aload_n 0, 1) := by decide +kernel
theorem dX8_letters_44 : decode cX8_letters 44 = .ok (.iload 7, 2) := by decide +kernel
theorem dX8_letters_46 : decode cX8_letters 46 = .ok (.iload 5, 2) := by decide +kernel
theorem dX8_letters_48 : decode cX8_letters 48 = .ok (.invokevirtual 142, 3) := by decide +kernel
theorem dX8_letters_51 : decode cX8_letters 51 = .ok (.istore 5, 2) := by decide +kernel
theorem dX8_letters_53 : decode cX8_letters 53 = .ok (.iload 7, 2) := by decide +kernel
theorem dX8_letters_55 : decode cX8_letters 55 = .ok (.istore 4, 2) := by decide +kernel
theorem dX8_letters_57 : decode cX8_letters 57 = .ok (.iinc 6 1, 3) := by decide +kernel
theorem dX8_letters_60 : decode cX8_letters 60 = .ok (.goto (-51), 3) := by decide +kernel
theorem dX8_letters_63 : decode cX8_letters 63 = .ok (.bipush (-9), 2) := by decide +kernel
theorem dX8_letters_65 : decode cX8_letters 65 = .ok (.ireturn, 1) := by decide +kernel
set_option maxRecDepth 20000 in
theorem ggX8_round_X8_isWriter : GoodIn wsX8_round wsX8_isWriter := goodIn_r _ [7, 8, 9, 10, 6, 11, 36, 37, 38, 39, 40, 41, 42, 43, 44, 45, 46, 47, 48, 49, 50, 51, 52, 53] (by decide +kernel) (by decide +kernel)
set_option maxRecDepth 20000 in
theorem gX8_round_X8_isWriter : GoodIn wsX8_round (wsV RX8 98 RX8 yX8_isWriter wsX8_isWriter) := goodIn_app (goodIn_of _ (by decide +kernel)) ggX8_round_X8_isWriter
set_option maxRecDepth 20000 in
theorem ggX8_round_X8_isSubject : GoodIn wsX8_round wsX8_isSubject := goodIn_r _ [14, 15, 9, 10, 6, 11] (by decide +kernel) (by decide +kernel)
set_option maxRecDepth 20000 in
theorem gX8_round_X8_isSubject : GoodIn wsX8_round (va_wsS RX8 112 yX8_isSubject wsX8_isSubject) := goodIn_app (goodIn_of _ (by decide +kernel)) ggX8_round_X8_isSubject
set_option maxRecDepth 20000 in
theorem ggX8_round_X8_in : GoodIn wsX8_round wsX8_in := goodIn_r _ [11] (by decide +kernel) (by decide +kernel)
set_option maxRecDepth 20000 in
theorem gX8_round_X8_in : GoodIn wsX8_round (va_wsS RX8 42 yX8_in wsX8_in) := goodIn_app (goodIn_of _ (by decide +kernel)) ggX8_round_X8_in
set_option maxRecDepth 20000 in
theorem ggX8_round_X8_hasLaid : GoodIn wsX8_round wsX8_hasLaid := goodIn_r _ [19, 1, 36, 37, 38, 39, 40, 41, 42, 43, 44, 45, 46, 47, 48, 49, 50, 51, 52, 53] (by decide +kernel) (by decide +kernel)
set_option maxRecDepth 20000 in
theorem gX8_round_X8_hasLaid : GoodIn wsX8_round (wsV RX8 126 RX8 yX8_hasLaid wsX8_hasLaid) := goodIn_app (goodIn_of _ (by decide +kernel)) ggX8_round_X8_hasLaid
set_option maxRecDepth 20000 in
theorem ggX8_round_X8_letters : GoodIn wsX8_round wsX8_letters := goodIn_r _ [23, 2, 24, 25, 26, 6, 27, 8, 28, 29, 30, 31, 32, 33, 34, 35, 36, 37, 38, 39, 40, 41, 42, 43, 44, 45, 46, 47, 48, 49, 50, 51, 52, 53] (by decide +kernel) (by decide +kernel)
set_option maxRecDepth 20000 in
theorem gX8_round_X8_letters : GoodIn wsX8_round (wsV RX8 168 RX8 yX8_letters wsX8_letters) := goodIn_app (goodIn_of _ (by decide +kernel)) ggX8_round_X8_letters
theorem dX8_round_0 : decode cX8_round 0 = .ok (.aload_n 0, 1) := by decide +kernel
theorem dX8_round_1 : decode cX8_round 1 = .ok (.iload_n 1, 1) := by decide +kernel
theorem dX8_round_2 : decode cX8_round 2 = .ok (.invokevirtual 98, 3) := by decide +kernel
theorem dX8_round_5 : decode cX8_round 5 = .ok (.ifCond .eq 20, 3) := by decide +kernel
theorem dX8_round_8 : decode cX8_round 8 = .ok (.iload_n 2, 1) := by decide +kernel
theorem dX8_round_9 : decode cX8_round 9 = .ok (.invokestatic 112, 3) := by decide +kernel
theorem dX8_round_12 : decode cX8_round 12 = .ok (.ifCond .eq 13, 3) := by decide +kernel
theorem dX8_round_15 : decode cX8_round 15 = .ok (.iload_n 3, 1) := by decide +kernel
theorem dX8_round_16 : decode cX8_round 16 = .ok (.i2l, 1) := by decide +kernel
theorem dX8_round_17 : decode cX8_round 17 = .ok (.lconst 0, 1) := by decide +kernel
theorem dX8_round_18 : decode cX8_round 18 = .ok (.lconst 1, 1) := by decide +kernel
theorem dX8_round_19 : decode cX8_round 19 = .ok (.invokestatic 42, 3) := by decide +kernel
theorem dX8_round_22 : decode cX8_round 22 = .ok (.ifCond .ne 5, 3) := by decide +kernel
theorem dX8_round_25 : decode cX8_round 25 = .ok (.iconst (-1), 1) := by decide +kernel
theorem dX8_round_26 : decode cX8_round 26 = .ok (.ireturn, 1) := by decide +kernel
theorem dX8_round_27 : decode cX8_round 27 = .ok (.aload_n 0, 1) := by decide +kernel
theorem dX8_round_28 : decode cX8_round 28 = .ok (.iload_n 1, 1) := by decide +kernel
theorem dX8_round_29 : decode cX8_round 29 = .ok (.invokevirtual 126, 3) := by decide +kernel
theorem dX8_round_32 : decode cX8_round 32 = .ok (.ifCond .eq 6, 3) := by decide +kernel
theorem dX8_round_35 : decode cX8_round 35 = .ok (.bipush (-2), 2) := by decide +kernel
theorem dX8_round_37 : decode cX8_round 37 = .ok (.ireturn, 1) := by decide +kernel
theorem dX8_round_38 : decode cX8_round 38 = .ok (.aload_n 0, 1) := by decide +kernel
theorem dX8_round_39 : decode cX8_round 39 = .ok (.iload_n 1, 1) := by decide +kernel
theorem dX8_round_40 : decode cX8_round 40 = .ok (.iload_n 2, 1) := by decide +kernel
theorem dX8_round_41 : decode cX8_round 41 = .ok (.aload_n 0, 1) := by decide +kernel
theorem dX8_round_42 : decode cX8_round 42 = .ok (.getfield 19, 3) := by decide +kernel
theorem dX8_round_45 : decode cX8_round 45 = .ok (.iconst 2, 1) := by decide +kernel
theorem dX8_round_46 : decode cX8_round 46 = .ok (.iaload, 1) := by decide +kernel
theorem dX8_round_47 : decode cX8_round 47 = .ok (.invokevirtual 168, 3) := by decide +kernel
theorem dX8_round_50 : decode cX8_round 50 = .ok (.istore 4, 2) := by decide +kernel
theorem dX8_round_52 : decode cX8_round 52 = .ok (.iload 4, 2) := by decide +kernel
theorem dX8_round_54 : decode cX8_round 54 = .ok (.bipush (-9), 2) := by decide +kernel
theorem dX8_round_56 : decode cX8_round 56 = .ok (.if_icmp .eq 7, 3) := by decide +kernel
theorem dX8_round_59 : decode cX8_round 59 = .ok (.iload_n 3, 1) := by decide +kernel
theorem dX8_round_60 : decode cX8_round 60 = .ok (.ifCond .ne 8, 3) := by decide +kernel
theorem dX8_round_63 : decode cX8_round 63 = .ok (.iload 4, 2) := by decide +kernel
theorem dX8_round_65 : decode cX8_round 65 = .ok (.goto 7, 3) := by decide +kernel
theorem dX8_round_68 : decode cX8_round 68 = .ok (.aload_n 0, 1) := by decide +kernel
theorem dX8_round_69 : decode cX8_round 69 = .ok (.getfield 165, 3) := by decide +kernel
theorem dX8_round_72 : decode cX8_round 72 = .ok (.ireturn, 1) := by decide +kernel
set_option maxRecDepth 20000 in
theorem ggX8_last_X8_isWriter : GoodIn wsX8_last wsX8_isWriter := goodIn_r _ [7, 8, 9, 10, 6, 11, 32, 33, 34, 35, 36, 37, 38, 39, 40, 41, 42, 43, 44, 45, 46, 47, 48, 49] (by decide +kernel) (by decide +kernel)
set_option maxRecDepth 20000 in
theorem gX8_last_X8_isWriter : GoodIn wsX8_last (wsV RX8 98 RX8 yX8_isWriter wsX8_isWriter) := goodIn_app (goodIn_of _ (by decide +kernel)) ggX8_last_X8_isWriter
set_option maxRecDepth 20000 in
theorem ggX8_last_X8_hasLaid : GoodIn wsX8_last wsX8_hasLaid := goodIn_r _ [15, 1, 32, 33, 34, 35, 36, 37, 38, 39, 40, 41, 42, 43, 44, 45, 46, 47, 48, 49] (by decide +kernel) (by decide +kernel)
set_option maxRecDepth 20000 in
theorem gX8_last_X8_hasLaid : GoodIn wsX8_last (wsV RX8 126 RX8 yX8_hasLaid wsX8_hasLaid) := goodIn_app (goodIn_of _ (by decide +kernel)) ggX8_last_X8_hasLaid
set_option maxRecDepth 20000 in
theorem ggX8_last_X8_letters : GoodIn wsX8_last wsX8_letters := goodIn_r _ [19, 2, 20, 21, 22, 6, 23, 8, 24, 25, 26, 27, 28, 29, 30, 31, 32, 33, 34, 35, 36, 37, 38, 39, 40, 41, 42, 43, 44, 45, 46, 47, 48, 49] (by decide +kernel) (by decide +kernel)
set_option maxRecDepth 20000 in
theorem gX8_last_X8_letters : GoodIn wsX8_last (wsV RX8 168 RX8 yX8_letters wsX8_letters) := goodIn_app (goodIn_of _ (by decide +kernel)) ggX8_last_X8_letters
theorem dX8_last_0 : decode cX8_last 0 = .ok (.aload_n 0, 1) := by decide +kernel
theorem dX8_last_1 : decode cX8_last 1 = .ok (.iload_n 1, 1) := by decide +kernel
theorem dX8_last_2 : decode cX8_last 2 = .ok (.invokevirtual 98, 3) := by decide +kernel
theorem dX8_last_5 : decode cX8_last 5 = .ok (.ifCond .ne 5, 3) := by decide +kernel
theorem dX8_last_8 : decode cX8_last 8 = .ok (.iconst (-1), 1) := by decide +kernel
theorem dX8_last_9 : decode cX8_last 9 = .ok (.ireturn, 1) := by decide +kernel
theorem dX8_last_10 : decode cX8_last 10 = .ok (.aload_n 0, 1) := by decide +kernel
theorem dX8_last_11 : decode cX8_last 11 = .ok (.iload_n 1, 1) := by decide +kernel
theorem dX8_last_12 : decode cX8_last 12 = .ok (.invokevirtual 126, 3) := by decide +kernel
theorem dX8_last_15 : decode cX8_last 15 = .ok (.ifCond .eq 6, 3) := by decide +kernel
theorem dX8_last_18 : decode cX8_last 18 = .ok (.bipush (-2), 2) := by decide +kernel
theorem dX8_last_20 : decode cX8_last 20 = .ok (.ireturn, 1) := by decide +kernel
theorem dX8_last_21 : decode cX8_last 21 = .ok (.iconst 0, 1) := by decide +kernel
theorem dX8_last_22 : decode cX8_last 22 = .ok (.istore_n 2, 1) := by decide +kernel
theorem dX8_last_23 : decode cX8_last 23 = .ok (.iload_n 2, 1) := by decide +kernel
theorem dX8_last_24 : decode cX8_last 24 = .ok (.iconst 5, 1) := by decide +kernel
theorem dX8_last_25 : decode cX8_last 25 = .ok (.if_icmp .ge 36, 3) := by decide +kernel
theorem dX8_last_28 : decode cX8_last 28 = .ok (.aload_n 0, 1) := by decide +kernel
theorem dX8_last_29 : decode cX8_last 29 = .ok (.iload_n 1, 1) := by decide +kernel
theorem dX8_last_30 : decode cX8_last 30 = .ok (.iload_n 2, 1) := by decide +kernel
theorem dX8_last_31 : decode cX8_last 31 = .ok (.aload_n 0, 1) := by decide +kernel
theorem dX8_last_32 : decode cX8_last 32 = .ok (.getfield 19, 3) := by decide +kernel
theorem dX8_last_35 : decode cX8_last 35 = .ok (.iconst 2, 1) := by decide +kernel
theorem dX8_last_36 : decode cX8_last 36 = .ok (.iaload, 1) := by decide +kernel
theorem dX8_last_37 : decode cX8_last 37 = .ok (.invokevirtual 168, 3) := by decide +kernel
theorem dX8_last_40 : decode cX8_last 40 = .ok (.bipush (-9), 2) := by decide +kernel
theorem dX8_last_42 : decode cX8_last 42 = .ok (.if_icmp .eq 13, 3) := by decide +kernel
theorem dX8_last_45 : decode cX8_last 45 = .ok (.aload_n 0, 1) := by decide +kernel
theorem dX8_last_46 : decode cX8_last 46 = .ok (.getfield 165, 3) := by decide +kernel
theorem dX8_last_49 : decode cX8_last 49 = .ok (.iload_n 1, 1) := by decide +kernel
theorem dX8_last_50 : decode cX8_last 50 = .ok (.if_icmp .ne 5, 3) := by decide +kernel
theorem dX8_last_53 : decode cX8_last 53 = .ok (.iload_n 2, 1) := by decide +kernel
theorem dX8_last_54 : decode cX8_last 54 = .ok (.ireturn, 1) := by decide +kernel
theorem dX8_last_55 : decode cX8_last 55 = .ok (.iinc 2 1, 3) := by decide +kernel
theorem dX8_last_58 : decode cX8_last 58 = .ok (.goto (-35), 3) := by decide +kernel
theorem dX8_last_61 : decode cX8_last 61 = .ok (.bipush (-9), 2) := by decide +kernel
theorem dX8_last_63 : decode cX8_last 63 = .ok (.ireturn, 1) := by decide +kernel
set_option maxRecDepth 20000 in
theorem ggX8_bindsNobody_X8_isWriter : GoodIn wsX8_bindsNobody wsX8_isWriter := goodIn_r _ [6, 7, 8, 9, 5, 10, 19, 20, 21, 22, 23, 24, 25, 26, 27, 28, 29, 30, 31, 32, 33, 34, 35, 36] (by decide +kernel) (by decide +kernel)
set_option maxRecDepth 20000 in
theorem gX8_bindsNobody_X8_isWriter : GoodIn wsX8_bindsNobody (wsV RX8 98 RX8 yX8_isWriter wsX8_isWriter) := goodIn_app (goodIn_of _ (by decide +kernel)) ggX8_bindsNobody_X8_isWriter
set_option maxRecDepth 20000 in
theorem ggX8_bindsNobody_X8_meantOf : GoodIn wsX8_bindsNobody wsX8_meantOf := goodIn_r _ [14, 7, 15, 16, 17, 5, 18, 19, 20, 21, 22, 23, 24, 25, 26, 27, 28, 29, 30, 31, 32, 33, 34, 35, 36] (by decide +kernel) (by decide +kernel)
set_option maxRecDepth 20000 in
theorem gX8_bindsNobody_X8_meantOf : GoodIn wsX8_bindsNobody (wsV RX8 115 RX8 yX8_meantOf wsX8_meantOf) := goodIn_app (goodIn_of _ (by decide +kernel)) ggX8_bindsNobody_X8_meantOf
theorem dX8_bindsNobody_0 : decode cX8_bindsNobody 0 = .ok (.aload_n 0, 1) := by decide +kernel
theorem dX8_bindsNobody_1 : decode cX8_bindsNobody 1 = .ok (.iload_n 1, 1) := by decide +kernel
theorem dX8_bindsNobody_2 : decode cX8_bindsNobody 2 = .ok (.invokevirtual 98, 3) := by decide +kernel
theorem dX8_bindsNobody_5 : decode cX8_bindsNobody 5 = .ok (.ifCond .ne 5, 3) := by decide +kernel
theorem dX8_bindsNobody_8 : decode cX8_bindsNobody 8 = .ok (.iconst (-1), 1) := by decide +kernel
theorem dX8_bindsNobody_9 : decode cX8_bindsNobody 9 = .ok (.ireturn, 1) := by decide +kernel
theorem dX8_bindsNobody_10 : decode cX8_bindsNobody 10 = .ok (.iconst 0, 1) := by decide +kernel
theorem dX8_bindsNobody_11 : decode cX8_bindsNobody 11 = .ok (.istore_n 2, 1) := by decide +kernel
theorem dX8_bindsNobody_12 : decode cX8_bindsNobody 12 = .ok (.iconst 0, 1) := by decide +kernel
theorem dX8_bindsNobody_13 : decode cX8_bindsNobody 13 = .ok (.istore_n 3, 1) := by decide +kernel
theorem dX8_bindsNobody_14 : decode cX8_bindsNobody 14 = .ok (.iload_n 3, 1) := by decide +kernel
theorem dX8_bindsNobody_15 : decode cX8_bindsNobody 15 = .ok (.iconst 5, 1) := by decide +kernel
theorem dX8_bindsNobody_16 : decode cX8_bindsNobody 16 = .ok (.if_icmp .ge 36, 3) := by decide +kernel
theorem dX8_bindsNobody_19 : decode cX8_bindsNobody 19 = .ok (.iload_n 2, 1) := by decide +kernel
theorem dX8_bindsNobody_20 : decode cX8_bindsNobody 20 = .ok (.aload_n 0, 1) := by decide +kernel
theorem dX8_bindsNobody_21 : decode cX8_bindsNobody 21 = .ok (.iload_n 1, 1) := by decide +kernel
theorem dX8_bindsNobody_22 : decode cX8_bindsNobody 22 = .ok (.iload_n 3, 1) := by decide +kernel
theorem dX8_bindsNobody_23 : decode cX8_bindsNobody 23 = .ok (.aload_n 0, 1) := by decide +kernel
theorem dX8_bindsNobody_24 : decode cX8_bindsNobody 24 = .ok (.getfield 19, 3) := by decide +kernel
theorem dX8_bindsNobody_27 : decode cX8_bindsNobody 27 = .ok (.iconst 2, 1) := by decide +kernel
theorem dX8_bindsNobody_28 : decode cX8_bindsNobody 28 = .ok (.iaload, 1) := by decide +kernel
theorem dX8_bindsNobody_29 : decode cX8_bindsNobody 29 = .ok (.invokevirtual 115, 3) := by decide +kernel
theorem dX8_bindsNobody_32 : decode cX8_bindsNobody 32 = .ok (.bipush (-9), 2) := by decide +kernel
theorem dX8_bindsNobody_34 : decode cX8_bindsNobody 34 = .ok (.if_icmp .ne 9, 3) := by decide +kernel
theorem dX8_bindsNobody_37 : decode cX8_bindsNobody 37 = .ok (.iconst 1, 1) := by decide +kernel
theorem dX8_bindsNobody_38 : decode cX8_bindsNobody 38 = .ok (.iload_n 3, 1) := by decide +kernel
theorem dX8_bindsNobody_39 : decode cX8_bindsNobody 39 = .ok (.ishl, 1) := by decide +kernel
theorem dX8_bindsNobody_40 : decode cX8_bindsNobody 40 = .ok (.goto 4, 3) := by decide +kernel
theorem dX8_bindsNobody_43 : decode cX8_bindsNobody 43 = .ok (.iconst 0, 1) := by decide +kernel
theorem dX8_bindsNobody_44 : decode cX8_bindsNobody 44 = .ok (.ior, 1) := by decide +kernel
theorem dX8_bindsNobody_45 : decode cX8_bindsNobody 45 = .ok (.istore_n 2, 1) := by decide +kernel
theorem dX8_bindsNobody_46 : decode cX8_bindsNobody 46 = .ok (.iinc 3 1, 3) := by decide +kernel
theorem dX8_bindsNobody_49 : decode cX8_bindsNobody 49 = .ok (.goto (-35), 3) := by decide +kernel
theorem dX8_bindsNobody_52 : decode cX8_bindsNobody 52 = .ok (.iload_n 2, 1) := by decide +kernel
theorem dX8_bindsNobody_53 : decode cX8_bindsNobody 53 = .ok (.ireturn, 1) := by decide +kernel
set_option maxRecDepth 20000 in
theorem ggX8_isInTime_X8_at : GoodIn wsX8_isInTime wsX8_at := goodIn_r _ [7, 1, 8, 9, 10, 11, 12, 13, 14, 15, 16, 17, 18, 19, 20, 21, 22, 23, 24, 25] (by decide +kernel) (by decide +kernel)
set_option maxRecDepth 20000 in
theorem gX8_isInTime_X8_at : GoodIn wsX8_isInTime (wsV RX8 96 RX8 yX8_at wsX8_at) := goodIn_app (goodIn_of _ (by decide +kernel)) ggX8_isInTime_X8_at
theorem dX8_isInTime_0 : decode cX8_isInTime 0 = .ok (.iload_n 1, 1) := by decide +kernel
theorem dX8_isInTime_1 : decode cX8_isInTime 1 = .ok (.istore_n 2, 1) := by decide +kernel
theorem dX8_isInTime_2 : decode cX8_isInTime 2 = .ok (.aload_n 0, 1) := by decide +kernel
theorem dX8_isInTime_3 : decode cX8_isInTime 3 = .ok (.getfield 19, 3) := by decide +kernel
theorem dX8_isInTime_6 : decode cX8_isInTime 6 = .ok (.iconst 0, 1) := by decide +kernel
theorem dX8_isInTime_7 : decode cX8_isInTime 7 = .ok (.iaload, 1) := by decide +kernel
theorem dX8_isInTime_8 : decode cX8_isInTime 8 = .ok (.istore_n 3, 1) := by decide +kernel
theorem dX8_isInTime_9 : decode cX8_isInTime 9 = .ok (.iconst 1, 1) := by decide +kernel
theorem dX8_isInTime_10 : decode cX8_isInTime 10 = .ok (.istore 4, 2) := by decide +kernel
theorem dX8_isInTime_12 : decode cX8_isInTime 12 = .ok (.iload_n 2, 1) := by decide +kernel
theorem dX8_isInTime_13 : decode cX8_isInTime 13 = .ok (.ifCond .eq 122, 3) := by decide +kernel
theorem dX8_isInTime_16 : decode cX8_isInTime 16 = .ok (.iload 4, 2) := by decide +kernel
theorem dX8_isInTime_18 : decode cX8_isInTime 18 = .ok (.ifCond .eq 117, 3) := by decide +kernel
theorem dX8_isInTime_21 : decode cX8_isInTime 21 = .ok (.bipush (-9), 2) := by decide +kernel
theorem dX8_isInTime_23 : decode cX8_isInTime 23 = .ok (.istore 5, 2) := by decide +kernel
theorem dX8_isInTime_25 : decode cX8_isInTime 25 = .ok (.iconst 0, 1) := by decide +kernel
theorem dX8_isInTime_26 : decode cX8_isInTime 26 = .ok (.istore 6, 2) := by decide +kernel
theorem dX8_isInTime_28 : decode cX8_isInTime 28 = .ok (.iload 6, 2) := by decide +kernel
theorem dX8_isInTime_30 : decode cX8_isInTime 30 = .ok (.aload_n 0, 1) := by decide +kernel
theorem dX8_isInTime_31 : decode cX8_isInTime 31 = .ok (.getfield 19, 3) := by decide +kernel
theorem dX8_isInTime_34 : decode cX8_isInTime 34 = .ok (.iconst 1, 1) := by decide +kernel
theorem dX8_isInTime_35 : decode cX8_isInTime 35 = .ok (.iaload, 1) := by decide +kernel
theorem dX8_isInTime_36 : decode cX8_isInTime 36 = .ok (.if_icmp .ge 52, 3) := by decide +kernel
theorem dX8_isInTime_39 : decode cX8_isInTime 39 = .ok (.iload_n 2, 1) := by decide +kernel
theorem dX8_isInTime_40 : decode cX8_isInTime 40 = .ok (.iload 6, 2) := by decide +kernel
theorem dX8_isInTime_42 : decode cX8_isInTime 42 = .ok (.ishr, 1) := by decide +kernel
theorem dX8_isInTime_43 : decode cX8_isInTime 43 = .ok (.iconst 1, 1) := by decide +kernel
theorem dX8_isInTime_44 : decode cX8_isInTime 44 = .ok (.iand, 1) := by decide +kernel
theorem dX8_isInTime_45 : decode cX8_isInTime 45 = .ok (.iconst 1, 1) := by decide +kernel
theorem dX8_isInTime_46 : decode cX8_isInTime 46 = .ok (.if_icmp .ne 32, 3) := by decide +kernel
theorem dX8_isInTime_49 : decode cX8_isInTime 49 = .ok (.iload 5, 2) := by decide +kernel
theorem dX8_isInTime_51 : decode cX8_isInTime 51 = .ok (.bipush (-9), 2) := by decide +kernel
theorem dX8_isInTime_53 : decode cX8_isInTime 53 = .ok (.if_icmp .eq 20, 3) := by decide +kernel
theorem dX8_isInTime_56 : decode cX8_isInTime 56 = .ok (.aload_n 0, 1) := by decide +kernel
theorem dX8_isInTime_57 : decode cX8_isInTime 57 = .ok (.iload 6, 2) := by decide +kernel
theorem dX8_isInTime_59 : decode cX8_isInTime 59 = .ok (.iconst 2, 1) := by decide +kernel
theorem dX8_isInTime_60 : decode cX8_isInTime 60 = .ok (.invokevirtual 96, 3) := by decide +kernel
theorem dX8_isInTime_63 : decode cX8_isInTime 63 = .ok (.aload_n 0, 1) := by decide +kernel
theorem dX8_isInTime_64 : decode cX8_isInTime 64 = .ok (.iload 5, 2) := by decide +kernel
theorem dX8_isInTime_66 : decode cX8_isInTime 66 = .ok (.iconst 2, 1) := by decide +kernel
theorem dX8_isInTime_67 : decode cX8_isInTime 67 = .ok (.invokevirtual 96, 3) := by decide +kernel
theorem dX8_isInTime_70 : decode cX8_isInTime 70 = .ok (.if_icmp .ge 8, 3) := by decide +kernel
theorem dX8_isInTime_73 : decode cX8_isInTime 73 = .ok (.iload 6, 2) := by decide +kernel
theorem dX8_isInTime_75 : decode cX8_isInTime 75 = .ok (.goto 5, 3) := by decide +kernel
theorem dX8_isInTime_78 : decode cX8_isInTime 78 = .ok (.iload 5, 2) := by decide +kernel
theorem dX8_isInTime_80 : decode cX8_isInTime 80 = .ok (.istore 5, 2) := by decide +kernel
theorem dX8_isInTime_82 : decode cX8_isInTime 82 = .ok (.iinc 6 1, 3) := by decide +kernel
theorem dX8_isInTime_85 : decode cX8_isInTime 85 = .ok (.goto (-57), 3) := by decide +kernel
theorem dX8_isInTime_88 : decode cX8_isInTime 88 = .ok (.iload_n 3, 1) := by decide +kernel
theorem dX8_isInTime_89 : decode cX8_isInTime 89 = .ok (.aload_n 0, 1) := by decide +kernel
theorem dX8_isInTime_90 : decode cX8_isInTime 90 = .ok (.iload 5, 2) := by decide +kernel
theorem dX8_isInTime_92 : decode cX8_isInTime 92 = .ok (.iconst 4, 1) := by decide +kernel
theorem dX8_isInTime_93 : decode cX8_isInTime 93 = .ok (.invokevirtual 96, 3) := by decide +kernel
theorem dX8_isInTime_96 : decode cX8_isInTime 96 = .ok (.iadd, 1) := by decide +kernel
theorem dX8_isInTime_97 : decode cX8_isInTime 97 = .ok (.istore_n 3, 1) := by decide +kernel
theorem dX8_isInTime_98 : decode cX8_isInTime 98 = .ok (.iload_n 3, 1) := by decide +kernel
theorem dX8_isInTime_99 : decode cX8_isInTime 99 = .ok (.aload_n 0, 1) := by decide +kernel
theorem dX8_isInTime_100 : decode cX8_isInTime 100 = .ok (.iload 5, 2) := by decide +kernel
theorem dX8_isInTime_102 : decode cX8_isInTime 102 = .ok (.iconst 2, 1) := by decide +kernel
theorem dX8_isInTime_103 : decode cX8_isInTime 103 = .ok (.invokevirtual 96, 3) := by decide +kernel
theorem dX8_isInTime_106 : decode cX8_isInTime 106 = .ok (.aload_n 0, 1) := by decide +kernel
theorem dX8_isInTime_107 : decode cX8_isInTime 107 = .ok (.getfield 16, 3) := by decide +kernel
theorem dX8_isInTime_110 : decode cX8_isInTime 110 = .ok (.iconst 1, 1) := by decide +kernel
theorem dX8_isInTime_111 : decode cX8_isInTime 111 = .ok (.iaload, 1) := by decide +kernel
theorem dX8_isInTime_112 : decode cX8_isInTime 112 = .ok (.iadd, 1) := by decide +kernel
theorem dX8_isInTime_113 : decode cX8_isInTime 113 = .ok (.if_icmp .gt 7, 3) := by decide +kernel
theorem dX8_isInTime_116 : decode cX8_isInTime 116 = .ok (.iconst 1, 1) := by decide +kernel
theorem dX8_isInTime_117 : decode cX8_isInTime 117 = .ok (.goto 4, 3) := by decide +kernel
theorem dX8_isInTime_120 : decode cX8_isInTime 120 = .ok (.iconst 0, 1) := by decide +kernel
theorem dX8_isInTime_121 : decode cX8_isInTime 121 = .ok (.istore 4, 2) := by decide +kernel
theorem dX8_isInTime_123 : decode cX8_isInTime 123 = .ok (.iload_n 2, 1) := by decide +kernel
theorem dX8_isInTime_124 : decode cX8_isInTime 124 = .ok (.iconst 1, 1) := by decide +kernel
theorem dX8_isInTime_125 : decode cX8_isInTime 125 = .ok (.iload 5, 2) := by decide +kernel
theorem dX8_isInTime_127 : decode cX8_isInTime 127 = .ok (.ishl, 1) := by decide +kernel
theorem dX8_isInTime_128 : decode cX8_isInTime 128 = .ok (.iconst (-1), 1) := by decide +kernel
theorem dX8_isInTime_129 : decode cX8_isInTime 129 = .ok (.ixor, 1) := by decide +kernel
theorem dX8_isInTime_130 : decode cX8_isInTime 130 = .ok (.iand, 1) := by decide +kernel
theorem dX8_isInTime_131 : decode cX8_isInTime 131 = .ok (.istore_n 2, 1) := by decide +kernel
theorem dX8_isInTime_132 : decode cX8_isInTime 132 = .ok (.goto (-120), 3) := by decide +kernel
theorem dX8_isInTime_135 : decode cX8_isInTime 135 = .ok (.iload 4, 2) := by decide +kernel
theorem dX8_isInTime_137 : decode cX8_isInTime 137 = .ok (.ireturn, 1) := by decide +kernel
theorem dX8_many_0 : decode cX8_many 0 = .ok (.iconst 0, 1) := by decide +kernel
theorem dX8_many_1 : decode cX8_many 1 = .ok (.istore_n 1, 1) := by decide +kernel
theorem dX8_many_2 : decode cX8_many 2 = .ok (.iload_n 0, 1) := by decide +kernel
theorem dX8_many_3 : decode cX8_many 3 = .ok (.istore_n 2, 1) := by decide +kernel
theorem dX8_many_4 : decode cX8_many 4 = .ok (.iload_n 2, 1) := by decide +kernel
theorem dX8_many_5 : decode cX8_many 5 = .ok (.ifCond .eq 15, 3) := by decide +kernel
theorem dX8_many_8 : decode cX8_many 8 = .ok (.iinc 1 1, 3) := by decide +kernel
theorem dX8_many_11 : decode cX8_many 11 = .ok (.iload_n 2, 1) := by decide +kernel
theorem dX8_many_12 : decode cX8_many 12 = .ok (.iload_n 2, 1) := by decide +kernel
theorem dX8_many_13 : decode cX8_many 13 = .ok (.iconst 1, 1) := by decide +kernel
theorem dX8_many_14 : decode cX8_many 14 = .ok (.isub, 1) := by decide +kernel
theorem dX8_many_15 : decode cX8_many 15 = .ok (.iand, 1) := by decide +kernel
theorem dX8_many_16 : decode cX8_many 16 = .ok (.istore_n 2, 1) := by decide +kernel
theorem dX8_many_17 : decode cX8_many 17 = .ok (.goto (-13), 3) := by decide +kernel
theorem dX8_many_20 : decode cX8_many 20 = .ok (.iload_n 1, 1) := by decide +kernel
theorem dX8_many_21 : decode cX8_many 21 = .ok (.ireturn, 1) := by decide +kernel
set_option maxRecDepth 20000 in
theorem ggX8_keeps_X8_isWriter : GoodIn wsX8_keeps wsX8_isWriter := goodIn_r _ [6, 7, 8, 9, 5, 10, 22, 23, 24, 25, 26, 27, 28, 29, 30, 31, 32, 33, 34, 35, 36, 37, 38, 39] (by decide +kernel) (by decide +kernel)
set_option maxRecDepth 20000 in
theorem gX8_keeps_X8_isWriter : GoodIn wsX8_keeps (wsV RX8 98 RX8 yX8_isWriter wsX8_isWriter) := goodIn_app (goodIn_of _ (by decide +kernel)) ggX8_keeps_X8_isWriter
set_option maxRecDepth 20000 in
theorem ggX8_keeps_X8_at : GoodIn wsX8_keeps wsX8_at := goodIn_r _ [14, 1, 22, 23, 24, 25, 26, 27, 28, 29, 30, 31, 32, 33, 34, 35, 36, 37, 38, 39] (by decide +kernel) (by decide +kernel)
set_option maxRecDepth 20000 in
theorem gX8_keeps_X8_at : GoodIn wsX8_keeps (wsV RX8 96 RX8 yX8_at wsX8_at) := goodIn_app (goodIn_of _ (by decide +kernel)) ggX8_keeps_X8_at
set_option maxRecDepth 20000 in
theorem ggX8_keeps_X8_many : GoodIn wsX8_keeps wsX8_many := goodIn_r _ [17] (by decide +kernel) (by decide +kernel)
set_option maxRecDepth 20000 in
theorem gX8_keeps_X8_many : GoodIn wsX8_keeps (va_wsS RX8 171 yX8_many wsX8_many) := goodIn_app (goodIn_of _ (by decide +kernel)) ggX8_keeps_X8_many
set_option maxRecDepth 20000 in
theorem ggX8_keeps_X8_isInTime : GoodIn wsX8_keeps wsX8_isInTime := goodIn_r _ [21, 1, 7, 11, 12, 13, 5, 14, 22, 23, 24, 25, 26, 27, 28, 29, 30, 31, 32, 33, 34, 35, 36, 37, 38, 39] (by decide +kernel) (by decide +kernel)
set_option maxRecDepth 20000 in
theorem gX8_keeps_X8_isInTime : GoodIn wsX8_keeps (wsV RX8 174 RX8 yX8_isInTime wsX8_isInTime) := goodIn_app (goodIn_of _ (by decide +kernel)) ggX8_keeps_X8_isInTime
end
section
theorem dX8_keeps_0 : decode cX8_keeps 0 = .ok (.aload_n 0, 1) := by decide +kernel
theorem dX8_keeps_1 : decode cX8_keeps 1 = .ok (.iload_n 1, 1) := by decide +kernel
theorem dX8_keeps_2 : decode cX8_keeps 2 = .ok (.invokevirtual 98, 3) := by decide +kernel
theorem dX8_keeps_5 : decode cX8_keeps 5 = .ok (.ifCond .ne 5, 3) := by decide +kernel
theorem dX8_keeps_8 : decode cX8_keeps 8 = .ok (.iconst (-1), 1) := by decide +kernel
theorem dX8_keeps_9 : decode cX8_keeps 9 = .ok (.ireturn, 1) := by decide +kernel
theorem dX8_keeps_10 : decode cX8_keeps 10 = .ok (.iconst 0, 1) := by decide +kernel
theorem dX8_keeps_11 : decode cX8_keeps 11 = .ok (.istore_n 2, 1) := by decide +kernel
theorem dX8_keeps_12 : decode cX8_keeps 12 = .ok (.iconst 0, 1) := by decide +kernel
theorem dX8_keeps_13 : decode cX8_keeps 13 = .ok (.istore_n 3, 1) := by decide +kernel
theorem dX8_keeps_14 : decode cX8_keeps 14 = .ok (.iload_n 3, 1) := by decide +kernel
theorem dX8_keeps_15 : decode cX8_keeps 15 = .ok (.aload_n 0, 1) := by decide +kernel
theorem dX8_keeps_16 : decode cX8_keeps 16 = .ok (.getfield 19, 3) := by decide +kernel
theorem dX8_keeps_19 : decode cX8_keeps 19 = .ok (.iconst 1, 1) := by decide +kernel
theorem dX8_keeps_20 : decode cX8_keeps 20 = .ok (.iaload, 1) := by decide +kernel
theorem dX8_keeps_21 : decode cX8_keeps 21 = .ok (.if_icmp .ge 29, 3) := by decide +kernel
theorem dX8_keeps_24 : decode cX8_keeps 24 = .ok (.iload_n 2, 1) := by decide +kernel
theorem dX8_keeps_25 : decode cX8_keeps 25 = .ok (.aload_n 0, 1) := by decide +kernel
theorem dX8_keeps_26 : decode cX8_keeps 26 = .ok (.iload_n 3, 1) := by decide +kernel
theorem dX8_keeps_27 : decode cX8_keeps 27 = .ok (.iconst 3, 1) := by decide +kernel
theorem dX8_keeps_28 : decode cX8_keeps 28 = .ok (.invokevirtual 96, 3) := by decide +kernel
theorem dX8_keeps_31 : decode cX8_keeps 31 = .ok (.iload_n 1, 1) := by decide +kernel
theorem dX8_keeps_32 : decode cX8_keeps 32 = .ok (.if_icmp .ne 9, 3) := by decide +kernel
theorem dX8_keeps_35 : decode cX8_keeps 35 = .ok (.iconst 1, 1) := by decide +kernel
theorem dX8_keeps_36 : decode cX8_keeps 36 = .ok (.iload_n 3, 1) := by decide +kernel
theorem dX8_keeps_37 : decode cX8_keeps 37 = .ok (.ishl, 1) := by decide +kernel
theorem dX8_keeps_38 : decode cX8_keeps 38 = .ok (.goto 4, 3) := by decide +kernel
theorem dX8_keeps_41 : decode cX8_keeps 41 = .ok (.iconst 0, 1) := by decide +kernel
theorem dX8_keeps_42 : decode cX8_keeps 42 = .ok (.ior, 1) := by decide +kernel
theorem dX8_keeps_43 : decode cX8_keeps 43 = .ok (.istore_n 2, 1) := by decide +kernel
theorem dX8_keeps_44 : decode cX8_keeps 44 = .ok (.iinc 3 1, 3) := by decide +kernel
theorem dX8_keeps_47 : decode cX8_keeps 47 = .ok (.goto (-33), 3) := by decide +kernel
theorem dX8_keeps_50 : decode cX8_keeps 50 = .ok (.iconst 0, 1) := by decide +kernel
theorem dX8_keeps_51 : decode cX8_keeps 51 = .ok (.istore_n 3, 1) := by decide +kernel
theorem dX8_keeps_52 : decode cX8_keeps 52 = .ok (.iconst 0, 1) := by decide +kernel
theorem dX8_keeps_53 : decode cX8_keeps 53 = .ok (.istore 4, 2) := by decide +kernel
theorem dX8_keeps_55 : decode cX8_keeps 55 = .ok (.iload 4, 2) := by decide +kernel
theorem dX8_keeps_57 : decode cX8_keeps 57 = .ok (.iload_n 2, 1) := by decide +kernel
theorem dX8_keeps_58 : decode cX8_keeps 58 = .ok (.if_icmp .gt 46, 3) := by decide +kernel
theorem dX8_keeps_61 : decode cX8_keeps 61 = .ok (.iload 4, 2) := by decide +kernel
theorem dX8_keeps_63 : decode cX8_keeps 63 = .ok (.iload_n 2, 1) := by decide +kernel
theorem dX8_keeps_64 : decode cX8_keeps 64 = .ok (.iconst (-1), 1) := by decide +kernel
theorem dX8_keeps_65 : decode cX8_keeps 65 = .ok (.ixor, 1) := by decide +kernel
theorem dX8_keeps_66 : decode cX8_keeps 66 = .ok (.iand, 1) := by decide +kernel
theorem dX8_keeps_67 : decode cX8_keeps 67 = .ok (.ifCond .ne 29, 3) := by decide +kernel
theorem dX8_keeps_70 : decode cX8_keeps 70 = .ok (.iload 4, 2) := by decide +kernel
theorem dX8_keeps_72 : decode cX8_keeps 72 = .ok (.invokestatic 171, 3) := by decide +kernel
theorem dX8_keeps_75 : decode cX8_keeps 75 = .ok (.iload_n 3, 1) := by decide +kernel
theorem dX8_keeps_76 : decode cX8_keeps 76 = .ok (.if_icmp .le 20, 3) := by decide +kernel
theorem dX8_keeps_79 : decode cX8_keeps 79 = .ok (.aload_n 0, 1) := by decide +kernel
theorem dX8_keeps_80 : decode cX8_keeps 80 = .ok (.iload 4, 2) := by decide +kernel
theorem dX8_keeps_82 : decode cX8_keeps 82 = .ok (.invokevirtual 174, 3) := by decide +kernel
theorem dX8_keeps_85 : decode cX8_keeps 85 = .ok (.ifCond .eq 11, 3) := by decide +kernel
theorem dX8_keeps_88 : decode cX8_keeps 88 = .ok (.iload 4, 2) := by decide +kernel
theorem dX8_keeps_90 : decode cX8_keeps 90 = .ok (.invokestatic 171, 3) := by decide +kernel
theorem dX8_keeps_93 : decode cX8_keeps 93 = .ok (.goto 4, 3) := by decide +kernel
theorem dX8_keeps_96 : decode cX8_keeps 96 = .ok (.iload_n 3, 1) := by decide +kernel
theorem dX8_keeps_97 : decode cX8_keeps 97 = .ok (.istore_n 3, 1) := by decide +kernel
theorem dX8_keeps_98 : decode cX8_keeps 98 = .ok (.iinc 4 1, 3) := by decide +kernel
theorem dX8_keeps_101 : decode cX8_keeps 101 = .ok (.goto (-46), 3) := by decide +kernel
theorem dX8_keeps_104 : decode cX8_keeps 104 = .ok (.iload_n 3, 1) := by decide +kernel
theorem dX8_keeps_105 : decode cX8_keeps 105 = .ok (.ireturn, 1) := by decide +kernel
set_option maxRecDepth 20000 in
theorem ggX8_lateFirst_X8_in : GoodIn wsX8_lateFirst wsX8_in := goodIn_r _ [5] (by decide +kernel) (by decide +kernel)
set_option maxRecDepth 20000 in
theorem gX8_lateFirst_X8_in : GoodIn wsX8_lateFirst (va_wsS RX8 42 yX8_in wsX8_in) := goodIn_app (goodIn_of _ (by decide +kernel)) ggX8_lateFirst_X8_in
set_option maxRecDepth 20000 in
theorem ggX8_lateFirst_X8_asides : GoodIn wsX8_lateFirst wsX8_asides := goodIn_r _ [9, 10, 11, 53, 54, 55, 56, 57, 58, 59, 60, 61, 62, 63, 64, 65, 66, 67, 68, 69, 70] (by decide +kernel) (by decide +kernel)
set_option maxRecDepth 20000 in
theorem gX8_lateFirst_X8_asides : GoodIn wsX8_lateFirst (wsV RX8 156 RX8 yX8_asides wsX8_asides) := goodIn_app (goodIn_of _ (by decide +kernel)) ggX8_lateFirst_X8_asides
set_option maxRecDepth 20000 in
theorem ggX8_lateFirst_X8_goesBy : GoodIn wsX8_lateFirst wsX8_goesBy := goodIn_r _ [15, 16, 11, 1, 17, 18, 19, 4, 20, 21, 22, 23, 24, 25, 26, 27, 28, 29, 30, 31, 32, 33, 34, 35, 36, 37, 38, 39, 40, 41, 42, 43, 44, 45, 46, 47, 48, 53, 54, 55, 56, 57, 58, 59, 60, 61, 62, 63, 64, 65, 66, 67, 68, 69, 70] (by decide +kernel) (by decide +kernel)
set_option maxRecDepth 20000 in
theorem gX8_lateFirst_X8_goesBy : GoodIn wsX8_lateFirst (wsV RX8 145 RX8 yX8_goesBy wsX8_goesBy) := goodIn_app (goodIn_of _ (by decide +kernel)) ggX8_lateFirst_X8_goesBy
set_option maxRecDepth 20000 in
theorem ggX8_lateFirst_X8_at : GoodIn wsX8_lateFirst wsX8_at := goodIn_r _ [24, 11, 53, 54, 55, 56, 57, 58, 59, 60, 61, 62, 63, 64, 65, 66, 67, 68, 69, 70] (by decide +kernel) (by decide +kernel)
set_option maxRecDepth 20000 in
theorem gX8_lateFirst_X8_at : GoodIn wsX8_lateFirst (wsV RX8 96 RX8 yX8_at wsX8_at) := goodIn_app (goodIn_of _ (by decide +kernel)) ggX8_lateFirst_X8_at
set_option maxRecDepth 20000 in
theorem ggX8_lateFirst_X8_backs : GoodIn wsX8_lateFirst wsX8_backs := goodIn_r _ [52, 11, 10, 53, 54, 55, 56, 57, 58, 59, 60, 61, 62, 63, 64, 65, 66, 67, 68, 69, 70] (by decide +kernel) (by decide +kernel)
set_option maxRecDepth 20000 in
theorem gX8_lateFirst_X8_backs : GoodIn wsX8_lateFirst (wsV RX8 159 RX8 yX8_backs wsX8_backs) := goodIn_app (goodIn_of _ (by decide +kernel)) ggX8_lateFirst_X8_backs
theorem dX8_lateFirst_0 : decode cX8_lateFirst 0 = .ok (.iload_n 1, 1) := by decide +kernel
theorem dX8_lateFirst_1 : decode cX8_lateFirst 1 = .ok (.i2l, 1) := by decide +kernel
theorem dX8_lateFirst_2 : decode cX8_lateFirst 2 = .ok (.lconst 0, 1) := by decide +kernel
theorem dX8_lateFirst_3 : decode cX8_lateFirst 3 = .ok (.lconst 1, 1) := by decide +kernel
theorem dX8_lateFirst_4 : decode cX8_lateFirst 4 = .ok (.invokestatic 42, 3) := by decide +kernel
theorem dX8_lateFirst_7 : decode cX8_lateFirst 7 = .ok (.ifCond .ne 5, 3) := by decide +kernel
theorem dX8_lateFirst_10 : decode cX8_lateFirst 10 = .ok (.iconst (-1), 1) := by decide +kernel
theorem dX8_lateFirst_11 : decode cX8_lateFirst 11 = .ok (.ireturn, 1) := by decide +kernel
theorem dX8_lateFirst_12 : decode cX8_lateFirst 12 = .ok (.aload_n 0, 1) := by decide +kernel
theorem dX8_lateFirst_13 : decode cX8_lateFirst 13 = .ok (.invokevirtual 156, 3) := by decide +kernel
theorem dX8_lateFirst_16 : decode cX8_lateFirst 16 = .ok (.iconst 0, 1) := by decide +kernel
theorem dX8_lateFirst_17 : decode cX8_lateFirst 17 = .ok (.istore_n 2, 1) := by decide +kernel
theorem dX8_lateFirst_18 : decode cX8_lateFirst 18 = .ok (.aload_n 0, 1) := by decide +kernel
theorem dX8_lateFirst_19 : decode cX8_lateFirst 19 = .ok (.bipush (-9), 2) := by decide +kernel
theorem dX8_lateFirst_21 : decode cX8_lateFirst 21 = .ok (.putfield 139, 3) := by decide +kernel
theorem dX8_lateFirst_24 : decode cX8_lateFirst 24 = .ok (.iload_n 2, 1) := by decide +kernel
theorem dX8_lateFirst_25 : decode cX8_lateFirst 25 = .ok (.sipush 200, 3) := by decide +kernel
theorem dX8_lateFirst_28 : decode cX8_lateFirst 28 = .ok (.if_icmp .ge 23, 3) := by decide +kernel
theorem dX8_lateFirst_31 : decode cX8_lateFirst 31 = .ok (.aload_n 0, 1) := by decide +kernel
theorem dX8_lateFirst_32 : decode cX8_lateFirst 32 = .ok (.getfield 139, 3) := by decide +kernel
theorem dX8_lateFirst_35 : decode cX8_lateFirst 35 = .ok (.bipush (-9), 2) := by decide +kernel
theorem dX8_lateFirst_37 : decode cX8_lateFirst 37 = .ok (.if_icmp .ne 14, 3) := by decide +kernel
theorem dX8_lateFirst_40 : decode cX8_lateFirst 40 = .ok (.aload_n 0, 1) := by decide +kernel
theorem dX8_lateFirst_41 : decode cX8_lateFirst 41 = .ok (.invokevirtual 145, 3) := by decide +kernel
theorem dX8_lateFirst_44 : decode cX8_lateFirst 44 = .ok (.pop, 1) := by decide +kernel
theorem dX8_lateFirst_45 : decode cX8_lateFirst 45 = .ok (.iinc 2 1, 3) := by decide +kernel
theorem dX8_lateFirst_48 : decode cX8_lateFirst 48 = .ok (.goto (-24), 3) := by decide +kernel
theorem dX8_lateFirst_51 : decode cX8_lateFirst 51 = .ok (.aload_n 0, 1) := by decide +kernel
theorem dX8_lateFirst_52 : decode cX8_lateFirst 52 = .ok (.getfield 139, 3) := by decide +kernel
theorem dX8_lateFirst_55 : decode cX8_lateFirst 55 = .ok (.bipush (-9), 2) := by decide +kernel
theorem dX8_lateFirst_57 : decode cX8_lateFirst 57 = .ok (.if_icmp .ne 8, 3) := by decide +kernel
theorem dX8_lateFirst_60 : decode cX8_lateFirst 60 = .ok (.bipush (-9), 2) := by decide +kernel
theorem dX8_lateFirst_62 : decode cX8_lateFirst 62 = .ok (.goto 20, 3) := by decide +kernel
theorem dX8_lateFirst_65 : decode cX8_lateFirst 65 = .ok (.iload_n 1, 1) := by decide +kernel
theorem dX8_lateFirst_66 : decode cX8_lateFirst 66 = .ok (.ifCond .ne 7, 3) := by decide +kernel
theorem dX8_lateFirst_69 : decode cX8_lateFirst 69 = .ok (.iload_n 2, 1) := by decide +kernel
theorem dX8_lateFirst_70 : decode cX8_lateFirst 70 = .ok (.goto 12, 3) := by decide +kernel
theorem dX8_lateFirst_73 : decode cX8_lateFirst 73 = .ok (.aload_n 0, 1) := by decide +kernel
theorem dX8_lateFirst_74 : decode cX8_lateFirst 74 = .ok (.aload_n 0, 1) := by decide +kernel
theorem dX8_lateFirst_75 : decode cX8_lateFirst 75 = .ok (.getfield 139, 3) := by decide +kernel
theorem dX8_lateFirst_78 : decode cX8_lateFirst 78 = .ok (.iconst 3, 1) := by decide +kernel
theorem dX8_lateFirst_79 : decode cX8_lateFirst 79 = .ok (.invokevirtual 96, 3) := by decide +kernel
theorem dX8_lateFirst_82 : decode cX8_lateFirst 82 = .ok (.istore_n 3, 1) := by decide +kernel
theorem dX8_lateFirst_83 : decode cX8_lateFirst 83 = .ok (.aload_n 0, 1) := by decide +kernel
theorem dX8_lateFirst_84 : decode cX8_lateFirst 84 = .ok (.invokevirtual 159, 3) := by decide +kernel
theorem dX8_lateFirst_87 : decode cX8_lateFirst 87 = .ok (.iload_n 3, 1) := by decide +kernel
theorem dX8_lateFirst_88 : decode cX8_lateFirst 88 = .ok (.ireturn, 1) := by decide +kernel
set_option maxRecDepth 20000 in
theorem ggX8_peace_X8_isQuarrel : GoodIn wsX8_peace wsX8_isQuarrel := goodIn_r _ [7, 8, 9, 10, 6, 11, 68, 69, 70, 71, 72, 73, 74, 75, 76, 77, 78, 79, 80, 81, 82, 83, 84, 85] (by decide +kernel) (by decide +kernel)
set_option maxRecDepth 20000 in
theorem gX8_peace_X8_isQuarrel : GoodIn wsX8_peace (wsV RX8 107 RX8 yX8_isQuarrel wsX8_isQuarrel) := goodIn_app (goodIn_of _ (by decide +kernel)) ggX8_peace_X8_isQuarrel
set_option maxRecDepth 20000 in
theorem ggX8_peace_X8_asides : GoodIn wsX8_peace wsX8_asides := goodIn_r _ [15, 2, 8, 68, 69, 70, 71, 72, 73, 74, 75, 76, 77, 78, 79, 80, 81, 82, 83, 84, 85] (by decide +kernel) (by decide +kernel)
set_option maxRecDepth 20000 in
theorem gX8_peace_X8_asides : GoodIn wsX8_peace (wsV RX8 156 RX8 yX8_asides wsX8_asides) := goodIn_app (goodIn_of _ (by decide +kernel)) ggX8_peace_X8_asides
set_option maxRecDepth 20000 in
theorem ggX8_peace_X8_many : GoodIn wsX8_peace wsX8_many := goodIn_r _ [18] (by decide +kernel) (by decide +kernel)
set_option maxRecDepth 20000 in
theorem gX8_peace_X8_many : GoodIn wsX8_peace (va_wsS RX8 171 yX8_many wsX8_many) := goodIn_app (goodIn_of _ (by decide +kernel)) ggX8_peace_X8_many
set_option maxRecDepth 20000 in
theorem ggX8_peace_X8_laysDown : GoodIn wsX8_peace wsX8_laysDown := goodIn_r _ [22, 8, 23, 24, 25, 6, 26, 27, 28, 29, 30, 31, 32, 33, 34, 1, 35, 36, 37, 38, 39, 40, 41, 42, 68, 69, 70, 71, 72, 73, 74, 75, 76, 77, 78, 79, 80, 81, 82, 83, 84, 85] (by decide +kernel) (by decide +kernel)
set_option maxRecDepth 20000 in
theorem gX8_peace_X8_laysDown : GoodIn wsX8_peace (wsV RX8 149 RX8 yX8_laysDown wsX8_laysDown) := goodIn_app (goodIn_of _ (by decide +kernel)) ggX8_peace_X8_laysDown
set_option maxRecDepth 20000 in
theorem ggX8_peace_X8_closes : GoodIn wsX8_peace wsX8_closes := goodIn_r _ [46, 23, 24, 25, 6, 26, 8, 47, 48, 49, 50, 1, 51, 52, 53, 54, 55, 56, 57, 58, 59, 60, 61, 62, 63, 27, 28, 29, 30, 31, 32, 33, 34, 35, 36, 37, 38, 39, 40, 41, 42, 68, 69, 70, 71, 72, 73, 74, 75, 76, 77, 78, 79, 80, 81, 82, 83, 84, 85] (by decide +kernel) (by decide +kernel)
set_option maxRecDepth 20000 in
theorem gX8_peace_X8_closes : GoodIn wsX8_peace (wsV RX8 162 RX8 yX8_closes wsX8_closes) := goodIn_app (goodIn_of _ (by decide +kernel)) ggX8_peace_X8_closes
set_option maxRecDepth 20000 in
theorem ggX8_peace_X8_backs : GoodIn wsX8_peace wsX8_backs := goodIn_r _ [67, 8, 2, 68, 69, 70, 71, 72, 73, 74, 75, 76, 77, 78, 79, 80, 81, 82, 83, 84, 85] (by decide +kernel) (by decide +kernel)
set_option maxRecDepth 20000 in
theorem gX8_peace_X8_backs : GoodIn wsX8_peace (wsV RX8 159 RX8 yX8_backs wsX8_backs) := goodIn_app (goodIn_of _ (by decide +kernel)) ggX8_peace_X8_backs
theorem dX8_peace_0 : decode cX8_peace 0 = .ok (.aload_n 0, 1) := by decide +kernel
theorem dX8_peace_1 : decode cX8_peace 1 = .ok (.iload_n 1, 1) := by decide +kernel
theorem dX8_peace_2 : decode cX8_peace 2 = .ok (.invokevirtual 107, 3) := by decide +kernel
theorem dX8_peace_5 : decode cX8_peace 5 = .ok (.ifCond .ne 5, 3) := by decide +kernel
theorem dX8_peace_8 : decode cX8_peace 8 = .ok (.iconst (-1), 1) := by decide +kernel
theorem dX8_peace_9 : decode cX8_peace 9 = .ok (.ireturn, 1) := by decide +kernel
theorem dX8_peace_10 : decode cX8_peace 10 = .ok (.aload_n 0, 1) := by decide +kernel
theorem dX8_peace_11 : decode cX8_peace 11 = .ok (.invokevirtual 156, 3) := by decide +kernel
theorem dX8_peace_14 : decode cX8_peace 14 = .ok (.bipush (-9), 2) := by decide +kernel
theorem dX8_peace_16 : decode cX8_peace 16 = .ok (.istore_n 2, 1) := by decide +kernel
theorem dX8_peace_17 : decode cX8_peace 17 = .ok (.iconst 0, 1) := by decide +kernel
theorem dX8_peace_18 : decode cX8_peace 18 = .ok (.istore_n 3, 1) := by decide +kernel
theorem dX8_peace_19 : decode cX8_peace 19 = .ok (.iload_n 3, 1) := by decide +kernel
theorem dX8_peace_20 : decode cX8_peace 20 = .ok (.iconst 1, 1) := by decide +kernel
theorem dX8_peace_21 : decode cX8_peace 21 = .ok (.aload_n 0, 1) := by decide +kernel
theorem dX8_peace_22 : decode cX8_peace 22 = .ok (.getfield 16, 3) := by decide +kernel
theorem dX8_peace_25 : decode cX8_peace 25 = .ok (.iconst 0, 1) := by decide +kernel
theorem dX8_peace_26 : decode cX8_peace 26 = .ok (.iaload, 1) := by decide +kernel
theorem dX8_peace_27 : decode cX8_peace 27 = .ok (.ishl, 1) := by decide +kernel
theorem dX8_peace_28 : decode cX8_peace 28 = .ok (.if_icmp .ge 94, 3) := by decide +kernel
theorem dX8_peace_31 : decode cX8_peace 31 = .ok (.iload_n 3, 1) := by decide +kernel
theorem dX8_peace_32 : decode cX8_peace 32 = .ok (.aload_n 0, 1) := by decide +kernel
theorem dX8_peace_33 : decode cX8_peace 33 = .ok (.getfield 25, 3) := by decide +kernel
theorem dX8_peace_36 : decode cX8_peace 36 = .ok (.iconst 2, 1) := by decide +kernel
theorem dX8_peace_37 : decode cX8_peace 37 = .ok (.iaload, 1) := by decide +kernel
theorem dX8_peace_38 : decode cX8_peace 38 = .ok (.iand, 1) := by decide +kernel
theorem dX8_peace_39 : decode cX8_peace 39 = .ok (.ifCond .ne 77, 3) := by decide +kernel
theorem dX8_peace_42 : decode cX8_peace 42 = .ok (.iload_n 2, 1) := by decide +kernel
theorem dX8_peace_43 : decode cX8_peace 43 = .ok (.bipush (-9), 2) := by decide +kernel
theorem dX8_peace_45 : decode cX8_peace 45 = .ok (.if_icmp .eq 14, 3) := by decide +kernel
theorem dX8_peace_48 : decode cX8_peace 48 = .ok (.iload_n 3, 1) := by decide +kernel
theorem dX8_peace_49 : decode cX8_peace 49 = .ok (.invokestatic 171, 3) := by decide +kernel
theorem dX8_peace_52 : decode cX8_peace 52 = .ok (.iload_n 2, 1) := by decide +kernel
theorem dX8_peace_53 : decode cX8_peace 53 = .ok (.invokestatic 171, 3) := by decide +kernel
theorem dX8_peace_56 : decode cX8_peace 56 = .ok (.if_icmp .ge 60, 3) := by decide +kernel
theorem dX8_peace_59 : decode cX8_peace 59 = .ok (.iconst 0, 1) := by decide +kernel
theorem dX8_peace_60 : decode cX8_peace 60 = .ok (.istore 4, 2) := by decide +kernel
theorem dX8_peace_62 : decode cX8_peace 62 = .ok (.iload 4, 2) := by decide +kernel
theorem dX8_peace_64 : decode cX8_peace 64 = .ok (.aload_n 0, 1) := by decide +kernel
theorem dX8_peace_65 : decode cX8_peace 65 = .ok (.getfield 16, 3) := by decide +kernel
theorem dX8_peace_68 : decode cX8_peace 68 = .ok (.iconst 0, 1) := by decide +kernel
theorem dX8_peace_69 : decode cX8_peace 69 = .ok (.iaload, 1) := by decide +kernel
theorem dX8_peace_70 : decode cX8_peace 70 = .ok (.if_icmp .ge 26, 3) := by decide +kernel
theorem dX8_peace_73 : decode cX8_peace 73 = .ok (.iload_n 3, 1) := by decide +kernel
theorem dX8_peace_74 : decode cX8_peace 74 = .ok (.iload 4, 2) := by decide +kernel
theorem dX8_peace_76 : decode cX8_peace 76 = .ok (.ishr, 1) := by decide +kernel
theorem dX8_peace_77 : decode cX8_peace 77 = .ok (.iconst 1, 1) := by decide +kernel
theorem dX8_peace_78 : decode cX8_peace 78 = .ok (.iand, 1) := by decide +kernel
theorem dX8_peace_79 : decode cX8_peace 79 = .ok (.iconst 1, 1) := by decide +kernel
theorem dX8_peace_80 : decode cX8_peace 80 = .ok (.if_icmp .ne 10, 3) := by decide +kernel
theorem dX8_peace_83 : decode cX8_peace 83 = .ok (.aload_n 0, 1) := by decide +kernel
theorem dX8_peace_84 : decode cX8_peace 84 = .ok (.iload 4, 2) := by decide +kernel
theorem dX8_peace_86 : decode cX8_peace 86 = .ok (.invokevirtual 149, 3) := by decide +kernel
theorem dX8_peace_89 : decode cX8_peace 89 = .ok (.pop, 1) := by decide +kernel
theorem dX8_peace_90 : decode cX8_peace 90 = .ok (.iinc 4 1, 3) := by decide +kernel
theorem dX8_peace_93 : decode cX8_peace 93 = .ok (.goto (-31), 3) := by decide +kernel
theorem dX8_peace_96 : decode cX8_peace 96 = .ok (.aload_n 0, 1) := by decide +kernel
theorem dX8_peace_97 : decode cX8_peace 97 = .ok (.iload_n 1, 1) := by decide +kernel
theorem dX8_peace_98 : decode cX8_peace 98 = .ok (.invokevirtual 162, 3) := by decide +kernel
theorem dX8_peace_101 : decode cX8_peace 101 = .ok (.bipush (-9), 2) := by decide +kernel
theorem dX8_peace_103 : decode cX8_peace 103 = .ok (.if_icmp .ne 7, 3) := by decide +kernel
theorem dX8_peace_106 : decode cX8_peace 106 = .ok (.iload_n 2, 1) := by decide +kernel
theorem dX8_peace_107 : decode cX8_peace 107 = .ok (.goto 4, 3) := by decide +kernel
theorem dX8_peace_110 : decode cX8_peace 110 = .ok (.iload_n 3, 1) := by decide +kernel
theorem dX8_peace_111 : decode cX8_peace 111 = .ok (.istore_n 2, 1) := by decide +kernel
theorem dX8_peace_112 : decode cX8_peace 112 = .ok (.aload_n 0, 1) := by decide +kernel
theorem dX8_peace_113 : decode cX8_peace 113 = .ok (.invokevirtual 159, 3) := by decide +kernel
theorem dX8_peace_116 : decode cX8_peace 116 = .ok (.iinc 3 1, 3) := by decide +kernel
theorem dX8_peace_119 : decode cX8_peace 119 = .ok (.goto (-100), 3) := by decide +kernel
theorem dX8_peace_122 : decode cX8_peace 122 = .ok (.iload_n 2, 1) := by decide +kernel
theorem dX8_peace_123 : decode cX8_peace 123 = .ok (.ireturn, 1) := by decide +kernel
set_option maxRecDepth 20000 in
theorem ggX8_found_X8_isWriter : GoodIn wsX8_found wsX8_isWriter := goodIn_r _ [7, 8, 9, 10, 6, 11, 16, 17, 18, 19, 20, 21, 22, 23, 24, 25, 26, 27, 28, 29, 30, 31, 32, 33] (by decide +kernel) (by decide +kernel)
set_option maxRecDepth 20000 in
theorem gX8_found_X8_isWriter : GoodIn wsX8_found (wsV RX8 98 RX8 yX8_isWriter wsX8_isWriter) := goodIn_app (goodIn_of _ (by decide +kernel)) ggX8_found_X8_isWriter
set_option maxRecDepth 20000 in
theorem ggX8_found_X8_isSubject : GoodIn wsX8_found wsX8_isSubject := goodIn_r _ [14, 15, 9, 10, 6, 11] (by decide +kernel) (by decide +kernel)
set_option maxRecDepth 20000 in
theorem gX8_found_X8_isSubject : GoodIn wsX8_found (va_wsS RX8 112 yX8_isSubject wsX8_isSubject) := goodIn_app (goodIn_of _ (by decide +kernel)) ggX8_found_X8_isSubject
theorem dX8_found_0 : decode cX8_found 0 = .ok (.aload_n 0, 1) := by decide +kernel
theorem dX8_found_1 : decode cX8_found 1 = .ok (.iload_n 1, 1) := by decide +kernel
theorem dX8_found_2 : decode cX8_found 2 = .ok (.invokevirtual 98, 3) := by decide +kernel
theorem dX8_found_5 : decode cX8_found 5 = .ok (.ifCond .eq 23, 3) := by decide +kernel
theorem dX8_found_8 : decode cX8_found 8 = .ok (.iload_n 2, 1) := by decide +kernel
theorem dX8_found_9 : decode cX8_found 9 = .ok (.invokestatic 112, 3) := by decide +kernel
theorem dX8_found_12 : decode cX8_found 12 = .ok (.ifCond .eq 16, 3) := by decide +kernel
theorem dX8_found_15 : decode cX8_found 15 = .ok (.iload_n 3, 1) := by decide +kernel
theorem dX8_found_16 : decode cX8_found 16 = .ok (.iconst (-1), 1) := by decide +kernel
theorem dX8_found_17 : decode cX8_found 17 = .ok (.if_icmp .eq 13, 3) := by decide +kernel
theorem dX8_found_20 : decode cX8_found 20 = .ok (.aload_n 0, 1) := by decide +kernel
theorem dX8_found_21 : decode cX8_found 21 = .ok (.iload_n 3, 1) := by decide +kernel
theorem dX8_found_22 : decode cX8_found 22 = .ok (.invokevirtual 98, 3) := by decide +kernel
theorem dX8_found_25 : decode cX8_found 25 = .ok (.ifCond .ne 5, 3) := by decide +kernel
theorem dX8_found_28 : decode cX8_found 28 = .ok (.iconst (-1), 1) := by decide +kernel
theorem dX8_found_29 : decode cX8_found 29 = .ok (.ireturn, 1) := by decide +kernel
theorem dX8_found_30 : decode cX8_found 30 = .ok (.aload_n 0, 1) := by decide +kernel
theorem dX8_found_31 : decode cX8_found 31 = .ok (.getfield 84, 3) := by decide +kernel
theorem dX8_found_34 : decode cX8_found 34 = .ok (.iconst 5, 1) := by decide +kernel
theorem dX8_found_35 : decode cX8_found 35 = .ok (.if_icmp .ne 6, 3) := by decide +kernel
theorem dX8_found_38 : decode cX8_found 38 = .ok (.bipush (-3), 2) := by decide +kernel
theorem dX8_found_40 : decode cX8_found 40 = .ok (.ireturn, 1) := by decide +kernel
theorem dX8_found_41 : decode cX8_found 41 = .ok (.aload_n 0, 1) := by decide +kernel
theorem dX8_found_42 : decode cX8_found 42 = .ok (.getfield 28, 3) := by decide +kernel
theorem dX8_found_45 : decode cX8_found 45 = .ok (.iconst 3, 1) := by decide +kernel
theorem dX8_found_46 : decode cX8_found 46 = .ok (.aload_n 0, 1) := by decide +kernel
theorem dX8_found_47 : decode cX8_found 47 = .ok (.getfield 84, 3) := by decide +kernel
theorem dX8_found_50 : decode cX8_found 50 = .ok (.imul, 1) := by decide +kernel
theorem dX8_found_51 : decode cX8_found 51 = .ok (.iload_n 1, 1) := by decide +kernel
theorem dX8_found_52 : decode cX8_found 52 = .ok (.iastore, 1) := by decide +kernel
theorem dX8_found_53 : decode cX8_found 53 = .ok (.aload_n 0, 1) := by decide +kernel
theorem dX8_found_54 : decode cX8_found 54 = .ok (.getfield 28, 3) := by decide +kernel
theorem dX8_found_57 : decode cX8_found 57 = .ok (.iconst 3, 1) := by decide +kernel
theorem dX8_found_58 : decode cX8_found 58 = .ok (.aload_n 0, 1) := by decide +kernel
theorem dX8_found_59 : decode cX8_found 59 = .ok (.getfield 84, 3) := by decide +kernel
theorem dX8_found_62 : decode cX8_found 62 = .ok (.imul, 1) := by decide +kernel
theorem dX8_found_63 : decode cX8_found 63 = .ok (.iconst 1, 1) := by decide +kernel
theorem dX8_found_64 : decode cX8_found 64 = .ok (.iadd, 1) := by decide +kernel
theorem dX8_found_65 : decode cX8_found 65 = .ok (.iload_n 2, 1) := by decide +kernel
theorem dX8_found_66 : decode cX8_found 66 = .ok (.iastore, 1) := by decide +kernel
theorem dX8_found_67 : decode cX8_found 67 = .ok (.aload_n 0, 1) := by decide +kernel
theorem dX8_found_68 : decode cX8_found 68 = .ok (.getfield 28, 3) := by decide +kernel
theorem dX8_found_71 : decode cX8_found 71 = .ok (.iconst 3, 1) := by decide +kernel
theorem dX8_found_72 : decode cX8_found 72 = .ok (.aload_n 0, 1) := by decide +kernel
theorem dX8_found_73 : decode cX8_found 73 = .ok (.getfield 84, 3) := by decide +kernel
theorem dX8_found_76 : decode cX8_found 76 = .ok (.imul, 1) := by decide +kernel
theorem dX8_found_77 : decode cX8_found 77 = .ok (.iconst 2, 1) := by decide +kernel
theorem dX8_found_78 : decode cX8_found 78 = .ok (.iadd, 1) := by decide +kernel
theorem dX8_found_79 : decode cX8_found 79 = .ok (.iload_n 3, 1) := by decide +kernel
theorem dX8_found_80 : decode cX8_found 80 = .ok (.iconst (-1), 1) := by decide +kernel
theorem dX8_found_81 : decode cX8_found 81 = .ok (.if_icmp .ne 8, 3) := by decide +kernel
theorem dX8_found_84 : decode cX8_found 84 = .ok (.bipush (-9), 2) := by decide +kernel
theorem dX8_found_86 : decode cX8_found 86 = .ok (.goto 4, 3) := by decide +kernel
theorem dX8_found_89 : decode cX8_found 89 = .ok (.iload_n 3, 1) := by decide +kernel
theorem dX8_found_90 : decode cX8_found 90 = .ok (.iastore, 1) := by decide +kernel
theorem dX8_found_91 : decode cX8_found 91 = .ok (.aload_n 0, 1) := by decide +kernel
theorem dX8_found_92 : decode cX8_found 92 = .ok (.dup, 1) := by decide +kernel
theorem dX8_found_93 : decode cX8_found 93 = .ok (.getfield 84, 3) := by decide +kernel
theorem dX8_found_96 : decode cX8_found 96 = .ok (.iconst 1, 1) := by decide +kernel
theorem dX8_found_97 : decode cX8_found 97 = .ok (.iadd, 1) := by decide +kernel
theorem dX8_found_98 : decode cX8_found 98 = .ok (.putfield 84, 3) := by decide +kernel
theorem dX8_found_101 : decode cX8_found 101 = .ok (.aload_n 0, 1) := by decide +kernel
theorem dX8_found_102 : decode cX8_found 102 = .ok (.getfield 84, 3) := by decide +kernel
theorem dX8_found_105 : decode cX8_found 105 = .ok (.ireturn, 1) := by decide +kernel
theorem dX8_forget_0 : decode cX8_forget 0 = .ok (.aload_n 0, 1) := by decide +kernel
theorem dX8_forget_1 : decode cX8_forget 1 = .ok (.getfield 84, 3) := by decide +kernel
theorem dX8_forget_4 : decode cX8_forget 4 = .ok (.istore_n 1, 1) := by decide +kernel
theorem dX8_forget_5 : decode cX8_forget 5 = .ok (.aload_n 0, 1) := by decide +kernel
theorem dX8_forget_6 : decode cX8_forget 6 = .ok (.iconst 0, 1) := by decide +kernel
theorem dX8_forget_7 : decode cX8_forget 7 = .ok (.putfield 84, 3) := by decide +kernel
theorem dX8_forget_10 : decode cX8_forget 10 = .ok (.iload_n 1, 1) := by decide +kernel
theorem dX8_forget_11 : decode cX8_forget 11 = .ok (.ireturn, 1) := by decide +kernel
set_option maxRecDepth 20000 in
theorem ggX8_mayBe_X8_isWriter : GoodIn wsX8_mayBe wsX8_isWriter := goodIn_r _ [8, 1, 9, 10, 7, 11, 24, 25, 26, 27, 28, 29, 30, 31, 32, 33, 34, 35, 36, 37, 38, 39, 40, 41] (by decide +kernel) (by decide +kernel)
set_option maxRecDepth 20000 in
theorem gX8_mayBe_X8_isWriter : GoodIn wsX8_mayBe (wsV RX8 98 RX8 yX8_isWriter wsX8_isWriter) := goodIn_app (goodIn_of _ (by decide +kernel)) ggX8_mayBe_X8_isWriter
set_option maxRecDepth 20000 in
theorem ggX8_mayBe_X8_isSubject : GoodIn wsX8_mayBe wsX8_isSubject := goodIn_r _ [14, 15, 9, 10, 7, 11] (by decide +kernel) (by decide +kernel)
set_option maxRecDepth 20000 in
theorem gX8_mayBe_X8_isSubject : GoodIn wsX8_mayBe (va_wsS RX8 112 yX8_isSubject wsX8_isSubject) := goodIn_app (goodIn_of _ (by decide +kernel)) ggX8_mayBe_X8_isSubject
set_option maxRecDepth 20000 in
theorem ggX8_mayBe_X8_meantOf : GoodIn wsX8_mayBe wsX8_meantOf := goodIn_r _ [19, 1, 20, 21, 22, 7, 23, 24, 25, 26, 27, 28, 29, 30, 31, 32, 33, 34, 35, 36, 37, 38, 39, 40, 41] (by decide +kernel) (by decide +kernel)
set_option maxRecDepth 20000 in
theorem gX8_mayBe_X8_meantOf : GoodIn wsX8_mayBe (wsV RX8 115 RX8 yX8_meantOf wsX8_meantOf) := goodIn_app (goodIn_of _ (by decide +kernel)) ggX8_mayBe_X8_meantOf
theorem dX8_mayBe_0 : decode cX8_mayBe 0 = .ok (.aload_n 0, 1) := by decide +kernel
theorem dX8_mayBe_1 : decode cX8_mayBe 1 = .ok (.iload_n 1, 1) := by decide +kernel
theorem dX8_mayBe_2 : decode cX8_mayBe 2 = .ok (.invokevirtual 98, 3) := by decide +kernel
theorem dX8_mayBe_5 : decode cX8_mayBe 5 = .ok (.ifCond .eq 10, 3) := by decide +kernel
theorem dX8_mayBe_8 : decode cX8_mayBe 8 = .ok (.iload_n 2, 1) := by decide +kernel
theorem dX8_mayBe_9 : decode cX8_mayBe 9 = .ok (.invokestatic 112, 3) := by decide +kernel
theorem dX8_mayBe_12 : decode cX8_mayBe 12 = .ok (.ifCond .ne 5, 3) := by decide +kernel
theorem dX8_mayBe_15 : decode cX8_mayBe 15 = .ok (.iconst (-1), 1) := by decide +kernel
theorem dX8_mayBe_16 : decode cX8_mayBe 16 = .ok (.ireturn, 1) := by decide +kernel
theorem dX8_mayBe_17 : decode cX8_mayBe 17 = .ok (.iconst 3, 1) := by decide +kernel
theorem dX8_mayBe_18 : decode cX8_mayBe 18 = .ok (.bipush 7, 2) := by decide +kernel
theorem dX8_mayBe_20 : decode cX8_mayBe 20 = .ok (.iload_n 1, 1) := by decide +kernel
theorem dX8_mayBe_21 : decode cX8_mayBe 21 = .ok (.imul, 1) := by decide +kernel
theorem dX8_mayBe_22 : decode cX8_mayBe 22 = .ok (.iadd, 1) := by decide +kernel
theorem dX8_mayBe_23 : decode cX8_mayBe 23 = .ok (.iconst 2, 1) := by decide +kernel
theorem dX8_mayBe_24 : decode cX8_mayBe 24 = .ok (.iadd, 1) := by decide +kernel
theorem dX8_mayBe_25 : decode cX8_mayBe 25 = .ok (.iload_n 2, 1) := by decide +kernel
theorem dX8_mayBe_26 : decode cX8_mayBe 26 = .ok (.iadd, 1) := by decide +kernel
theorem dX8_mayBe_27 : decode cX8_mayBe 27 = .ok (.istore_n 3, 1) := by decide +kernel
theorem dX8_mayBe_28 : decode cX8_mayBe 28 = .ok (.aload_n 0, 1) := by decide +kernel
theorem dX8_mayBe_29 : decode cX8_mayBe 29 = .ok (.getfield 16, 3) := by decide +kernel
theorem dX8_mayBe_32 : decode cX8_mayBe 32 = .ok (.iload_n 3, 1) := by decide +kernel
theorem dX8_mayBe_33 : decode cX8_mayBe 33 = .ok (.iaload, 1) := by decide +kernel
theorem dX8_mayBe_34 : decode cX8_mayBe 34 = .ok (.istore 4, 2) := by decide +kernel
theorem dX8_mayBe_36 : decode cX8_mayBe 36 = .ok (.iconst 0, 1) := by decide +kernel
theorem dX8_mayBe_37 : decode cX8_mayBe 37 = .ok (.istore 5, 2) := by decide +kernel
theorem dX8_mayBe_39 : decode cX8_mayBe 39 = .ok (.iconst 0, 1) := by decide +kernel
theorem dX8_mayBe_40 : decode cX8_mayBe 40 = .ok (.istore 6, 2) := by decide +kernel
theorem dX8_mayBe_42 : decode cX8_mayBe 42 = .ok (.iload 6, 2) := by decide +kernel
theorem dX8_mayBe_44 : decode cX8_mayBe 44 = .ok (.bipush 10, 2) := by decide +kernel
theorem dX8_mayBe_46 : decode cX8_mayBe 46 = .ok (.if_icmp .ge 107, 3) := by decide +kernel
theorem dX8_mayBe_49 : decode cX8_mayBe 49 = .ok (.aload_n 0, 1) := by decide +kernel
theorem dX8_mayBe_50 : decode cX8_mayBe 50 = .ok (.getfield 16, 3) := by decide +kernel
theorem dX8_mayBe_53 : decode cX8_mayBe 53 = .ok (.iload_n 3, 1) := by decide +kernel
theorem dX8_mayBe_54 : decode cX8_mayBe 54 = .ok (.iload 6, 2) := by decide +kernel
theorem dX8_mayBe_56 : decode cX8_mayBe 56 = .ok (.iastore, 1) := by decide +kernel
theorem dX8_mayBe_57 : decode cX8_mayBe 57 = .ok (.iconst 1, 1) := by decide +kernel
theorem dX8_mayBe_58 : decode cX8_mayBe 58 = .ok (.istore 7, 2) := by decide +kernel
theorem dX8_mayBe_60 : decode cX8_mayBe 60 = .ok (.iconst 0, 1) := by decide +kernel
theorem dX8_mayBe_61 : decode cX8_mayBe 61 = .ok (.istore 8, 2) := by decide +kernel
theorem dX8_mayBe_63 : decode cX8_mayBe 63 = .ok (.iload 8, 2) := by decide +kernel
theorem dX8_mayBe_65 : decode cX8_mayBe 65 = .ok (.aload_n 0, 1) := by decide +kernel
theorem dX8_mayBe_66 : decode cX8_mayBe 66 = .ok (.getfield 84, 3) := by decide +kernel
theorem dX8_mayBe_69 : decode cX8_mayBe 69 = .ok (.if_icmp .ge 60, 3) := by decide +kernel
theorem dX8_mayBe_72 : decode cX8_mayBe 72 = .ok (.iload 7, 2) := by decide +kernel
theorem dX8_mayBe_74 : decode cX8_mayBe 74 = .ok (.ifCond .eq 46, 3) := by decide +kernel
theorem dX8_mayBe_77 : decode cX8_mayBe 77 = .ok (.aload_n 0, 1) := by decide +kernel
theorem dX8_mayBe_78 : decode cX8_mayBe 78 = .ok (.aload_n 0, 1) := by decide +kernel
theorem dX8_mayBe_79 : decode cX8_mayBe 79 = .ok (.getfield 28, 3) := by decide +kernel
theorem dX8_mayBe_82 : decode cX8_mayBe 82 = .ok (.iconst 3, 1) := by decide +kernel
theorem dX8_mayBe_83 : decode cX8_mayBe 83 = .ok (.iload 8, 2) := by decide +kernel
theorem dX8_mayBe_85 : decode cX8_mayBe 85 = .ok (.imul, 1) := by decide +kernel
theorem dX8_mayBe_86 : decode cX8_mayBe 86 = .ok (.iaload, 1) := by decide +kernel
theorem dX8_mayBe_87 : decode cX8_mayBe 87 = .ok (.aload_n 0, 1) := by decide +kernel
theorem dX8_mayBe_88 : decode cX8_mayBe 88 = .ok (.getfield 28, 3) := by decide +kernel
theorem dX8_mayBe_91 : decode cX8_mayBe 91 = .ok (.iconst 3, 1) := by decide +kernel
theorem dX8_mayBe_92 : decode cX8_mayBe 92 = .ok (.iload 8, 2) := by decide +kernel
theorem dX8_mayBe_94 : decode cX8_mayBe 94 = .ok (.imul, 1) := by decide +kernel
theorem dX8_mayBe_95 : decode cX8_mayBe 95 = .ok (.iconst 1, 1) := by decide +kernel
theorem dX8_mayBe_96 : decode cX8_mayBe 96 = .ok (.iadd, 1) := by decide +kernel
theorem dX8_mayBe_97 : decode cX8_mayBe 97 = .ok (.iaload, 1) := by decide +kernel
theorem dX8_mayBe_98 : decode cX8_mayBe 98 = .ok (.iconst 0, 1) := by decide +kernel
theorem dX8_mayBe_99 : decode cX8_mayBe 99 = .ok (.invokevirtual 115, 3) := by decide +kernel
theorem dX8_mayBe_102 : decode cX8_mayBe 102 = .ok (.aload_n 0, 1) := by decide +kernel
theorem dX8_mayBe_103 : decode cX8_mayBe 103 = .ok (.getfield 28, 3) := by decide +kernel
theorem dX8_mayBe_106 : decode cX8_mayBe 106 = .ok (.iconst 3, 1) := by decide +kernel
theorem dX8_mayBe_107 : decode cX8_mayBe 107 = .ok (.iload 8, 2) := by decide +kernel
theorem dX8_mayBe_109 : decode cX8_mayBe 109 = .ok (.imul, 1) := by decide +kernel
theorem dX8_mayBe_110 : decode cX8_mayBe 110 = .ok (.iconst 2, 1) := by decide +kernel
theorem dX8_mayBe_111 : decode cX8_mayBe 111 = .ok (.iadd, 1) := by decide +kernel
theorem dX8_mayBe_112 : decode cX8_mayBe 112 = .ok (.iaload, 1) := by decide +kernel
theorem dX8_mayBe_113 : decode cX8_mayBe 113 = .ok (.if_icmp .ne 7, 3) := by decide +kernel
theorem dX8_mayBe_116 : decode cX8_mayBe 116 = .ok (.iconst 1, 1) := by decide +kernel
theorem dX8_mayBe_117 : decode cX8_mayBe 117 = .ok (.goto 4, 3) := by decide +kernel
theorem dX8_mayBe_120 : decode cX8_mayBe 120 = .ok (.iconst 0, 1) := by decide +kernel
theorem dX8_mayBe_121 : decode cX8_mayBe 121 = .ok (.istore 7, 2) := by decide +kernel
theorem dX8_mayBe_123 : decode cX8_mayBe 123 = .ok (.iinc 8 1, 3) := by decide +kernel
theorem dX8_mayBe_126 : decode cX8_mayBe 126 = .ok (.goto (-63), 3) := by decide +kernel
theorem dX8_mayBe_129 : decode cX8_mayBe 129 = .ok (.iload 5, 2) := by decide +kernel
theorem dX8_mayBe_131 : decode cX8_mayBe 131 = .ok (.iload 7, 2) := by decide +kernel
theorem dX8_mayBe_133 : decode cX8_mayBe 133 = .ok (.ifCond .eq 10, 3) := by decide +kernel
theorem dX8_mayBe_136 : decode cX8_mayBe 136 = .ok (.iconst 1, 1) := by decide +kernel
theorem dX8_mayBe_137 : decode cX8_mayBe 137 = .ok (.iload 6, 2) := by decide +kernel
theorem dX8_mayBe_139 : decode cX8_mayBe 139 = .ok (.ishl, 1) := by decide +kernel
theorem dX8_mayBe_140 : decode cX8_mayBe 140 = .ok (.goto 4, 3) := by decide +kernel
theorem dX8_mayBe_143 : decode cX8_mayBe 143 = .ok (.iconst 0, 1) := by decide +kernel
theorem dX8_mayBe_144 : decode cX8_mayBe 144 = .ok (.ior, 1) := by decide +kernel
theorem dX8_mayBe_145 : decode cX8_mayBe 145 = .ok (.istore 5, 2) := by decide +kernel
theorem dX8_mayBe_147 : decode cX8_mayBe 147 = .ok (.iinc 6 1, 3) := by decide +kernel
theorem dX8_mayBe_150 : decode cX8_mayBe 150 = .ok (.goto (-108), 3) := by decide +kernel
theorem dX8_mayBe_153 : decode cX8_mayBe 153 = .ok (.aload_n 0, 1) := by decide +kernel
theorem dX8_mayBe_154 : decode cX8_mayBe 154 = .ok (.getfield 16, 3) := by decide +kernel
theorem dX8_mayBe_157 : decode cX8_mayBe 157 = .ok (.iload_n 3, 1) := by decide +kernel
theorem dX8_mayBe_158 : decode cX8_mayBe 158 = .ok (.iload 4, 2) := by decide +kernel
theorem dX8_mayBe_160 : decode cX8_mayBe 160 = .ok (.iastore, 1) := by decide +kernel
theorem dX8_mayBe_161 : decode cX8_mayBe 161 = .ok (.iload 5, 2) := by decide +kernel
theorem dX8_mayBe_163 : decode cX8_mayBe 163 = .ok (.ireturn, 1) := by decide +kernel
set_option maxRecDepth 20000 in
theorem ggX8_odds_X8_isWriter : GoodIn wsX8_odds wsX8_isWriter := goodIn_r _ [9, 2, 10, 11, 8, 12, 37, 38, 39, 40, 41, 42, 43, 44, 45, 46, 47, 48, 49, 50, 51, 52, 53, 54] (by decide +kernel) (by decide +kernel)
set_option maxRecDepth 20000 in
theorem gX8_odds_X8_isWriter : GoodIn wsX8_odds (wsV RX8 98 RX8 yX8_isWriter wsX8_isWriter) := goodIn_app (goodIn_of _ (by decide +kernel)) ggX8_odds_X8_isWriter
set_option maxRecDepth 20000 in
theorem ggX8_odds_X8_isSubject : GoodIn wsX8_odds wsX8_isSubject := goodIn_r _ [15, 16, 10, 11, 8, 12] (by decide +kernel) (by decide +kernel)
set_option maxRecDepth 20000 in
theorem gX8_odds_X8_isSubject : GoodIn wsX8_odds (va_wsS RX8 112 yX8_isSubject wsX8_isSubject) := goodIn_app (goodIn_of _ (by decide +kernel)) ggX8_odds_X8_isSubject
set_option maxRecDepth 20000 in
theorem ggX8_odds_X8_in : GoodIn wsX8_odds wsX8_in := goodIn_r _ [12] (by decide +kernel) (by decide +kernel)
set_option maxRecDepth 20000 in
theorem gX8_odds_X8_in : GoodIn wsX8_odds (va_wsS RX8 42 yX8_in wsX8_in) := goodIn_app (goodIn_of _ (by decide +kernel)) ggX8_odds_X8_in
set_option maxRecDepth 20000 in
theorem ggX8_odds_X8_hasLaid : GoodIn wsX8_odds wsX8_hasLaid := goodIn_r _ [20, 3, 37, 38, 39, 40, 41, 42, 43, 44, 45, 46, 47, 48, 49, 50, 51, 52, 53, 54] (by decide +kernel) (by decide +kernel)
set_option maxRecDepth 20000 in
theorem gX8_odds_X8_hasLaid : GoodIn wsX8_odds (wsV RX8 126 RX8 yX8_hasLaid wsX8_hasLaid) := goodIn_app (goodIn_of _ (by decide +kernel)) ggX8_odds_X8_hasLaid
set_option maxRecDepth 20000 in
theorem ggX8_odds_X8_letters : GoodIn wsX8_odds wsX8_letters := goodIn_r _ [24, 4, 25, 26, 27, 8, 28, 2, 29, 30, 31, 32, 33, 34, 35, 36, 37, 38, 39, 40, 41, 42, 43, 44, 45, 46, 47, 48, 49, 50, 51, 52, 53, 54] (by decide +kernel) (by decide +kernel)
set_option maxRecDepth 20000 in
theorem gX8_odds_X8_letters : GoodIn wsX8_odds (wsV RX8 168 RX8 yX8_letters wsX8_letters) := goodIn_app (goodIn_of _ (by decide +kernel)) ggX8_odds_X8_letters
theorem dX8_odds_0 : decode cX8_odds 0 = .ok (.aload_n 0, 1) := by decide +kernel
theorem dX8_odds_1 : decode cX8_odds 1 = .ok (.iload_n 1, 1) := by decide +kernel
theorem dX8_odds_2 : decode cX8_odds 2 = .ok (.invokevirtual 98, 3) := by decide +kernel
theorem dX8_odds_5 : decode cX8_odds 5 = .ok (.ifCond .eq 33, 3) := by decide +kernel
theorem dX8_odds_8 : decode cX8_odds 8 = .ok (.iload_n 2, 1) := by decide +kernel
theorem dX8_odds_9 : decode cX8_odds 9 = .ok (.invokestatic 112, 3) := by decide +kernel
theorem dX8_odds_12 : decode cX8_odds 12 = .ok (.ifCond .eq 26, 3) := by decide +kernel
theorem dX8_odds_15 : decode cX8_odds 15 = .ok (.iload_n 3, 1) := by decide +kernel
theorem dX8_odds_16 : decode cX8_odds 16 = .ok (.i2l, 1) := by decide +kernel
theorem dX8_odds_17 : decode cX8_odds 17 = .ok (.lconst 0, 1) := by decide +kernel
theorem dX8_odds_18 : decode cX8_odds 18 = .ok (.ldc2_w 177, 3) := by decide +kernel
theorem dX8_odds_21 : decode cX8_odds 21 = .ok (.invokestatic 42, 3) := by decide +kernel
theorem dX8_odds_24 : decode cX8_odds 24 = .ok (.ifCond .eq 14, 3) := by decide +kernel
theorem dX8_odds_27 : decode cX8_odds 27 = .ok (.iload 4, 2) := by decide +kernel
theorem dX8_odds_29 : decode cX8_odds 29 = .ok (.i2l, 1) := by decide +kernel
theorem dX8_odds_30 : decode cX8_odds 30 = .ok (.lconst 0, 1) := by decide +kernel
theorem dX8_odds_31 : decode cX8_odds 31 = .ok (.lconst 1, 1) := by decide +kernel
theorem dX8_odds_32 : decode cX8_odds 32 = .ok (.invokestatic 42, 3) := by decide +kernel
theorem dX8_odds_35 : decode cX8_odds 35 = .ok (.ifCond .ne 5, 3) := by decide +kernel
theorem dX8_odds_38 : decode cX8_odds 38 = .ok (.iconst (-1), 1) := by decide +kernel
theorem dX8_odds_39 : decode cX8_odds 39 = .ok (.ireturn, 1) := by decide +kernel
theorem dX8_odds_40 : decode cX8_odds 40 = .ok (.aload_n 0, 1) := by decide +kernel
theorem dX8_odds_41 : decode cX8_odds 41 = .ok (.iload_n 1, 1) := by decide +kernel
theorem dX8_odds_42 : decode cX8_odds 42 = .ok (.invokevirtual 126, 3) := by decide +kernel
theorem dX8_odds_45 : decode cX8_odds 45 = .ok (.ifCond .eq 6, 3) := by decide +kernel
theorem dX8_odds_48 : decode cX8_odds 48 = .ok (.bipush (-2), 2) := by decide +kernel
theorem dX8_odds_50 : decode cX8_odds 50 = .ok (.ireturn, 1) := by decide +kernel
theorem dX8_odds_51 : decode cX8_odds 51 = .ok (.iconst 0, 1) := by decide +kernel
theorem dX8_odds_52 : decode cX8_odds 52 = .ok (.istore 5, 2) := by decide +kernel
theorem dX8_odds_54 : decode cX8_odds 54 = .ok (.iconst 0, 1) := by decide +kernel
theorem dX8_odds_55 : decode cX8_odds 55 = .ok (.istore 6, 2) := by decide +kernel
theorem dX8_odds_57 : decode cX8_odds 57 = .ok (.iconst 0, 1) := by decide +kernel
theorem dX8_odds_58 : decode cX8_odds 58 = .ok (.istore 7, 2) := by decide +kernel
theorem dX8_odds_60 : decode cX8_odds 60 = .ok (.iload 7, 2) := by decide +kernel
theorem dX8_odds_62 : decode cX8_odds 62 = .ok (.iconst 1, 1) := by decide +kernel
theorem dX8_odds_63 : decode cX8_odds 63 = .ok (.aload_n 0, 1) := by decide +kernel
theorem dX8_odds_64 : decode cX8_odds 64 = .ok (.getfield 16, 3) := by decide +kernel
theorem dX8_odds_67 : decode cX8_odds 67 = .ok (.iconst 0, 1) := by decide +kernel
theorem dX8_odds_68 : decode cX8_odds 68 = .ok (.iaload, 1) := by decide +kernel
theorem dX8_odds_69 : decode cX8_odds 69 = .ok (.ishl, 1) := by decide +kernel
theorem dX8_odds_70 : decode cX8_odds 70 = .ok (.if_icmp .ge 149, 3) := by decide +kernel
theorem dX8_odds_73 : decode cX8_odds 73 = .ok (.iload 7, 2) := by decide +kernel
theorem dX8_odds_75 : decode cX8_odds 75 = .ok (.aload_n 0, 1) := by decide +kernel
theorem dX8_odds_76 : decode cX8_odds 76 = .ok (.getfield 19, 3) := by decide +kernel
theorem dX8_odds_79 : decode cX8_odds 79 = .ok (.iconst 2, 1) := by decide +kernel
theorem dX8_odds_80 : decode cX8_odds 80 = .ok (.iaload, 1) := by decide +kernel
theorem dX8_odds_81 : decode cX8_odds 81 = .ok (.iconst 1, 1) := by decide +kernel
theorem dX8_odds_82 : decode cX8_odds 82 = .ok (.iload_n 1, 1) := by decide +kernel
theorem dX8_odds_83 : decode cX8_odds 83 = .ok (.ishl, 1) := by decide +kernel
theorem dX8_odds_84 : decode cX8_odds 84 = .ok (.ior, 1) := by decide +kernel
theorem dX8_odds_85 : decode cX8_odds 85 = .ok (.iand, 1) := by decide +kernel
theorem dX8_odds_86 : decode cX8_odds 86 = .ok (.ifCond .ne 127, 3) := by decide +kernel
theorem dX8_odds_89 : decode cX8_odds 89 = .ok (.iconst 1, 1) := by decide +kernel
theorem dX8_odds_90 : decode cX8_odds 90 = .ok (.istore 8, 2) := by decide +kernel
theorem dX8_odds_92 : decode cX8_odds 92 = .ok (.iconst 0, 1) := by decide +kernel
theorem dX8_odds_93 : decode cX8_odds 93 = .ok (.istore 9, 2) := by decide +kernel
theorem dX8_odds_95 : decode cX8_odds 95 = .ok (.iload 9, 2) := by decide +kernel
theorem dX8_odds_97 : decode cX8_odds 97 = .ok (.aload_n 0, 1) := by decide +kernel
theorem dX8_odds_98 : decode cX8_odds 98 = .ok (.getfield 16, 3) := by decide +kernel
theorem dX8_odds_101 : decode cX8_odds 101 = .ok (.iconst 0, 1) := by decide +kernel
theorem dX8_odds_102 : decode cX8_odds 102 = .ok (.iaload, 1) := by decide +kernel
theorem dX8_odds_103 : decode cX8_odds 103 = .ok (.if_icmp .ge 64, 3) := by decide +kernel
theorem dX8_odds_106 : decode cX8_odds 106 = .ok (.iload 9, 2) := by decide +kernel
theorem dX8_odds_108 : decode cX8_odds 108 = .ok (.iload_n 1, 1) := by decide +kernel
theorem dX8_odds_109 : decode cX8_odds 109 = .ok (.if_icmp .eq 16, 3) := by decide +kernel
theorem dX8_odds_112 : decode cX8_odds 112 = .ok (.aload_n 0, 1) := by decide +kernel
theorem dX8_odds_113 : decode cX8_odds 113 = .ok (.iload 9, 2) := by decide +kernel
theorem dX8_odds_115 : decode cX8_odds 115 = .ok (.invokevirtual 126, 3) := by decide +kernel
theorem dX8_odds_118 : decode cX8_odds 118 = .ok (.ifCond .ne 7, 3) := by decide +kernel
theorem dX8_odds_121 : decode cX8_odds 121 = .ok (.iconst 1, 1) := by decide +kernel
theorem dX8_odds_122 : decode cX8_odds 122 = .ok (.goto 4, 3) := by decide +kernel
theorem dX8_odds_125 : decode cX8_odds 125 = .ok (.iconst 0, 1) := by decide +kernel
theorem dX8_odds_126 : decode cX8_odds 126 = .ok (.istore 10, 2) := by decide +kernel
theorem dX8_odds_128 : decode cX8_odds 128 = .ok (.iload 8, 2) := by decide +kernel
theorem dX8_odds_130 : decode cX8_odds 130 = .ok (.iload 10, 2) := by decide +kernel
theorem dX8_odds_132 : decode cX8_odds 132 = .ok (.ifCond .ne 7, 3) := by decide +kernel
theorem dX8_odds_135 : decode cX8_odds 135 = .ok (.iconst 1, 1) := by decide +kernel
theorem dX8_odds_136 : decode cX8_odds 136 = .ok (.goto 22, 3) := by decide +kernel
theorem dX8_odds_139 : decode cX8_odds 139 = .ok (.iload 7, 2) := by decide +kernel
theorem dX8_odds_141 : decode cX8_odds 141 = .ok (.iload 9, 2) := by decide +kernel
theorem dX8_odds_143 : decode cX8_odds 143 = .ok (.ishr, 1) := by decide +kernel
theorem dX8_odds_144 : decode cX8_odds 144 = .ok (.iconst 1, 1) := by decide +kernel
theorem dX8_odds_145 : decode cX8_odds 145 = .ok (.iand, 1) := by decide +kernel
theorem dX8_odds_146 : decode cX8_odds 146 = .ok (.iconst 1, 1) := by decide +kernel
theorem dX8_odds_147 : decode cX8_odds 147 = .ok (.if_icmp .ne 7, 3) := by decide +kernel
theorem dX8_odds_150 : decode cX8_odds 150 = .ok (.iload_n 3, 1) := by decide +kernel
theorem dX8_odds_151 : decode cX8_odds 151 = .ok (.goto 7, 3) := by decide +kernel
theorem dX8_odds_154 : decode cX8_odds 154 = .ok (.bipush 10, 2) := by decide +kernel
theorem dX8_odds_156 : decode cX8_odds 156 = .ok (.iload_n 3, 1) := by decide +kernel
theorem dX8_odds_157 : decode cX8_odds 157 = .ok (.isub, 1) := by decide +kernel
theorem dX8_odds_158 : decode cX8_odds 158 = .ok (.imul, 1) := by decide +kernel
theorem dX8_odds_159 : decode cX8_odds 159 = .ok (.istore 8, 2) := by decide +kernel
theorem dX8_odds_161 : decode cX8_odds 161 = .ok (.iinc 9 1, 3) := by decide +kernel
theorem dX8_odds_164 : decode cX8_odds 164 = .ok (.goto (-69), 3) := by decide +kernel
theorem dX8_odds_167 : decode cX8_odds 167 = .ok (.iload 6, 2) := by decide +kernel
theorem dX8_odds_169 : decode cX8_odds 169 = .ok (.iload 8, 2) := by decide +kernel
theorem dX8_odds_171 : decode cX8_odds 171 = .ok (.iadd, 1) := by decide +kernel
theorem dX8_odds_172 : decode cX8_odds 172 = .ok (.istore 6, 2) := by decide +kernel
theorem dX8_odds_174 : decode cX8_odds 174 = .ok (.iload 5, 2) := by decide +kernel
theorem dX8_odds_176 : decode cX8_odds 176 = .ok (.aload_n 0, 1) := by decide +kernel
theorem dX8_odds_177 : decode cX8_odds 177 = .ok (.iload_n 1, 1) := by decide +kernel
theorem dX8_odds_178 : decode cX8_odds 178 = .ok (.iload_n 2, 1) := by decide +kernel
theorem dX8_odds_179 : decode cX8_odds 179 = .ok (.aload_n 0, 1) := by decide +kernel
theorem dX8_odds_180 : decode cX8_odds 180 = .ok (.getfield 19, 3) := by decide +kernel
theorem dX8_odds_183 : decode cX8_odds 183 = .ok (.iconst 2, 1) := by decide +kernel
theorem dX8_odds_184 : decode cX8_odds 184 = .ok (.iaload, 1) := by decide +kernel
theorem dX8_odds_185 : decode cX8_odds 185 = .ok (.iload 7, 2) := by decide +kernel
theorem dX8_odds_187 : decode cX8_odds 187 = .ok (.ior, 1) := by decide +kernel
theorem dX8_odds_188 : decode cX8_odds 188 = .ok (.invokevirtual 168, 3) := by decide +kernel
theorem dX8_odds_191 : decode cX8_odds 191 = .ok (.bipush (-9), 2) := by decide +kernel
theorem dX8_odds_193 : decode cX8_odds 193 = .ok (.if_icmp .eq 16, 3) := by decide +kernel
theorem dX8_odds_196 : decode cX8_odds 196 = .ok (.aload_n 0, 1) := by decide +kernel
theorem dX8_odds_197 : decode cX8_odds 197 = .ok (.getfield 165, 3) := by decide +kernel
theorem dX8_odds_200 : decode cX8_odds 200 = .ok (.iload_n 1, 1) := by decide +kernel
theorem dX8_odds_201 : decode cX8_odds 201 = .ok (.if_icmp .ne 8, 3) := by decide +kernel
theorem dX8_odds_204 : decode cX8_odds 204 = .ok (.iload 8, 2) := by decide +kernel
theorem dX8_odds_206 : decode cX8_odds 206 = .ok (.goto 4, 3) := by decide +kernel
theorem dX8_odds_209 : decode cX8_odds 209 = .ok (.iconst 0, 1) := by decide +kernel
theorem dX8_odds_210 : decode cX8_odds 210 = .ok (.iadd, 1) := by decide +kernel
theorem dX8_odds_211 : decode cX8_odds 211 = .ok (.istore 5, 2) := by decide +kernel
theorem dX8_odds_213 : decode cX8_odds 213 = .ok (.iinc 7 1, 3) := by decide +kernel
theorem dX8_odds_216 : decode cX8_odds 216 = .ok (.goto (-156), 3) := by decide +kernel
theorem dX8_odds_219 : decode cX8_odds 219 = .ok (.iload 5, 2) := by decide +kernel
theorem dX8_odds_221 : decode cX8_odds 221 = .ok (.istore 7, 2) := by decide +kernel
theorem dX8_odds_223 : decode cX8_odds 223 = .ok (.iload 6, 2) := by decide +kernel
theorem dX8_odds_225 : decode cX8_odds 225 = .ok (.istore 8, 2) := by decide +kernel
theorem dX8_odds_227 : decode cX8_odds 227 = .ok (.iload 8, 2) := by decide +kernel
theorem dX8_odds_229 : decode cX8_odds 229 = .ok (.ifCond .eq 21, 3) := by decide +kernel
theorem dX8_odds_232 : decode cX8_odds 232 = .ok (.iload 7, 2) := by decide +kernel
theorem dX8_odds_234 : decode cX8_odds 234 = .ok (.iload 8, 2) := by decide +kernel
theorem dX8_odds_236 : decode cX8_odds 236 = .ok (.irem, 1) := by decide +kernel
theorem dX8_odds_237 : decode cX8_odds 237 = .ok (.istore 9, 2) := by decide +kernel
theorem dX8_odds_239 : decode cX8_odds 239 = .ok (.iload 8, 2) := by decide +kernel
theorem dX8_odds_241 : decode cX8_odds 241 = .ok (.istore 7, 2) := by decide +kernel
theorem dX8_odds_243 : decode cX8_odds 243 = .ok (.iload 9, 2) := by decide +kernel
theorem dX8_odds_245 : decode cX8_odds 245 = .ok (.istore 8, 2) := by decide +kernel
theorem dX8_odds_247 : decode cX8_odds 247 = .ok (.goto (-20), 3) := by decide +kernel
theorem dX8_odds_250 : decode cX8_odds 250 = .ok (.iload 4, 2) := by decide +kernel
theorem dX8_odds_252 : decode cX8_odds 252 = .ok (.ifCond .ne 11, 3) := by decide +kernel
theorem dX8_odds_255 : decode cX8_odds 255 = .ok (.iload 5, 2) := by decide +kernel
theorem dX8_odds_257 : decode cX8_odds 257 = .ok (.iload 7, 2) := by decide +kernel
theorem dX8_odds_259 : decode cX8_odds 259 = .ok (.idiv, 1) := by decide +kernel
theorem dX8_odds_260 : decode cX8_odds 260 = .ok (.goto 8, 3) := by decide +kernel
theorem dX8_odds_263 : decode cX8_odds 263 = .ok (.iload 6, 2) := by decide +kernel
theorem dX8_odds_265 : decode cX8_odds 265 = .ok (.iload 7, 2) := by decide +kernel
theorem dX8_odds_267 : decode cX8_odds 267 = .ok (.idiv, 1) := by decide +kernel
theorem dX8_odds_268 : decode cX8_odds 268 = .ok (.ireturn, 1) := by decide +kernel
set_option maxRecDepth 20000 in
theorem ggX8_most_X8_words : GoodIn wsX8_most wsX8_words := goodIn_r _ [6, 7, 8, 9, 10, 5, 11, 12, 13, 14, 15, 16, 17, 18, 19, 20, 21, 22, 23, 24, 25, 26, 27, 28, 29] (by decide +kernel) (by decide +kernel)
set_option maxRecDepth 20000 in
theorem gX8_most_X8_words : GoodIn wsX8_most (wsV RX8 179 RX8 yX8_words wsX8_words) := goodIn_app (goodIn_of _ (by decide +kernel)) ggX8_most_X8_words
theorem dX8_most_0 : decode cX8_most 0 = .ok (.bipush (-9), 2) := by decide +kernel
theorem dX8_most_2 : decode cX8_most 2 = .ok (.istore_n 1, 1) := by decide +kernel
theorem dX8_most_3 : decode cX8_most 3 = .ok (.iconst 0, 1) := by decide +kernel
theorem dX8_most_4 : decode cX8_most 4 = .ok (.istore_n 2, 1) := by decide +kernel
theorem dX8_most_5 : decode cX8_most 5 = .ok (.iload_n 2, 1) := by decide +kernel
theorem dX8_most_6 : decode cX8_most 6 = .ok (.aload_n 0, 1) := by decide +kernel
theorem dX8_most_7 : decode cX8_most 7 = .ok (.getfield 16, 3) := by decide +kernel
theorem dX8_most_10 : decode cX8_most 10 = .ok (.iconst 0, 1) := by decide +kernel
theorem dX8_most_11 : decode cX8_most 11 = .ok (.iaload, 1) := by decide +kernel
theorem dX8_most_12 : decode cX8_most 12 = .ok (.if_icmp .ge 40, 3) := by decide +kernel
theorem dX8_most_15 : decode cX8_most 15 = .ok (.aload_n 0, 1) := by decide +kernel
theorem dX8_most_16 : decode cX8_most 16 = .ok (.iload_n 2, 1) := by decide +kernel
theorem dX8_most_17 : decode cX8_most 17 = .ok (.invokevirtual 179, 3) := by decide +kernel
theorem dX8_most_20 : decode cX8_most 20 = .ok (.istore_n 3, 1) := by decide +kernel
theorem dX8_most_21 : decode cX8_most 21 = .ok (.iload_n 3, 1) := by decide +kernel
theorem dX8_most_22 : decode cX8_most 22 = .ok (.ifCond .le 22, 3) := by decide +kernel
theorem dX8_most_25 : decode cX8_most 25 = .ok (.iload_n 1, 1) := by decide +kernel
theorem dX8_most_26 : decode cX8_most 26 = .ok (.bipush (-9), 2) := by decide +kernel
theorem dX8_most_28 : decode cX8_most 28 = .ok (.if_icmp .eq 12, 3) := by decide +kernel
theorem dX8_most_31 : decode cX8_most 31 = .ok (.iload_n 3, 1) := by decide +kernel
theorem dX8_most_32 : decode cX8_most 32 = .ok (.aload_n 0, 1) := by decide +kernel
theorem dX8_most_33 : decode cX8_most 33 = .ok (.iload_n 1, 1) := by decide +kernel
theorem dX8_most_34 : decode cX8_most 34 = .ok (.invokevirtual 179, 3) := by decide +kernel
theorem dX8_most_37 : decode cX8_most 37 = .ok (.if_icmp .le 7, 3) := by decide +kernel
theorem dX8_most_40 : decode cX8_most 40 = .ok (.iload_n 2, 1) := by decide +kernel
theorem dX8_most_41 : decode cX8_most 41 = .ok (.goto 4, 3) := by decide +kernel
theorem dX8_most_44 : decode cX8_most 44 = .ok (.iload_n 1, 1) := by decide +kernel
theorem dX8_most_45 : decode cX8_most 45 = .ok (.istore_n 1, 1) := by decide +kernel
theorem dX8_most_46 : decode cX8_most 46 = .ok (.iinc 2 1, 3) := by decide +kernel
theorem dX8_most_49 : decode cX8_most 49 = .ok (.goto (-44), 3) := by decide +kernel
theorem dX8_most_52 : decode cX8_most 52 = .ok (.iload_n 1, 1) := by decide +kernel
theorem dX8_most_53 : decode cX8_most 53 = .ok (.ireturn, 1) := by decide +kernel
set_option maxRecDepth 20000 in
theorem ggX8_titles_X8_isWriter : GoodIn wsX8_titles wsX8_isWriter := goodIn_r _ [5, 6, 7, 8, 4, 9, 14, 15, 16, 17, 18, 19, 20, 21, 22, 23, 24, 25, 26, 27, 28, 29, 30, 31] (by decide +kernel) (by decide +kernel)
set_option maxRecDepth 20000 in
theorem gX8_titles_X8_isWriter : GoodIn wsX8_titles (wsV RX8 98 RX8 yX8_isWriter wsX8_isWriter) := goodIn_app (goodIn_of _ (by decide +kernel)) ggX8_titles_X8_isWriter
set_option maxRecDepth 20000 in
theorem ggX8_titles_X8_near : GoodIn wsX8_titles wsX8_near := goodIn_r _ [13, 6, 14, 15, 16, 17, 18, 19, 20, 21, 22, 23, 24, 25, 26, 27, 28, 29, 30, 31] (by decide +kernel) (by decide +kernel)
set_option maxRecDepth 20000 in
theorem gX8_titles_X8_near : GoodIn wsX8_titles (wsV RX8 92 RX8 yX8_near wsX8_near) := goodIn_app (goodIn_of _ (by decide +kernel)) ggX8_titles_X8_near
theorem dX8_titles_0 : decode cX8_titles 0 = .ok (.aload_n 0, 1) := by decide +kernel
theorem dX8_titles_1 : decode cX8_titles 1 = .ok (.iload_n 1, 1) := by decide +kernel
theorem dX8_titles_2 : decode cX8_titles 2 = .ok (.invokevirtual 98, 3) := by decide +kernel
theorem dX8_titles_5 : decode cX8_titles 5 = .ok (.ifCond .eq 16, 3) := by decide +kernel
theorem dX8_titles_8 : decode cX8_titles 8 = .ok (.aload_n 0, 1) := by decide +kernel
theorem dX8_titles_9 : decode cX8_titles 9 = .ok (.iload_n 2, 1) := by decide +kernel
theorem dX8_titles_10 : decode cX8_titles 10 = .ok (.invokevirtual 98, 3) := by decide +kernel
theorem dX8_titles_13 : decode cX8_titles 13 = .ok (.ifCond .eq 8, 3) := by decide +kernel
theorem dX8_titles_16 : decode cX8_titles 16 = .ok (.iload_n 1, 1) := by decide +kernel
theorem dX8_titles_17 : decode cX8_titles 17 = .ok (.iload_n 2, 1) := by decide +kernel
theorem dX8_titles_18 : decode cX8_titles 18 = .ok (.if_icmp .ne 5, 3) := by decide +kernel
theorem dX8_titles_21 : decode cX8_titles 21 = .ok (.iconst (-1), 1) := by decide +kernel
theorem dX8_titles_22 : decode cX8_titles 22 = .ok (.ireturn, 1) := by decide +kernel
theorem dX8_titles_23 : decode cX8_titles 23 = .ok (.iconst 0, 1) := by decide +kernel
theorem dX8_titles_24 : decode cX8_titles 24 = .ok (.istore_n 3, 1) := by decide +kernel
theorem dX8_titles_25 : decode cX8_titles 25 = .ok (.iconst 0, 1) := by decide +kernel
theorem dX8_titles_26 : decode cX8_titles 26 = .ok (.istore 4, 2) := by decide +kernel
theorem dX8_titles_28 : decode cX8_titles 28 = .ok (.iload 4, 2) := by decide +kernel
theorem dX8_titles_30 : decode cX8_titles 30 = .ok (.iconst 5, 1) := by decide +kernel
theorem dX8_titles_31 : decode cX8_titles 31 = .ok (.if_icmp .ge 34, 3) := by decide +kernel
theorem dX8_titles_34 : decode cX8_titles 34 = .ok (.iload_n 3, 1) := by decide +kernel
theorem dX8_titles_35 : decode cX8_titles 35 = .ok (.aload_n 0, 1) := by decide +kernel
theorem dX8_titles_36 : decode cX8_titles 36 = .ok (.iload_n 1, 1) := by decide +kernel
theorem dX8_titles_37 : decode cX8_titles 37 = .ok (.iload 4, 2) := by decide +kernel
theorem dX8_titles_39 : decode cX8_titles 39 = .ok (.invokevirtual 92, 3) := by decide +kernel
theorem dX8_titles_42 : decode cX8_titles 42 = .ok (.aload_n 0, 1) := by decide +kernel
theorem dX8_titles_43 : decode cX8_titles 43 = .ok (.iload_n 2, 1) := by decide +kernel
theorem dX8_titles_44 : decode cX8_titles 44 = .ok (.iload 4, 2) := by decide +kernel
theorem dX8_titles_46 : decode cX8_titles 46 = .ok (.invokevirtual 92, 3) := by decide +kernel
theorem dX8_titles_49 : decode cX8_titles 49 = .ok (.if_icmp .ne 7, 3) := by decide +kernel
theorem dX8_titles_52 : decode cX8_titles 52 = .ok (.iconst 1, 1) := by decide +kernel
theorem dX8_titles_53 : decode cX8_titles 53 = .ok (.goto 4, 3) := by decide +kernel
theorem dX8_titles_56 : decode cX8_titles 56 = .ok (.iconst 0, 1) := by decide +kernel
theorem dX8_titles_57 : decode cX8_titles 57 = .ok (.iadd, 1) := by decide +kernel
theorem dX8_titles_58 : decode cX8_titles 58 = .ok (.istore_n 3, 1) := by decide +kernel
theorem dX8_titles_59 : decode cX8_titles 59 = .ok (.iinc 4 1, 3) := by decide +kernel
theorem dX8_titles_62 : decode cX8_titles 62 = .ok (.goto (-34), 3) := by decide +kernel
theorem dX8_titles_65 : decode cX8_titles 65 = .ok (.iload_n 3, 1) := by decide +kernel
theorem dX8_titles_66 : decode cX8_titles 66 = .ok (.ireturn, 1) := by decide +kernel
set_option maxRecDepth 20000 in
theorem ggX8_rate_X8_in : GoodIn wsX8_rate wsX8_in := goodIn_r _ [13] (by decide +kernel) (by decide +kernel)
set_option maxRecDepth 20000 in
theorem gX8_rate_X8_in : GoodIn wsX8_rate (va_wsS RX8 42 yX8_in wsX8_in) := goodIn_app (goodIn_of _ (by decide +kernel)) ggX8_rate_X8_in
set_option maxRecDepth 20000 in
theorem ggX8_rate_X8_isWriter : GoodIn wsX8_rate wsX8_isWriter := goodIn_r _ [17, 18, 10, 11, 12, 13, 35, 36, 37, 38, 39, 40, 41, 42, 43, 44, 45, 46, 47, 48, 49, 50, 51, 52] (by decide +kernel) (by decide +kernel)
set_option maxRecDepth 20000 in
theorem gX8_rate_X8_isWriter : GoodIn wsX8_rate (wsV RX8 98 RX8 yX8_isWriter wsX8_isWriter) := goodIn_app (goodIn_of _ (by decide +kernel)) ggX8_rate_X8_isWriter
set_option maxRecDepth 20000 in
theorem ggX8_rate_X8_pen : GoodIn wsX8_rate wsX8_pen := goodIn_r _ [22, 18, 35, 36, 37, 38, 39, 40, 41, 42, 43, 44, 45, 46, 47, 48, 49, 50, 51, 52] (by decide +kernel) (by decide +kernel)
set_option maxRecDepth 20000 in
theorem gX8_rate_X8_pen : GoodIn wsX8_rate (wsV RX8 119 RX8 yX8_pen wsX8_pen) := goodIn_app (goodIn_of _ (by decide +kernel)) ggX8_rate_X8_pen
set_option maxRecDepth 20000 in
theorem ggX8_rate_X8_owes : GoodIn wsX8_rate wsX8_owes := goodIn_r _ [26, 9, 27, 28, 29, 12, 30, 35, 36, 37, 38, 39, 40, 41, 42, 43, 44, 45, 46, 47, 48, 49, 50, 51, 52] (by decide +kernel) (by decide +kernel)
set_option maxRecDepth 20000 in
theorem gX8_rate_X8_owes : GoodIn wsX8_rate (wsV RX8 103 RX8 yX8_owes wsX8_owes) := goodIn_app (goodIn_of _ (by decide +kernel)) ggX8_rate_X8_owes
set_option maxRecDepth 20000 in
theorem ggX8_rate_X8_words : GoodIn wsX8_rate wsX8_words := goodIn_r _ [34, 9, 27, 28, 29, 12, 30, 35, 36, 37, 38, 39, 40, 41, 42, 43, 44, 45, 46, 47, 48, 49, 50, 51, 52] (by decide +kernel) (by decide +kernel)
set_option maxRecDepth 20000 in
theorem gX8_rate_X8_words : GoodIn wsX8_rate (wsV RX8 179 RX8 yX8_words wsX8_words) := goodIn_app (goodIn_of _ (by decide +kernel)) ggX8_rate_X8_words
theorem dX8_rate_0 : decode cX8_rate 0 = .ok (.iload_n 1, 1) := by decide +kernel
theorem dX8_rate_1 : decode cX8_rate 1 = .ok (.i2l, 1) := by decide +kernel
theorem dX8_rate_2 : decode cX8_rate 2 = .ok (.lconst 0, 1) := by decide +kernel
theorem dX8_rate_3 : decode cX8_rate 3 = .ok (.ldc2_w 110, 3) := by decide +kernel
theorem dX8_rate_6 : decode cX8_rate 6 = .ok (.invokestatic 42, 3) := by decide +kernel
theorem dX8_rate_9 : decode cX8_rate 9 = .ok (.ifCond .eq 11, 3) := by decide +kernel
theorem dX8_rate_12 : decode cX8_rate 12 = .ok (.aload_n 0, 1) := by decide +kernel
theorem dX8_rate_13 : decode cX8_rate 13 = .ok (.iload_n 2, 1) := by decide +kernel
theorem dX8_rate_14 : decode cX8_rate 14 = .ok (.invokevirtual 98, 3) := by decide +kernel
theorem dX8_rate_17 : decode cX8_rate 17 = .ok (.ifCond .ne 6, 3) := by decide +kernel
theorem dX8_rate_20 : decode cX8_rate 20 = .ok (.ldc 182, 2) := by decide +kernel
theorem dX8_rate_22 : decode cX8_rate 22 = .ok (.ireturn, 1) := by decide +kernel
theorem dX8_rate_23 : decode cX8_rate 23 = .ok (.aload_n 0, 1) := by decide +kernel
theorem dX8_rate_24 : decode cX8_rate 24 = .ok (.dup, 1) := by decide +kernel
theorem dX8_rate_25 : decode cX8_rate 25 = .ok (.getfield 183, 3) := by decide +kernel
theorem dX8_rate_28 : decode cX8_rate 28 = .ok (.iload_n 1, 1) := by decide +kernel
theorem dX8_rate_29 : decode cX8_rate 29 = .ok (.ifCond .ne 7, 3) := by decide +kernel
theorem dX8_rate_32 : decode cX8_rate 32 = .ok (.lconst 1, 1) := by decide +kernel
theorem dX8_rate_33 : decode cX8_rate 33 = .ok (.goto 50, 3) := by decide +kernel
theorem dX8_rate_36 : decode cX8_rate 36 = .ok (.iload_n 1, 1) := by decide +kernel
theorem dX8_rate_37 : decode cX8_rate 37 = .ok (.iconst 1, 1) := by decide +kernel
theorem dX8_rate_38 : decode cX8_rate 38 = .ok (.if_icmp .ne 9, 3) := by decide +kernel
theorem dX8_rate_41 : decode cX8_rate 41 = .ok (.ldc2_w 187, 3) := by decide +kernel
theorem dX8_rate_44 : decode cX8_rate 44 = .ok (.goto 39, 3) := by decide +kernel
theorem dX8_rate_47 : decode cX8_rate 47 = .ok (.iload_n 1, 1) := by decide +kernel
theorem dX8_rate_48 : decode cX8_rate 48 = .ok (.iconst 2, 1) := by decide +kernel
theorem dX8_rate_49 : decode cX8_rate 49 = .ok (.if_icmp .ne 9, 3) := by decide +kernel
theorem dX8_rate_52 : decode cX8_rate 52 = .ok (.ldc2_w 189, 3) := by decide +kernel
theorem dX8_rate_55 : decode cX8_rate 55 = .ok (.goto 28, 3) := by decide +kernel
theorem dX8_rate_58 : decode cX8_rate 58 = .ok (.iload_n 1, 1) := by decide +kernel
theorem dX8_rate_59 : decode cX8_rate 59 = .ok (.iconst 3, 1) := by decide +kernel
theorem dX8_rate_60 : decode cX8_rate 60 = .ok (.if_icmp .ne 9, 3) := by decide +kernel
theorem dX8_rate_63 : decode cX8_rate 63 = .ok (.ldc2_w 191, 3) := by decide +kernel
theorem dX8_rate_66 : decode cX8_rate 66 = .ok (.goto 17, 3) := by decide +kernel
theorem dX8_rate_69 : decode cX8_rate 69 = .ok (.iload_n 1, 1) := by decide +kernel
theorem dX8_rate_70 : decode cX8_rate 70 = .ok (.iconst 4, 1) := by decide +kernel
theorem dX8_rate_71 : decode cX8_rate 71 = .ok (.if_icmp .ne 9, 3) := by decide +kernel
theorem dX8_rate_74 : decode cX8_rate 74 = .ok (.ldc2_w 193, 3) := by decide +kernel
theorem dX8_rate_77 : decode cX8_rate 77 = .ok (.goto 6, 3) := by decide +kernel
theorem dX8_rate_80 : decode cX8_rate 80 = .ok (.ldc2_w 195, 3) := by decide +kernel
theorem dX8_rate_83 : decode cX8_rate 83 = .ok (.ladd, 1) := by decide +kernel
theorem dX8_rate_84 : decode cX8_rate 84 = .ok (.putfield 183, 3) := by decide +kernel
theorem dX8_rate_87 : decode cX8_rate 87 = .ok (.aload_n 0, 1) := by decide +kernel
theorem dX8_rate_88 : decode cX8_rate 88 = .ok (.iload_n 2, 1) := by decide +kernel
theorem dX8_rate_89 : decode cX8_rate 89 = .ok (.invokevirtual 119, 3) := by decide +kernel
theorem dX8_rate_92 : decode cX8_rate 92 = .ok (.aload_n 0, 1) := by decide +kernel
theorem dX8_rate_93 : decode cX8_rate 93 = .ok (.iload_n 2, 1) := by decide +kernel
theorem dX8_rate_94 : decode cX8_rate 94 = .ok (.invokevirtual 103, 3) := by decide +kernel
theorem dX8_rate_97 : decode cX8_rate 97 = .ok (.iadd, 1) := by decide +kernel
theorem dX8_rate_98 : decode cX8_rate 98 = .ok (.istore_n 3, 1) := by decide +kernel
theorem dX8_rate_99 : decode cX8_rate 99 = .ok (.aload_n 0, 1) := by decide +kernel
theorem dX8_rate_100 : decode cX8_rate 100 = .ok (.iload_n 2, 1) := by decide +kernel
theorem dX8_rate_101 : decode cX8_rate 101 = .ok (.invokevirtual 119, 3) := by decide +kernel
theorem dX8_rate_104 : decode cX8_rate 104 = .ok (.aload_n 0, 1) := by decide +kernel
theorem dX8_rate_105 : decode cX8_rate 105 = .ok (.getfield 19, 3) := by decide +kernel
theorem dX8_rate_108 : decode cX8_rate 108 = .ok (.iconst 4, 1) := by decide +kernel
theorem dX8_rate_109 : decode cX8_rate 109 = .ok (.iload_n 2, 1) := by decide +kernel
theorem dX8_rate_110 : decode cX8_rate 110 = .ok (.iadd, 1) := by decide +kernel
theorem dX8_rate_111 : decode cX8_rate 111 = .ok (.iaload, 1) := by decide +kernel
theorem dX8_rate_112 : decode cX8_rate 112 = .ok (.isub, 1) := by decide +kernel
theorem dX8_rate_113 : decode cX8_rate 113 = .ok (.istore 4, 2) := by decide +kernel
theorem dX8_rate_115 : decode cX8_rate 115 = .ok (.iload_n 1, 1) := by decide +kernel
theorem dX8_rate_116 : decode cX8_rate 116 = .ok (.tableswitch 56 0 4 #[36, 42, 44, 47, 51], 36) := by decide +kernel
theorem dX8_rate_152 : decode cX8_rate 152 = .ok (.aload_n 0, 1) := by decide +kernel
theorem dX8_rate_153 : decode cX8_rate 153 = .ok (.iload_n 2, 1) := by decide +kernel
theorem dX8_rate_154 : decode cX8_rate 154 = .ok (.invokevirtual 119, 3) := by decide +kernel
theorem dX8_rate_157 : decode cX8_rate 157 = .ok (.ireturn, 1) := by decide +kernel
theorem dX8_rate_158 : decode cX8_rate 158 = .ok (.iload_n 3, 1) := by decide +kernel
theorem dX8_rate_159 : decode cX8_rate 159 = .ok (.ireturn, 1) := by decide +kernel
theorem dX8_rate_160 : decode cX8_rate 160 = .ok (.iload 4, 2) := by decide +kernel
theorem dX8_rate_162 : decode cX8_rate 162 = .ok (.ireturn, 1) := by decide +kernel
theorem dX8_rate_163 : decode cX8_rate 163 = .ok (.iconst 2, 1) := by decide +kernel
theorem dX8_rate_164 : decode cX8_rate 164 = .ok (.iload_n 3, 1) := by decide +kernel
theorem dX8_rate_165 : decode cX8_rate 165 = .ok (.imul, 1) := by decide +kernel
theorem dX8_rate_166 : decode cX8_rate 166 = .ok (.ireturn, 1) := by decide +kernel
theorem dX8_rate_167 : decode cX8_rate 167 = .ok (.iload 4, 2) := by decide +kernel
theorem dX8_rate_169 : decode cX8_rate 169 = .ok (.iload_n 2, 1) := by decide +kernel
theorem dX8_rate_170 : decode cX8_rate 170 = .ok (.iadd, 1) := by decide +kernel
theorem dX8_rate_171 : decode cX8_rate 171 = .ok (.ireturn, 1) := by decide +kernel
theorem dX8_rate_172 : decode cX8_rate 172 = .ok (.aload_n 0, 1) := by decide +kernel
theorem dX8_rate_173 : decode cX8_rate 173 = .ok (.iload_n 2, 1) := by decide +kernel
theorem dX8_rate_174 : decode cX8_rate 174 = .ok (.invokevirtual 119, 3) := by decide +kernel
theorem dX8_rate_177 : decode cX8_rate 177 = .ok (.aload_n 0, 1) := by decide +kernel
theorem dX8_rate_178 : decode cX8_rate 178 = .ok (.iload_n 2, 1) := by decide +kernel
theorem dX8_rate_179 : decode cX8_rate 179 = .ok (.invokevirtual 179, 3) := by decide +kernel
theorem dX8_rate_182 : decode cX8_rate 182 = .ok (.iadd, 1) := by decide +kernel
theorem dX8_rate_183 : decode cX8_rate 183 = .ok (.ireturn, 1) := by decide +kernel
theorem dX8_trace_0 : decode cX8_trace 0 = .ok (.aload_n 0, 1) := by decide +kernel
theorem dX8_trace_1 : decode cX8_trace 1 = .ok (.getfield 183, 3) := by decide +kernel
theorem dX8_trace_4 : decode cX8_trace 4 = .ok (.lreturn, 1) := by decide +kernel
set_option maxRecDepth 20000 in
theorem ggX8_keep_X8_in : GoodIn wsX8_keep wsX8_in := goodIn_r _ [6] (by decide +kernel) (by decide +kernel)
set_option maxRecDepth 20000 in
theorem gX8_keep_X8_in : GoodIn wsX8_keep (va_wsS RX8 42 yX8_in wsX8_in) := goodIn_app (goodIn_of _ (by decide +kernel)) ggX8_keep_X8_in
theorem dX8_keep_0 : decode cX8_keep 0 = .ok (.iload_n 1, 1) := by decide +kernel
theorem dX8_keep_1 : decode cX8_keep 1 = .ok (.i2l, 1) := by decide +kernel
theorem dX8_keep_2 : decode cX8_keep 2 = .ok (.lconst 0, 1) := by decide +kernel
theorem dX8_keep_3 : decode cX8_keep 3 = .ok (.lconst 1, 1) := by decide +kernel
theorem dX8_keep_4 : decode cX8_keep 4 = .ok (.invokestatic 42, 3) := by decide +kernel
theorem dX8_keep_7 : decode cX8_keep 7 = .ok (.ifCond .ne 5, 3) := by decide +kernel
theorem dX8_keep_10 : decode cX8_keep 10 = .ok (.iconst (-1), 1) := by decide +kernel
theorem dX8_keep_11 : decode cX8_keep 11 = .ok (.ireturn, 1) := by decide +kernel
theorem dX8_keep_12 : decode cX8_keep 12 = .ok (.aload_n 0, 1) := by decide +kernel
theorem dX8_keep_13 : decode cX8_keep 13 = .ok (.getfield 31, 3) := by decide +kernel
theorem dX8_keep_16 : decode cX8_keep 16 = .ok (.bipush 47, 2) := by decide +kernel
theorem dX8_keep_18 : decode cX8_keep 18 = .ok (.iload_n 1, 1) := by decide +kernel
theorem dX8_keep_19 : decode cX8_keep 19 = .ok (.imul, 1) := by decide +kernel
theorem dX8_keep_20 : decode cX8_keep 20 = .ok (.iconst 1, 1) := by decide +kernel
theorem dX8_keep_21 : decode cX8_keep 21 = .ok (.iastore, 1) := by decide +kernel
theorem dX8_keep_22 : decode cX8_keep 22 = .ok (.iconst 0, 1) := by decide +kernel
theorem dX8_keep_23 : decode cX8_keep 23 = .ok (.istore_n 2, 1) := by decide +kernel
theorem dX8_keep_24 : decode cX8_keep 24 = .ok (.iload_n 2, 1) := by decide +kernel
theorem dX8_keep_25 : decode cX8_keep 25 = .ok (.bipush 46, 2) := by decide +kernel
theorem dX8_keep_27 : decode cX8_keep 27 = .ok (.if_icmp .ge 28, 3) := by decide +kernel
theorem dX8_keep_30 : decode cX8_keep 30 = .ok (.aload_n 0, 1) := by decide +kernel
theorem dX8_keep_31 : decode cX8_keep 31 = .ok (.getfield 31, 3) := by decide +kernel
theorem dX8_keep_34 : decode cX8_keep 34 = .ok (.bipush 47, 2) := by decide +kernel
theorem dX8_keep_36 : decode cX8_keep 36 = .ok (.iload_n 1, 1) := by decide +kernel
theorem dX8_keep_37 : decode cX8_keep 37 = .ok (.imul, 1) := by decide +kernel
theorem dX8_keep_38 : decode cX8_keep 38 = .ok (.iconst 1, 1) := by decide +kernel
theorem dX8_keep_39 : decode cX8_keep 39 = .ok (.iadd, 1) := by decide +kernel
theorem dX8_keep_40 : decode cX8_keep 40 = .ok (.iload_n 2, 1) := by decide +kernel
theorem dX8_keep_41 : decode cX8_keep 41 = .ok (.iadd, 1) := by decide +kernel
theorem dX8_keep_42 : decode cX8_keep 42 = .ok (.aload_n 0, 1) := by decide +kernel
theorem dX8_keep_43 : decode cX8_keep 43 = .ok (.getfield 19, 3) := by decide +kernel
theorem dX8_keep_46 : decode cX8_keep 46 = .ok (.iload_n 2, 1) := by decide +kernel
theorem dX8_keep_47 : decode cX8_keep 47 = .ok (.iaload, 1) := by decide +kernel
theorem dX8_keep_48 : decode cX8_keep 48 = .ok (.iastore, 1) := by decide +kernel
theorem dX8_keep_49 : decode cX8_keep 49 = .ok (.iinc 2 1, 3) := by decide +kernel
theorem dX8_keep_52 : decode cX8_keep 52 = .ok (.goto (-28), 3) := by decide +kernel
theorem dX8_keep_55 : decode cX8_keep 55 = .ok (.aload_n 0, 1) := by decide +kernel
theorem dX8_keep_56 : decode cX8_keep 56 = .ok (.getfield 19, 3) := by decide +kernel
theorem dX8_keep_59 : decode cX8_keep 59 = .ok (.iconst 0, 1) := by decide +kernel
theorem dX8_keep_60 : decode cX8_keep 60 = .ok (.iaload, 1) := by decide +kernel
theorem dX8_keep_61 : decode cX8_keep 61 = .ok (.ireturn, 1) := by decide +kernel
set_option maxRecDepth 20000 in
theorem ggX8_back_X8_in : GoodIn wsX8_back wsX8_in := goodIn_r _ [7] (by decide +kernel) (by decide +kernel)
set_option maxRecDepth 20000 in
theorem gX8_back_X8_in : GoodIn wsX8_back (va_wsS RX8 42 yX8_in wsX8_in) := goodIn_app (goodIn_of _ (by decide +kernel)) ggX8_back_X8_in
theorem dX8_back_0 : decode cX8_back 0 = .ok (.iload_n 1, 1) := by decide +kernel
theorem dX8_back_1 : decode cX8_back 1 = .ok (.i2l, 1) := by decide +kernel
theorem dX8_back_2 : decode cX8_back 2 = .ok (.lconst 0, 1) := by decide +kernel
theorem dX8_back_3 : decode cX8_back 3 = .ok (.lconst 1, 1) := by decide +kernel
theorem dX8_back_4 : decode cX8_back 4 = .ok (.invokestatic 42, 3) := by decide +kernel
theorem dX8_back_7 : decode cX8_back 7 = .ok (.ifCond .ne 5, 3) := by decide +kernel
theorem dX8_back_10 : decode cX8_back 10 = .ok (.iconst (-1), 1) := by decide +kernel
theorem dX8_back_11 : decode cX8_back 11 = .ok (.ireturn, 1) := by decide +kernel
theorem dX8_back_12 : decode cX8_back 12 = .ok (.aload_n 0, 1) := by decide +kernel
theorem dX8_back_13 : decode cX8_back 13 = .ok (.getfield 31, 3) := by decide +kernel
theorem dX8_back_16 : decode cX8_back 16 = .ok (.bipush 47, 2) := by decide +kernel
theorem dX8_back_18 : decode cX8_back 18 = .ok (.iload_n 1, 1) := by decide +kernel
theorem dX8_back_19 : decode cX8_back 19 = .ok (.imul, 1) := by decide +kernel
theorem dX8_back_20 : decode cX8_back 20 = .ok (.iaload, 1) := by decide +kernel
theorem dX8_back_21 : decode cX8_back 21 = .ok (.ifCond .ne 6, 3) := by decide +kernel
theorem dX8_back_24 : decode cX8_back 24 = .ok (.bipush (-2), 2) := by decide +kernel
theorem dX8_back_26 : decode cX8_back 26 = .ok (.ireturn, 1) := by decide +kernel
theorem dX8_back_27 : decode cX8_back 27 = .ok (.iconst 0, 1) := by decide +kernel
theorem dX8_back_28 : decode cX8_back 28 = .ok (.istore_n 2, 1) := by decide +kernel
theorem dX8_back_29 : decode cX8_back 29 = .ok (.iload_n 2, 1) := by decide +kernel
theorem dX8_back_30 : decode cX8_back 30 = .ok (.bipush 46, 2) := by decide +kernel
theorem dX8_back_32 : decode cX8_back 32 = .ok (.if_icmp .ge 28, 3) := by decide +kernel
theorem dX8_back_35 : decode cX8_back 35 = .ok (.aload_n 0, 1) := by decide +kernel
theorem dX8_back_36 : decode cX8_back 36 = .ok (.getfield 19, 3) := by decide +kernel
theorem dX8_back_39 : decode cX8_back 39 = .ok (.iload_n 2, 1) := by decide +kernel
theorem dX8_back_40 : decode cX8_back 40 = .ok (.aload_n 0, 1) := by decide +kernel
theorem dX8_back_41 : decode cX8_back 41 = .ok (.getfield 31, 3) := by decide +kernel
theorem dX8_back_44 : decode cX8_back 44 = .ok (.bipush 47, 2) := by decide +kernel
theorem dX8_back_46 : decode cX8_back 46 = .ok (.iload_n 1, 1) := by decide +kernel
theorem dX8_back_47 : decode cX8_back 47 = .ok (.imul, 1) := by decide +kernel
theorem dX8_back_48 : decode cX8_back 48 = .ok (.iconst 1, 1) := by decide +kernel
theorem dX8_back_49 : decode cX8_back 49 = .ok (.iadd, 1) := by decide +kernel
theorem dX8_back_50 : decode cX8_back 50 = .ok (.iload_n 2, 1) := by decide +kernel
theorem dX8_back_51 : decode cX8_back 51 = .ok (.iadd, 1) := by decide +kernel
theorem dX8_back_52 : decode cX8_back 52 = .ok (.iaload, 1) := by decide +kernel
theorem dX8_back_53 : decode cX8_back 53 = .ok (.iastore, 1) := by decide +kernel
theorem dX8_back_54 : decode cX8_back 54 = .ok (.iinc 2 1, 3) := by decide +kernel
theorem dX8_back_57 : decode cX8_back 57 = .ok (.goto (-28), 3) := by decide +kernel
theorem dX8_back_60 : decode cX8_back 60 = .ok (.aload_n 0, 1) := by decide +kernel
theorem dX8_back_61 : decode cX8_back 61 = .ok (.iconst 0, 1) := by decide +kernel
theorem dX8_back_62 : decode cX8_back 62 = .ok (.putfield 87, 3) := by decide +kernel
theorem dX8_back_65 : decode cX8_back 65 = .ok (.aload_n 0, 1) := by decide +kernel
theorem dX8_back_66 : decode cX8_back 66 = .ok (.getfield 19, 3) := by decide +kernel
theorem dX8_back_69 : decode cX8_back 69 = .ok (.iconst 0, 1) := by decide +kernel
theorem dX8_back_70 : decode cX8_back 70 = .ok (.iaload, 1) := by decide +kernel
theorem dX8_back_71 : decode cX8_back 71 = .ok (.ireturn, 1) := by decide +kernel
theorem dX8_count_0 : decode cX8_count 0 = .ok (.iload_n 1, 1) := by decide +kernel
theorem dX8_count_1 : decode cX8_count 1 = .ok (.tableswitch 48 0 3 #[31, 31, 38, 43], 31) := by decide +kernel
theorem dX8_count_32 : decode cX8_count 32 = .ok (.aload_n 0, 1) := by decide +kernel
theorem dX8_count_33 : decode cX8_count 33 = .ok (.getfield 16, 3) := by decide +kernel
theorem dX8_count_36 : decode cX8_count 36 = .ok (.iload_n 1, 1) := by decide +kernel
theorem dX8_count_37 : decode cX8_count 37 = .ok (.iaload, 1) := by decide +kernel
theorem dX8_count_38 : decode cX8_count 38 = .ok (.ireturn, 1) := by decide +kernel
theorem dX8_count_39 : decode cX8_count 39 = .ok (.aload_n 0, 1) := by decide +kernel
theorem dX8_count_40 : decode cX8_count 40 = .ok (.getfield 84, 3) := by decide +kernel
theorem dX8_count_43 : decode cX8_count 43 = .ok (.ireturn, 1) := by decide +kernel
theorem dX8_count_44 : decode cX8_count 44 = .ok (.aload_n 0, 1) := by decide +kernel
theorem dX8_count_45 : decode cX8_count 45 = .ok (.getfield 46, 3) := by decide +kernel
theorem dX8_count_48 : decode cX8_count 48 = .ok (.ireturn, 1) := by decide +kernel
theorem dX8_count_49 : decode cX8_count 49 = .ok (.iconst (-1), 1) := by decide +kernel
theorem dX8_count_50 : decode cX8_count 50 = .ok (.ireturn, 1) := by decide +kernel
theorem dJ6_bitCount_0f7a4_0 : decode cJ6_bitCount_0f7a4 0 = .ok (.iload_n 0, 1) := by decide +kernel
theorem dJ6_bitCount_0f7a4_1 : decode cJ6_bitCount_0f7a4 1 = .ok (.iload_n 0, 1) := by decide +kernel
theorem dJ6_bitCount_0f7a4_2 : decode cJ6_bitCount_0f7a4 2 = .ok (.iconst 1, 1) := by decide +kernel
theorem dJ6_bitCount_0f7a4_3 : decode cJ6_bitCount_0f7a4 3 = .ok (.iushr, 1) := by decide +kernel
theorem dJ6_bitCount_0f7a4_4 : decode cJ6_bitCount_0f7a4 4 = .ok (.ldc_w 265, 3) := by decide +kernel
theorem dJ6_bitCount_0f7a4_7 : decode cJ6_bitCount_0f7a4 7 = .ok (.iand, 1) := by decide +kernel
theorem dJ6_bitCount_0f7a4_8 : decode cJ6_bitCount_0f7a4 8 = .ok (.isub, 1) := by decide +kernel
theorem dJ6_bitCount_0f7a4_9 : decode cJ6_bitCount_0f7a4 9 = .ok (.istore_n 0, 1) := by decide +kernel
theorem dJ6_bitCount_0f7a4_10 : decode cJ6_bitCount_0f7a4 10 = .ok (.iload_n 0, 1) := by decide +kernel
theorem dJ6_bitCount_0f7a4_11 : decode cJ6_bitCount_0f7a4 11 = .ok (.ldc_w 266, 3) := by decide +kernel
theorem dJ6_bitCount_0f7a4_14 : decode cJ6_bitCount_0f7a4 14 = .ok (.iand, 1) := by decide +kernel
theorem dJ6_bitCount_0f7a4_15 : decode cJ6_bitCount_0f7a4 15 = .ok (.iload_n 0, 1) := by decide +kernel
theorem dJ6_bitCount_0f7a4_16 : decode cJ6_bitCount_0f7a4 16 = .ok (.iconst 2, 1) := by decide +kernel
theorem dJ6_bitCount_0f7a4_17 : decode cJ6_bitCount_0f7a4 17 = .ok (.iushr, 1) := by decide +kernel
theorem dJ6_bitCount_0f7a4_18 : decode cJ6_bitCount_0f7a4 18 = .ok (.ldc_w 266, 3) := by decide +kernel
theorem dJ6_bitCount_0f7a4_21 : decode cJ6_bitCount_0f7a4 21 = .ok (.iand, 1) := by decide +kernel
theorem dJ6_bitCount_0f7a4_22 : decode cJ6_bitCount_0f7a4 22 = .ok (.iadd, 1) := by decide +kernel
theorem dJ6_bitCount_0f7a4_23 : decode cJ6_bitCount_0f7a4 23 = .ok (.istore_n 0, 1) := by decide +kernel
theorem dJ6_bitCount_0f7a4_24 : decode cJ6_bitCount_0f7a4 24 = .ok (.iload_n 0, 1) := by decide +kernel
theorem dJ6_bitCount_0f7a4_25 : decode cJ6_bitCount_0f7a4 25 = .ok (.iload_n 0, 1) := by decide +kernel
theorem dJ6_bitCount_0f7a4_26 : decode cJ6_bitCount_0f7a4 26 = .ok (.iconst 4, 1) := by decide +kernel
theorem dJ6_bitCount_0f7a4_27 : decode cJ6_bitCount_0f7a4 27 = .ok (.iushr, 1) := by decide +kernel
theorem dJ6_bitCount_0f7a4_28 : decode cJ6_bitCount_0f7a4 28 = .ok (.iadd, 1) := by decide +kernel
theorem dJ6_bitCount_0f7a4_29 : decode cJ6_bitCount_0f7a4 29 = .ok (.ldc_w 267, 3) := by decide +kernel
theorem dJ6_bitCount_0f7a4_32 : decode cJ6_bitCount_0f7a4 32 = .ok (.iand, 1) := by decide +kernel
theorem dJ6_bitCount_0f7a4_33 : decode cJ6_bitCount_0f7a4 33 = .ok (.istore_n 0, 1) := by decide +kernel
theorem dJ6_bitCount_0f7a4_34 : decode cJ6_bitCount_0f7a4 34 = .ok (.iload_n 0, 1) := by decide +kernel
theorem dJ6_bitCount_0f7a4_35 : decode cJ6_bitCount_0f7a4 35 = .ok (.iload_n 0, 1) := by decide +kernel
theorem dJ6_bitCount_0f7a4_36 : decode cJ6_bitCount_0f7a4 36 = .ok (.bipush 8, 2) := by decide +kernel
theorem dJ6_bitCount_0f7a4_38 : decode cJ6_bitCount_0f7a4 38 = .ok (.iushr, 1) := by decide +kernel
theorem dJ6_bitCount_0f7a4_39 : decode cJ6_bitCount_0f7a4 39 = .ok (.iadd, 1) := by decide +kernel
theorem dJ6_bitCount_0f7a4_40 : decode cJ6_bitCount_0f7a4 40 = .ok (.istore_n 0, 1) := by decide +kernel
theorem dJ6_bitCount_0f7a4_41 : decode cJ6_bitCount_0f7a4 41 = .ok (.iload_n 0, 1) := by decide +kernel
theorem dJ6_bitCount_0f7a4_42 : decode cJ6_bitCount_0f7a4 42 = .ok (.iload_n 0, 1) := by decide +kernel
theorem dJ6_bitCount_0f7a4_43 : decode cJ6_bitCount_0f7a4 43 = .ok (.bipush 16, 2) := by decide +kernel
theorem dJ6_bitCount_0f7a4_45 : decode cJ6_bitCount_0f7a4 45 = .ok (.iushr, 1) := by decide +kernel
theorem dJ6_bitCount_0f7a4_46 : decode cJ6_bitCount_0f7a4 46 = .ok (.iadd, 1) := by decide +kernel
theorem dJ6_bitCount_0f7a4_47 : decode cJ6_bitCount_0f7a4 47 = .ok (.istore_n 0, 1) := by decide +kernel
theorem dJ6_bitCount_0f7a4_48 : decode cJ6_bitCount_0f7a4 48 = .ok (.iload_n 0, 1) := by decide +kernel
theorem dJ6_bitCount_0f7a4_49 : decode cJ6_bitCount_0f7a4 49 = .ok (.bipush 63, 2) := by decide +kernel
theorem dJ6_bitCount_0f7a4_51 : decode cJ6_bitCount_0f7a4 51 = .ok (.iand, 1) := by decide +kernel
theorem dJ6_bitCount_0f7a4_52 : decode cJ6_bitCount_0f7a4 52 = .ok (.ireturn, 1) := by decide +kernel
theorem dJ9_min_7cf53_0 : decode cJ9_min_7cf53 0 = .ok (.iload_n 0, 1) := by decide +kernel
theorem dJ9_min_7cf53_1 : decode cJ9_min_7cf53 1 = .ok (.iload_n 1, 1) := by decide +kernel
theorem dJ9_min_7cf53_2 : decode cJ9_min_7cf53 2 = .ok (.if_icmp .gt 7, 3) := by decide +kernel
theorem dJ9_min_7cf53_5 : decode cJ9_min_7cf53 5 = .ok (.iload_n 0, 1) := by decide +kernel
theorem dJ9_min_7cf53_6 : decode cJ9_min_7cf53 6 = .ok (.goto 4, 3) := by decide +kernel
theorem dJ9_min_7cf53_9 : decode cJ9_min_7cf53 9 = .ok (.iload_n 1, 1) := by decide +kernel
theorem dJ9_min_7cf53_10 : decode cJ9_min_7cf53 10 = .ok (.ireturn, 1) := by decide +kernel
end
section
/-! ===== base: rows of my own over the kit's: indices as naturals, booleans as conditions, contracts of readers and of writers in place ===== -/
def wk_setL : va_W → List Nat → va_W → va_W
  | ws, i :: is, c :: cs => wk_setL (ws.set i c) is cs
  | ws, _, _ => ws
theorem wk_setL_at : ∀ (isC : List Nat) (wc w1 ws : va_W), isC.map (fun i => ws[i]?) = wc.map some → w1.map (fun q => q.1) = wc.map (fun q => q.1) → va_nd isC = true →
    ∀ (k : Nat) (q : Nat × va_E), (wk_setL ws isC w1)[k]? = some q → (∃ j : Nat, isC[j]? = some k ∧ w1[j]? = some q) ∨ (k ∉ isC ∧ ws[k]? = some q)
  | [], wc, w1, ws, _, _, _, k, q, hk => Or.inr ⟨List.not_mem_nil, by simpa [wk_setL] using hk⟩
  | i :: is, [], w1, ws, h, _, _, _, _, _ => by simp at h
  | i :: is, x :: wc, [], ws, _, h, _, _, _, _ => by simp at h
  | i :: is, x :: wc, y :: w1, ws, hC, hf, hn, k, q, hk => by
    simp only [va_nd, Bool.and_eq_true, decide_eq_true_eq] at hn
    simp only [List.map_cons, List.cons.injEq] at hC hf
    have hl : i < ws.length := (List.getElem?_eq_some_iff.mp hC.1).1
    have hC' : is.map (fun i' => (ws.set i y)[i']?) = wc.map some := by
      rw [← hC.2]
      apply List.map_congr_left
      intro i' hi'
      exact List.getElem?_set_ne (fun e => hn.1 (by rw [e]; exact hi'))
    rcases wk_setL_at is wc w1 (ws.set i y) hC' hf.2 hn.2 k q hk with ⟨j, h1, h2⟩ | ⟨h1, h2⟩
    · exact Or.inl ⟨j + 1, by simpa using h1, by simpa using h2⟩
    · by_cases hki : k = i
      · subst hki
        rw [List.getElem?_set_self hl] at h2
        exact Or.inl ⟨0, rfl, h2⟩
      · rw [List.getElem?_set_ne (Ne.symm hki)] at h2
        exact Or.inr ⟨by simp [hki, h1], h2⟩
theorem wk_map_at {is : List Nat} {ws w : va_W} (hs : is.map (fun i => ws[i]?) = w.map some) {k i : Nat} (h : is[k]? = some i) : ∃ q, w[k]? = some q ∧ ws[i]? = some q := by
  have h1 : (is.map (fun i => ws[i]?))[k]? = some ws[i]? := by rw [List.getElem?_map, h]; rfl
  rw [hs, List.getElem?_map] at h1
  cases hq : w[k]? with
  | none => rw [hq] at h1; cases h1
  | some q => rw [hq] at h1; exact ⟨q, rfl, (Option.some.inj h1).symm⟩
theorem wk_map_at' {is : List Nat} {ws w : va_W} (hs : is.map (fun i => ws[i]?) = w.map some) {k : Nat} {q : Nat × va_E} (h : w[k]? = some q) : ∃ i, is[k]? = some i ∧ ws[i]? = some q := by
  have h1 : (is.map (fun i => ws[i]?))[k]? = some (some q) := by rw [hs, List.getElem?_map, h]; rfl
  rw [List.getElem?_map] at h1
  cases hi : is[k]? with
  | none => rw [hi] at h1; cases h1
  | some i => rw [hi] at h1; exact ⟨i, rfl, Option.some.inj h1⟩
theorem wk_fst_at {w w1 : va_W} (hf : w1.map (fun q => q.1) = w.map (fun q => q.1)) {k : Nat} {q : Nat × va_E} (h : w1[k]? = some q) : ∃ q0, w[k]? = some q0 ∧ q0.1 = q.1 := by
  have h1 : (w1.map (fun q => q.1))[k]? = some q.1 := by rw [List.getElem?_map, h]; rfl
  rw [hf, List.getElem?_map] at h1
  cases hq : w[k]? with
  | none => rw [hq] at h1; cases h1
  | some q0 => rw [hq] at h1; exact ⟨q0, rfl, Option.some.inj h1⟩
/-- addresses alone decide that cells are apart -/
theorem wk_D_fst {A : Nat → Prop} {w w1 : va_W} (hf : w1.map (fun q => q.1) = w.map (fun q => q.1)) (hD : va_D A w) : va_D A w1 := by
  refine ⟨fun i j x y hi hj hxy => ?_, fun k q hk => ?_⟩
  · obtain ⟨x0, h1, h2⟩ := wk_fst_at hf hi
    obtain ⟨y0, h3, h4⟩ := wk_fst_at hf hj
    exact hD.1 i j x0 y0 h1 h3 (h2.trans (hxy.trans h4.symm))
  · obtain ⟨q0, h1, h2⟩ := wk_fst_at hf hk
    rw [← h2]
    exact hD.2 k q0 h1
/-- behind a call: the callee's cells in their places, the others as they were -/
theorem wk_join {A0 : Nat → Prop} {D : va_G} {cl : List vw_C} {ws wc w1 : va_W} {H H1 : Heap} (hP : va_P D cl ws H) (hD : va_D A0 ws) (isC : List Nat) (hC : isC.map (fun i => ws[i]?) = wc.map some) (hn : va_nd isC = true) (hf : w1.map (fun q => q.1) = wc.map (fun q => q.1))
    (hk : ∀ q : Nat, q < H.size → ¬ va_A wc H.size q → H1[q]? = H[q]?) (hP1 : va_P D cl w1 H1) : va_P D cl (wk_setL ws isC w1) H1 ∧ va_D A0 (wk_setL ws isC w1) := by
  have key := wk_setL_at isC wc w1 ws hC hf hn
  refine ⟨fun k q hq => ?_, fun i j x y hi hj hxy => ?_, fun k q hq => ?_⟩
  · rcases key k q hq with ⟨j, -, h2⟩ | ⟨h1, h2⟩
    · exact hP1 j q h2
    · have hlt := (hP k q h2).lt
      refine (hP k q h2).kept (hk q.1 hlt (fun h => ?_))
      rcases h with ⟨j, e, h⟩ | h
      · obtain ⟨i, h3, h4⟩ := wk_map_at' hC h
        have := hD.1 k i q (q.1, e) h2 h4 rfl
        subst this
        exact h1 (List.mem_of_getElem? h3)
      · omega
  · have old : ∀ (k : Nat) (q : Nat × va_E), (wk_setL ws isC w1)[k]? = some q → ∃ q0, ws[k]? = some q0 ∧ q0.1 = q.1 := fun k q hq => by
      rcases key k q hq with ⟨j, h1, h2⟩ | ⟨-, h2⟩
      · obtain ⟨q1, h3, h4⟩ := wk_map_at hC h1
        obtain ⟨q0, h5, h6⟩ := wk_fst_at hf h2
        rw [h3] at h5
        cases h5
        exact ⟨q1, h4, h6⟩
      · exact ⟨q, h2, rfl⟩
    obtain ⟨x0, h1, h2⟩ := old i x hi
    obtain ⟨y0, h3, h4⟩ := old j y hj
    exact hD.1 i j x0 y0 h1 h3 (h2.trans (hxy.trans h4.symm))
  · rcases key k q hq with ⟨j, h1, h2⟩ | ⟨-, h2⟩
    · obtain ⟨q1, h3, h4⟩ := wk_map_at hC h1
      obtain ⟨q0, h5, h6⟩ := wk_fst_at hf h2
      rw [h3] at h5
      cases h5
      rw [← h6]
      exact hD.2 k q1 h4
    · exact hD.2 k q h2
/-- what readers and writers promise -/
abbrev wk_RdP (D : va_G) (tys : List (ClassId × FieldType)) (av : List Value) (wc : va_W) : Array Value → State → Prop := va_Pc av (fun U => va_P D vwCl wc U.heap ∧ va_K D vwCl tys U)
abbrev wk_RdI (l : Launch) (y : MethodName) (wsy : List Cond) (rm : Room) (D : va_G) (tys : List (ClassId × FieldType)) (av : List Value) (wc : va_W) (v : Int32) : Prop := Met l y wsy rm (wk_RdP D tys av wc) (vp_Si (fun r => r = v)) 0 0 (fun _ => False)
abbrev wk_RdL (l : Launch) (y : MethodName) (wsy : List Cond) (rm : Room) (D : va_G) (tys : List (ClassId × FieldType)) (av : List Value) (wc : va_W) (v : Int64) : Prop := Met l y wsy rm (wk_RdP D tys av wc) (vp_Sl (fun r => r = v)) 0 0 (fun _ => False)
abbrev wk_UpP (D : va_G) (tys : List (ClassId × FieldType)) (av : List Value) (wc : va_W) (sz : Nat) : Array Value → State → Prop := va_Pc av (fun U => U.heap.size = sz ∧ va_P D vwCl wc U.heap ∧ va_K D vwCl tys U ∧ va_D (fun _ => True) wc)
abbrev wk_UpI (l : Launch) (y : MethodName) (wsy : List Cond) (rm : Room) (D : va_G) (tys : List (ClassId × FieldType)) (av : List Value) (wc wc' : va_W) (v : Int32) : Prop := ∀ sz : Nat, Met l y wsy rm (wk_UpP D tys av wc sz) (va_Qi (fun r (_ : Unit) => r = v) (fun _ t => va_P D vwCl wc' t.heap) (va_A wc sz)) 0 0 (va_A wc sz)
abbrev wk_UpV (l : Launch) (y : MethodName) (wsy : List Cond) (rm : Room) (D : va_G) (tys : List (ClassId × FieldType)) (av : List Value) (wc wc' : va_W) : Prop := ∀ sz : Nat, Met l y wsy rm (wk_UpP D tys av wc sz) (va_Qv (fun (_ : Unit) => True) (fun _ t => va_P D vwCl wc' t.heap) (va_A wc sz)) 0 0 (va_A wc sz)
theorem wk_blindR {D : va_G} {tys : List (ClassId × FieldType)} {av : List Value} {wc : va_W} : FrameBlind (wk_RdP D tys av wc) := fun a U g mk q => by
  obtain ⟨q0, qP, qK⟩ := q
  exact ⟨q0, qP, va_K.moved (u := U) (U := U.calling g mk a) (Vm.Alike.refl U.vm) qK⟩
theorem wk_blindU {D : va_G} {tys : List (ClassId × FieldType)} {av : List Value} {wc : va_W} {sz : Nat} : FrameBlind (wk_UpP D tys av wc sz) := fun a U g mk q => by
  obtain ⟨q0, q1, qP, qK, qD⟩ := q
  exact ⟨q0, q1, qP, va_K.moved (u := U) (U := U.calling g mk a) (Vm.Alike.refl U.vm) qK, qD⟩
/-- what a method's body starts from -/
def wk_St (pr : Program) (s : State) (m : MethodId) (args : Array Value) (meth : Method) (cd : Code) (cc : ByteArray) (maxL : Nat) (y : MethodName) (wsy : List Cond) : Prop :=
  pr.tables.exec = Jvm.exec ∧ cd.code = cc ∧ cd.maxLocals = maxL ∧ s.vm.findClass y.cls = some m.cls ∧ (∀ w ∈ wsy, w.before args s = true) ∧ meth.name = y.name
section WKE
variable {l : Launch} {y : MethodName} {wsy ws' : List Cond} {rm : Room} {D : va_G} {tys : List (ClassId × FieldType)} {av : List Value} {wc wc' : va_W} {cc : ByteArray} {maxL : Nat} {ret : Option FieldType}
theorem wk_enterR {Qc : Array Value → State → Outcome → State → Prop} (hy : plainName y.cls = true) (hw : wsy = Cond.code y cc maxL ret :: ws') (hsl : (lg_sl av).length ≤ maxL)
    (body : ∀ (pr : Program) (e : Env) (s : State) (m : MethodId) (below : List Frame) (meth : Method) (cd : Code) (ls : Array Slot), wk_St pr s m av.toArray meth cd cc maxL y wsy → meth.sig.returnType = ret → meth.locks = false → va_P D vwCl wc s.heap → va_K D vwCl tys s → lv_has ls maxL (lv_args 0 av) →
      W pr l e rm s m av.toArray below meth cd s.heap [] 0 0 (MQ below Qc av.toArray s 0 0 (fun _ => False)) (F0 m 0 ls [])) :
    Met l y wsy rm (wk_RdP D tys av wc) Qc 0 0 (fun _ => False) := by
  refine Met.ofW (cc := cc) (maxL := maxL) (ret := ret) hy hw ?_
  intro pr e s m args below meth cd s₁ B hml hv
  obtain ⟨rfl, hP, hK⟩ := hv
  have hl := lv_entry av (n := maxL) hsl
  rw [lg_entry_eq]
  exact body pr e s m below meth cd _ ⟨B.exec, B.bytes, hml, findClass_of_methodNamed B.named, atoms_spec (ws := wsy) B.pre, (name_of_methodNamed B.named B.method).1⟩ B.returns B.notSynchronized hP hK hl
theorem wk_enterU {sz : Nat} {Qc : (Nat → Prop) → Array Value → State → Outcome → State → Prop} (hy : plainName y.cls = true) (hw : wsy = Cond.code y cc maxL ret :: ws') (hsl : (lg_sl av).length ≤ maxL)
    (body : ∀ (A : Nat → Prop) (pr : Program) (e : Env) (s : State) (m : MethodId) (below : List Frame) (meth : Method) (cd : Code) (ls : Array Slot), wk_St pr s m av.toArray meth cd cc maxL y wsy → meth.sig.returnType = ret → meth.locks = false → va_P D vwCl wc s.heap → va_K D vwCl tys s → va_D A wc → va_S A s.heap s.heap [] → (∀ q : Nat, s.heap.size ≤ q → A q) → lv_has ls maxL (lv_args 0 av) →
      W pr l e rm s m av.toArray below meth cd s.heap [] 0 0 (MQ below (Qc A) av.toArray s 0 0 A) (F0 m 0 ls [])) :
    Met l y wsy rm (wk_UpP D tys av wc sz) (Qc (va_A wc sz)) 0 0 (va_A wc sz) := by
  refine Met.ofW (cc := cc) (maxL := maxL) (ret := ret) hy hw ?_
  intro pr e s m args below meth cd s₁ B hml hv
  obtain ⟨rfl, hsz, hP, hK, hD0⟩ := hv
  subst hsz
  have hl := lv_entry av (n := maxL) hsl
  rw [lg_entry_eq]
  exact body _ pr e s m below meth cd _ ⟨B.exec, B.bytes, hml, findClass_of_methodNamed B.named, atoms_spec (ws := wsy) B.pre, (name_of_methodNamed B.named B.method).1⟩ B.returns B.notSynchronized hP hK hD0.self va_S.rf (fun q h => Or.inr h) hl
/-- a reader of an int (or a boolean), from its entry; its ends are 'ret' -/
theorem wk_mkR {v : Int32} (hy : plainName y.cls = true) {rt : FieldType} (hw : wsy = Cond.code y cc maxL (some rt) :: ws') (hsl : (lg_sl av).length ≤ maxL) (hn : narrow rt (.int v) = .int v)
    (body : ∀ (pr : Program) (e : Env) (s : State) (m : MethodId) (args : Array Value) (below : List Frame) (meth : Method) (cd : Code) (ls : Array Slot) (H : Heap) (Q : State → Prop), wk_St pr s m args meth cd cc maxL y wsy → va_P D vwCl wc H → va_K D vwCl tys s → lv_has ls maxL (lv_args 0 av) →
      (∀ (pc : Nat) (ls : Array Slot) (w : Int32), w = v → decode cc pc = .ok (.ireturn, 1) → W pr l e rm s m args below meth cd H [] 0 0 Q (F0 m pc ls [.int w])) →
      W pr l e rm s m args below meth cd H [] 0 0 Q (F0 m 0 ls [])) : wk_RdI l y wsy rm D tys av wc v := by
  refine wk_enterR hy hw hsl ?_
  intro pr e s m below meth cd ls hst hr hlocks hP hK hl
  refine body pr e s m av.toArray below meth cd ls s.heap _ hst hP hK hl ?_
  intro pc ls w hwv hdg
  subst hwv
  exact W.zret hst.1 hst.2.1 hr hn (fun t ht _ => ⟨w, rfl, rfl, ht⟩) (fun _ h => by cases h) hdg hlocks
theorem wk_mkRl {v : Int64} (hy : plainName y.cls = true) (hw : wsy = Cond.code y cc maxL (some .long) :: ws') (hsl : (lg_sl av).length ≤ maxL)
    (body : ∀ (pr : Program) (e : Env) (s : State) (m : MethodId) (args : Array Value) (below : List Frame) (meth : Method) (cd : Code) (ls : Array Slot) (H : Heap) (Q : State → Prop), wk_St pr s m args meth cd cc maxL y wsy → va_P D vwCl wc H → va_K D vwCl tys s → lv_has ls maxL (lv_args 0 av) →
      (∀ (pc : Nat) (ls : Array Slot) (w : Int64), w = v → decode cc pc = .ok (.lreturn, 1) → W pr l e rm s m args below meth cd H [] 0 0 Q (F0 m pc ls [.long w])) →
      W pr l e rm s m args below meth cd H [] 0 0 Q (F0 m 0 ls [])) : wk_RdL l y wsy rm D tys av wc v := by
  refine wk_enterR hy hw hsl ?_
  intro pr e s m below meth cd ls hst hr hlocks hP hK hl
  refine body pr e s m av.toArray below meth cd ls s.heap _ hst hP hK hl ?_
  intro pc ls w hwv hdg
  subst hwv
  exact W.lret hst.1 hst.2.1 hr (fun t ht _ => ⟨w, rfl, rfl, ht⟩) (fun _ h => by cases h) hdg hlocks
/-- a writer that answers an int (or a boolean) -/
theorem wk_mkU {v : Int32} (hy : plainName y.cls = true) {rt : FieldType} (hw : wsy = Cond.code y cc maxL (some rt) :: ws') (hsl : (lg_sl av).length ≤ maxL) (hn : narrow rt (.int v) = .int v)
    (body : ∀ (A : Nat → Prop) (pr : Program) (e : Env) (s : State) (m : MethodId) (args : Array Value) (below : List Frame) (meth : Method) (cd : Code) (ls : Array Slot) (H H0 : Heap) (Q : State → Prop), wk_St pr s m args meth cd cc maxL y wsy → va_P D vwCl wc H → va_K D vwCl tys s → va_D A wc → va_S A H0 H [] → (∀ q : Nat, H0.size ≤ q → A q) → lv_has ls maxL (lv_args 0 av) →
      (∀ (pc : Nat) (ls : Array Slot) (H : Heap) (locs : List Loc) (w : Int32), w = v → va_P D vwCl wc' H → va_S A H0 H locs → decode cc pc = .ok (.ireturn, 1) → W pr l e rm s m args below meth cd H locs 0 0 Q (F0 m pc ls [.int w])) →
      W pr l e rm s m args below meth cd H [] 0 0 Q (F0 m 0 ls [])) : wk_UpI l y wsy rm D tys av wc wc' v := by
  intro sz
  refine wk_enterU (Qc := fun A => va_Qi (fun r (_ : Unit) => r = v) (fun _ t => va_P D vwCl wc' t.heap) A) hy hw hsl ?_
  intro A pr e s m below meth cd ls hst hr hlocks hP hK hD hS hA hl
  refine body A pr e s m av.toArray below meth cd ls s.heap s.heap _ hst hP hK hD hS hA hl ?_
  intro pc ls H locs w hwv hP hS hdg
  subst hwv
  exact W.zret hst.1 hst.2.1 hr hn (fun t ht _ => ⟨⟨w, (), rfl, rfl, by show va_P D vwCl wc' t.heap; rw [ht]; exact hP⟩, hS.F ht⟩) hS.2.2 hdg hlocks
theorem wk_mkV (hy : plainName y.cls = true) (hw : wsy = Cond.code y cc maxL none :: ws') (hsl : (lg_sl av).length ≤ maxL)
    (body : ∀ (A : Nat → Prop) (pr : Program) (e : Env) (s : State) (m : MethodId) (args : Array Value) (below : List Frame) (meth : Method) (cd : Code) (ls : Array Slot) (H H0 : Heap) (Q : State → Prop), wk_St pr s m args meth cd cc maxL y wsy → va_P D vwCl wc H → va_K D vwCl tys s → va_D A wc → va_S A H0 H [] → (∀ q : Nat, H0.size ≤ q → A q) → lv_has ls maxL (lv_args 0 av) →
      (∀ (pc : Nat) (ls : Array Slot) (H : Heap) (locs : List Loc), va_P D vwCl wc' H → va_S A H0 H locs → decode cc pc = .ok (.return_, 1) → W pr l e rm s m args below meth cd H locs 0 0 Q (F0 m pc ls [])) →
      W pr l e rm s m args below meth cd H [] 0 0 Q (F0 m 0 ls [])) : wk_UpV l y wsy rm D tys av wc wc' := by
  intro sz
  refine wk_enterU (Qc := fun A => va_Qv (fun (_ : Unit) => True) (fun _ t => va_P D vwCl wc' t.heap) A) hy hw hsl ?_
  intro A pr e s m below meth cd ls hst hr hlocks hP hK hD hS hA hl
  refine body A pr e s m av.toArray below meth cd ls s.heap s.heap _ hst hP hK hD hS hA hl ?_
  intro pc ls H locs hP hS hdg
  exact W.vret hst.1 hst.2.1 hr (fun t ht _ => ⟨⟨(), rfl, trivial, by show va_P D vwCl wc' t.heap; rw [ht]; exact hP⟩, hS.F ht⟩) hS.2.2 hdg hlocks
end WKE
theorem lv_re {ls : Array Slot} {n : Nat} {l l' : List (Nat × Value)} (h : lv_has ls n l) (e : l = l') : lv_has ls n l' := e ▸ h
theorem wk_narZ {c : Prop} [Decidable c] : narrow .boolean (.int (if c then 1 else 0)) = .int (if c then 1 else 0) := by split <;> decide
section WKR
variable {p : Program} {l : Launch} {e : Env} {R : Room} {s : State} {m : MethodId} {args : Array Value} {below : List Frame} {meth : Method} {c : Code} {H : Heap} {locs : List Loc} {cells slots : Nat} {Q : State → Prop}
variable {cc : ByteArray} {pc : Nat} {ls : Array Slot} {rest st0 : List Value} {D : va_G} {cl : List vw_C} {A : Nat → Prop} {a : Nat} {tys : List (ClassId × FieldType)} {ws : va_W} {H0 : Heap}
theorem wk_eqi {x y : Int32} (h : x = y) (k : W p l e R s m args below meth c H locs cells slots Q (F0 m pc ls (.int y :: rest))) : W p l e R s m args below meth c H locs cells slots Q (F0 m pc ls (.int x :: rest)) := by
  subst h
  exact k
/-- arrays, by a natural index -/
theorem wk_ald (hexec : p.tables.exec = Jvm.exec) (hb : c.code = cc) (hK : va_K D cl tys s) (hP : va_P D cl ws H) (q0 t0 : Nat) {cA : ClassId} {n : Nat} {f : Nat → Int32} (ha : ws[q0]? = some (a, .inl (cA, n, .inl f))) (ht : tys[t0]? = some (cA, .int)) (k : Nat) {i : Int32} (hi : i = nI k) (hk : k < n) (hn : n < 2 ^ 31) (hdg : decode cc pc = .ok (.iaload, 1))
    (kk : W p l e R s m args below meth c H locs cells slots Q (F0 m (pc + 1) ls (.int (f k) :: rest))) : W p l e R s m args below meth c H locs cells slots Q (F0 m pc ls (.int i :: .ref a :: rest)) := by
  subst hi
  refine va_iald hexec hb hK hP q0 t0 ha ht (vp_in_nI hk hn) hdg ?_
  rw [nI_clamp (Nat.lt_trans hk hn)]
  exact kk
theorem wk_ast (hexec : p.tables.exec = Jvm.exec) (hb : c.code = cc) (hK : va_K D cl tys s) (hP : va_P D cl ws H) (hD : va_D A ws) (hS : va_S A H0 H locs) (q0 t0 : Nat) {cA : ClassId} {n : Nat} {f : Nat → Int32} (ha : ws[q0]? = some (a, .inl (cA, n, .inl f))) (ht : tys[t0]? = some (cA, .int)) (k : Nat) {i : Int32} {x : Int32} (hi : i = nI k) (hk : k < n) (hn : n < 2 ^ 31) (hdg : decode cc pc = .ok (.iastore, 1)) {ws' : va_W} (hws : ws.set q0 (a, .inl (cA, n, .inl (upd f k x))) = ws')
    (kk : ∀ (H1 : Heap) (locs1 : List Loc), va_P D cl ws' H1 → va_D A ws' → va_S A H0 H1 locs1 → W p l e R s m args below meth c H1 locs1 cells slots Q (F0 m (pc + 1) ls rest)) : W p l e R s m args below meth c H locs cells slots Q (F0 m pc ls (.int x :: .int i :: .ref a :: rest)) := by
  subst hi
  subst hws
  refine va_iast hexec hb hK hP hD hS q0 t0 ha ht (vp_in_nI hk hn) hdg ?_
  rw [nI_clamp (Nat.lt_trans hk hn)]
  exact kk
theorem wk_aald (hexec : p.tables.exec = Jvm.exec) (hb : c.code = cc) (hK : va_K D cl tys s) (hP : va_P D cl ws H) (q0 t0 : Nat) {cA : ClassId} {ty : FieldType} (hrk : refKind ty = true) {n : Nat} {f : Nat → Option Nat} (ha : ws[q0]? = some (a, .inl (cA, n, .inr (.inr (.inr (.inr f)))))) (ht : tys[t0]? = some (cA, ty)) (k : Nat) {i : Int32} (hi : i = nI k) (hk : k < n) (hn : n < 2 ^ 31) {r : Nat} (hr : f k = some r) (hdg : decode cc pc = .ok (.aaload, 1))
    (kk : W p l e R s m args below meth c H locs cells slots Q (F0 m (pc + 1) ls (.ref r :: rest))) : W p l e R s m args below meth c H locs cells slots Q (F0 m pc ls (.int i :: .ref a :: rest)) := by
  subst hi
  have hc : (nI k).toNatClampNeg = k := nI_clamp (Nat.lt_trans hk hn)
  have hin : vp_in (nI k) n := vp_in_nI hk hn
  have hlt : (nI k).toNatClampNeg < n := by rw [hc]; exact hk
  refine W.aald (v := .ref r) (ty := ty) hexec hb (hP q0 _ ha) ((hK.2 t0 _ ht).1 n (fun j => va_rf (f j))) hrk (fun q => by cases q) (by show ¬ (nI k < 0 ∨ (arrV _ _ _).slots.size ≤ _); rw [arrV_size]; exact hin) (by show (arrV _ _ _).slots[_]? = _; rw [arrV_read _ _ hlt, hc, hr]; rfl) rfl rfl hdg kk
/-- branches on naturals -/
theorem wk_ge (hexec : p.tables.exec = Jvm.exec) (hb : c.code = cc) {x y : Int32} {off : Int} {tgt : Nat} (u v : Nat) (hxu : x = nI u) (hyv : y = nI v) (hu : u < 2 ^ 31) (hv : v < 2 ^ 31) (hdg : decode cc pc = .ok (.if_icmp .ge off, 3)) (ht : (pc : Int) + off = (tgt : Int))
    (kt : v ≤ u → W p l e R s m args below meth c H locs cells slots Q (F0 m tgt ls rest)) (kf : u < v → W p l e R s m args below meth c H locs cells slots Q (F0 m (pc + 3) ls rest)) : W p l e R s m args below meth c H locs cells slots Q (F0 m pc ls (.int y :: .int x :: rest)) := by
  subst hxu; subst hyv
  exact lv_icmp_ge hexec hb hdg ht (fun h => kt ((nI_leI hv hu).mp h)) (fun h => kf (Nat.lt_of_not_le (fun q => h ((nI_leI hv hu).mpr q))))
theorem wk_gt (hexec : p.tables.exec = Jvm.exec) (hb : c.code = cc) {x y : Int32} {off : Int} {tgt : Nat} (u v : Nat) (hxu : x = nI u) (hyv : y = nI v) (hu : u < 2 ^ 31) (hv : v < 2 ^ 31) (hdg : decode cc pc = .ok (.if_icmp .gt off, 3)) (ht : (pc : Int) + off = (tgt : Int))
    (kt : v < u → W p l e R s m args below meth c H locs cells slots Q (F0 m tgt ls rest)) (kf : u ≤ v → W p l e R s m args below meth c H locs cells slots Q (F0 m (pc + 3) ls rest)) : W p l e R s m args below meth c H locs cells slots Q (F0 m pc ls (.int y :: .int x :: rest)) := by
  subst hxu; subst hyv
  exact lv_icmp_gt hexec hb hdg ht (fun h => kt ((nI_ltI hv hu).mp h)) (fun h => kf (Nat.le_of_not_lt (fun q => h ((nI_ltI hv hu).mpr q))))
theorem wk_lt (hexec : p.tables.exec = Jvm.exec) (hb : c.code = cc) {x y : Int32} {off : Int} {tgt : Nat} (u v : Nat) (hxu : x = nI u) (hyv : y = nI v) (hu : u < 2 ^ 31) (hv : v < 2 ^ 31) (hdg : decode cc pc = .ok (.if_icmp .lt off, 3)) (ht : (pc : Int) + off = (tgt : Int))
    (kt : u < v → W p l e R s m args below meth c H locs cells slots Q (F0 m tgt ls rest)) (kf : v ≤ u → W p l e R s m args below meth c H locs cells slots Q (F0 m (pc + 3) ls rest)) : W p l e R s m args below meth c H locs cells slots Q (F0 m pc ls (.int y :: .int x :: rest)) := by
  subst hxu; subst hyv
  exact lv_icmp_lt hexec hb hdg ht (fun h => kt ((nI_ltI hu hv).mp h)) (fun h => kf (Nat.le_of_not_lt (fun q => h ((nI_ltI hu hv).mpr q))))
theorem wk_le (hexec : p.tables.exec = Jvm.exec) (hb : c.code = cc) {x y : Int32} {off : Int} {tgt : Nat} (u v : Nat) (hxu : x = nI u) (hyv : y = nI v) (hu : u < 2 ^ 31) (hv : v < 2 ^ 31) (hdg : decode cc pc = .ok (.if_icmp .le off, 3)) (ht : (pc : Int) + off = (tgt : Int))
    (kt : u ≤ v → W p l e R s m args below meth c H locs cells slots Q (F0 m tgt ls rest)) (kf : v < u → W p l e R s m args below meth c H locs cells slots Q (F0 m (pc + 3) ls rest)) : W p l e R s m args below meth c H locs cells slots Q (F0 m pc ls (.int y :: .int x :: rest)) := by
  subst hxu; subst hyv
  exact lv_icmp_le hexec hb hdg ht (fun h => kt ((nI_leI hu hv).mp h)) (fun h => kf (Nat.lt_of_not_le (fun q => h ((nI_leI hu hv).mpr q))))
theorem wk_eq (hexec : p.tables.exec = Jvm.exec) (hb : c.code = cc) {x y : Int32} {off : Int} {tgt : Nat} (u v : Nat) (hxu : x = nI u) (hyv : y = nI v) (hu : u < 2 ^ 31) (hv : v < 2 ^ 31) (hdg : decode cc pc = .ok (.if_icmp .eq off, 3)) (ht : (pc : Int) + off = (tgt : Int))
    (kt : u = v → W p l e R s m args below meth c H locs cells slots Q (F0 m tgt ls rest)) (kf : u ≠ v → W p l e R s m args below meth c H locs cells slots Q (F0 m (pc + 3) ls rest)) : W p l e R s m args below meth c H locs cells slots Q (F0 m pc ls (.int y :: .int x :: rest)) := by
  subst hxu; subst hyv
  exact lv_icmp_eq hexec hb hdg ht (fun h => kt ((nI_eq hu hv).mp h)) (fun h => kf (fun q => h ((nI_eq hu hv).mpr q)))
theorem wk_ne (hexec : p.tables.exec = Jvm.exec) (hb : c.code = cc) {x y : Int32} {off : Int} {tgt : Nat} (u v : Nat) (hxu : x = nI u) (hyv : y = nI v) (hu : u < 2 ^ 31) (hv : v < 2 ^ 31) (hdg : decode cc pc = .ok (.if_icmp .ne off, 3)) (ht : (pc : Int) + off = (tgt : Int))
    (kt : u ≠ v → W p l e R s m args below meth c H locs cells slots Q (F0 m tgt ls rest)) (kf : u = v → W p l e R s m args below meth c H locs cells slots Q (F0 m (pc + 3) ls rest)) : W p l e R s m args below meth c H locs cells slots Q (F0 m pc ls (.int y :: .int x :: rest)) := by
  subst hxu; subst hyv
  exact lv_icmp_ne hexec hb hdg ht (fun h => kt (fun q => h ((nI_eq hu hv).mpr q))) (fun h => kf ((nI_eq hu hv).mp h))
/-- branches on conditions -/
theorem wk_bz (hexec : p.tables.exec = Jvm.exec) (hb : c.code = cc) {k : Prop} [Decidable k] {off : Int} {tgt : Nat} (hdg : decode cc pc = .ok (.ifCond .eq off, 3)) (ht : (pc : Int) + off = (tgt : Int))
    (kt : ¬ k → W p l e R s m args below meth c H locs cells slots Q (F0 m tgt ls rest)) (kf : k → W p l e R s m args below meth c H locs cells slots Q (F0 m (pc + 3) ls rest)) : W p l e R s m args below meth c H locs cells slots Q (F0 m pc ls (.int (if k then 1 else 0) :: rest)) := by
  by_cases h : k
  · rw [if_pos h]
    exact lv_if_eq hexec hb hdg ht (fun q => absurd q (by decide)) (fun _ => kf h)
  · rw [if_neg h]
    exact lv_if_eq hexec hb hdg ht (fun _ => kt h) (fun q => absurd rfl q)
theorem wk_bnz (hexec : p.tables.exec = Jvm.exec) (hb : c.code = cc) {k : Prop} [Decidable k] {off : Int} {tgt : Nat} (hdg : decode cc pc = .ok (.ifCond .ne off, 3)) (ht : (pc : Int) + off = (tgt : Int))
    (kt : k → W p l e R s m args below meth c H locs cells slots Q (F0 m tgt ls rest)) (kf : ¬ k → W p l e R s m args below meth c H locs cells slots Q (F0 m (pc + 3) ls rest)) : W p l e R s m args below meth c H locs cells slots Q (F0 m pc ls (.int (if k then 1 else 0) :: rest)) := by
  by_cases h : k
  · rw [if_pos h]
    exact lv_if_ne hexec hb hdg ht (fun _ => kt h) (fun q => absurd q (by decide))
  · rw [if_neg h]
    exact lv_if_ne hexec hb hdg ht (fun q => absurd rfl q) (fun _ => kf h)
end WKR
section WKC
variable {p : Program} {l : Launch} {e : Env} {R : Room} {s : State} {m : MethodId} {args : Array Value} {below : List Frame} {meth : Method} {c : Code} {H : Heap} {locs : List Loc} {cells slots : Nat} {Q : State → Prop}
variable {cc bytes : ByteArray} {pc : Nat} {ls : Array Slot} {rest st0 As : List Value} {D : va_G} {A : Nat → Prop} {tys : List (ClassId × FieldType)} {ws ws' wc wc' : va_W} {H0 : Heap}
variable {y : MethodName} {nL maxL n index b q0 ci : Nat} {ret : Option FieldType} {wsy Ts : List Cond} {rm : Room} {own C : String} {T : u_T} {N : Nat} {fs : List Value} {v : Int32}
/-- calls of readers -/
theorem wk_callRV (S : CallFix p m c cc nL s args Ts own) (hM : wk_RdI l y wsy rm D tys (.ref b :: As) wc v) (cw : CallW R s args own C index y bytes maxL ret wsy rm 0 0 n) (hK : va_K D vwCl tys s) (hP : va_P D vwCl ws H) (isC : List Nat) (hC : isC.filterMap (fun i => ws[i]?) = wc) (q0 : Nat) (he : wc[q0]? = some (b, .inr (ci, fs))) (hc : vwCl[ci]? = some (C, T, N))
    (hn : As.length = n) (hsize : ls.size = nL) (hstack : st0 = As.reverse ++ .ref b :: rest) (hW : (rest.map fun v => v.category).sum ≤ 8) (hdg : decode cc pc = .ok (.invokevirtual index, 3)) (hcl : cells ≤ R.cells) (hsl : slots ≤ R.slots)
    (kk : W p l e R s m args below meth c H locs cells slots Q (F0 m (pc + 3) ls (.int v :: rest))) : W p l e R s m args below meth c H locs cells slots Q (F0 m pc ls st0) := by
  have hPc := hP.sub (ws' := wc) isC hC
  refine vp_callSi (W.runV (As := As) (rest := rest) (b := b) S hM cw ⟨wk_blindR, va_recv hK hPc hc he, fun U hU hW => ⟨rfl, by rw [hU]; exact hPc, va_K.moved hW.alike hK⟩⟩ rfl hn hsize hstack (lv_room hW) hdg ⟨hcl, hsl⟩) (fun r hr => ?_)
  subst hr
  exact kk
theorem wk_callRS (S : CallFix p m c cc nL s args Ts own) (hM : wk_RdI l y wsy rm D tys As wc v) (cw : CallB R s args own index y bytes maxL ret wsy rm 0 0 n ∧ (Cond.static y).before args s = true) (hK : va_K D vwCl tys s) (hP : va_P D vwCl ws H) (isC : List Nat) (hC : isC.filterMap (fun i => ws[i]?) = wc)
    (hn : As.length = n) (hsize : ls.size = nL) (hstack : st0 = As.reverse ++ rest) (hW : (rest.map fun v => v.category).sum ≤ 8) (hdg : decode cc pc = .ok (.invokestatic index, 3)) (hcl : cells ≤ R.cells) (hsl : slots ≤ R.slots)
    (kk : W p l e R s m args below meth c H locs cells slots Q (F0 m (pc + 3) ls (.int v :: rest))) : W p l e R s m args below meth c H locs cells slots Q (F0 m pc ls st0) := by
  have hPc := hP.sub (ws' := wc) isC hC
  refine vp_callSi (W.runS (As := As) (rest := rest) S hM cw ⟨wk_blindR, fun U hU hW => ⟨rfl, by rw [hU]; exact hPc, va_K.moved hW.alike hK⟩⟩ rfl hn hsize hstack (lv_room hW) hdg ⟨hcl, hsl⟩) (fun r hr => ?_)
  subst hr
  exact kk
/-- calls of writers -/
theorem wk_callUV (S : CallFix p m c cc nL s args Ts own) (hM : wk_UpI l y wsy rm D tys (.ref b :: As) wc wc' v) (cw : CallW R s args own C index y bytes maxL ret wsy rm 0 0 n) (hK : va_K D vwCl tys s) (hP : va_P D vwCl ws H) (hD : va_D A ws) (hS : va_S A H0 H locs) (hA : ∀ q : Nat, H0.size ≤ q → A q) (isC : List Nat) (hC : isC.map (fun i => ws[i]?) = wc.map some) (hnd : va_nd isC = true) (hf : wc'.map (fun q => q.1) = wc.map (fun q => q.1)) (hws : wk_setL ws isC wc' = ws') (q0 : Nat) (he : wc[q0]? = some (b, .inr (ci, fs))) (hc : vwCl[ci]? = some (C, T, N))
    (hn : As.length = n) (hsize : ls.size = nL) (hstack : st0 = As.reverse ++ .ref b :: rest) (hW : (rest.map fun v => v.category).sum ≤ 8) (hdg : decode cc pc = .ok (.invokevirtual index, 3)) (hcl : cells ≤ R.cells) (hsl : slots ≤ R.slots)
    (kk : ∀ (H1 : Heap) (locs1 : List Loc), va_P D vwCl ws' H1 → va_D A ws' → va_S A H0 H1 locs1 → W p l e R s m args below meth c H1 locs1 cells slots Q (F0 m (pc + 3) ls (.int v :: rest))) : W p l e R s m args below meth c H locs cells slots Q (F0 m pc ls st0) := by
  have hDc := hD.sub (ws' := wc) isC hnd hC
  have hPc : va_P D vwCl wc H := fun k q hq => by
    obtain ⟨i, -, h2⟩ := wk_map_at' hC hq
    exact hP i q h2
  have hFc := va_free (wc := wc) hD hS hA isC hC
  refine va_calli (va_runV (As := As) (rest := rest) (b := b) S (hM H.size) cw ⟨wk_blindU, va_recv hK hPc hc he, fun U hU hW => ⟨rfl, by rw [hU], by rw [hU]; exact hPc, va_K.moved hW.alike hK, hDc.weaken (fun _ _ _ _ => trivial)⟩⟩ rfl hn hsize hstack (lv_room hW) hdg ⟨hcl, hsl⟩) hS (fun q _ h => hFc q h) hFc (fun r u t H1 locs1 ht hvm hw hB hz1 hk1 hS1 => ?_)
  rw [ht] at hB
  obtain ⟨hP1, hD1⟩ := wk_join hP hD isC hC hnd hf hk1 hB
  rw [hws] at hP1 hD1
  subst hw
  exact kk H1 locs1 hP1 hD1 hS1
theorem wk_callVV (S : CallFix p m c cc nL s args Ts own) (hM : wk_UpV l y wsy rm D tys (.ref b :: As) wc wc') (cw : CallW R s args own C index y bytes maxL ret wsy rm 0 0 n) (hK : va_K D vwCl tys s) (hP : va_P D vwCl ws H) (hD : va_D A ws) (hS : va_S A H0 H locs) (hA : ∀ q : Nat, H0.size ≤ q → A q) (isC : List Nat) (hC : isC.map (fun i => ws[i]?) = wc.map some) (hnd : va_nd isC = true) (hf : wc'.map (fun q => q.1) = wc.map (fun q => q.1)) (hws : wk_setL ws isC wc' = ws') (q0 : Nat) (he : wc[q0]? = some (b, .inr (ci, fs))) (hc : vwCl[ci]? = some (C, T, N))
    (hn : As.length = n) (hsize : ls.size = nL) (hstack : st0 = As.reverse ++ .ref b :: rest) (hW : (rest.map fun v => v.category).sum ≤ 8) (hdg : decode cc pc = .ok (.invokevirtual index, 3)) (hcl : cells ≤ R.cells) (hsl : slots ≤ R.slots)
    (kk : ∀ (H1 : Heap) (locs1 : List Loc), va_P D vwCl ws' H1 → va_D A ws' → va_S A H0 H1 locs1 → W p l e R s m args below meth c H1 locs1 cells slots Q (F0 m (pc + 3) ls rest)) : W p l e R s m args below meth c H locs cells slots Q (F0 m pc ls st0) := by
  have hDc := hD.sub (ws' := wc) isC hnd hC
  have hPc : va_P D vwCl wc H := fun k q hq => by
    obtain ⟨i, -, h2⟩ := wk_map_at' hC hq
    exact hP i q h2
  have hFc := va_free (wc := wc) hD hS hA isC hC
  refine va_callv (va_runV (As := As) (rest := rest) (b := b) S (hM H.size) cw ⟨wk_blindU, va_recv hK hPc hc he, fun U hU hW => ⟨rfl, by rw [hU], by rw [hU]; exact hPc, va_K.moved hW.alike hK, hDc.weaken (fun _ _ _ _ => trivial)⟩⟩ rfl hn hsize hstack (lv_room hW) hdg ⟨hcl, hsl⟩) hS (fun q _ h => hFc q h) hFc (fun u t H1 locs1 ht hvm hw hB hz1 hk1 hS1 => ?_)
  rw [ht] at hB
  obtain ⟨hP1, hD1⟩ := wk_join hP hD isC hC hnd hf hk1 hB
  rw [hws] at hP1 hD1
  exact kk H1 locs1 hP1 hD1 hS1
end WKC
end
section
/-! ===== the states: a record is a function from row numbers to rows; a group of cells holds a record at addresses a 0, a 1 .. ===== -/
abbrev wRec : Type := Nat → Nat → Int32
abbrev tysL (c : Nat → ClassId) : List (ClassId × FieldType) := [(c 0, .int), (c 1, .object RX0), (c 2, .array .int)]
abbrev affW (c : Nat → ClassId) (a : Nat → Nat) (σ : wRec) : va_W := [(a 0, .inr (0, [.int (σ 0 0), .int (σ 1 0), .int (σ 2 0), .int (σ 3 0), .ref (a 4), .ref (a 5), .ref (a 6), .ref (a 7), .ref (a 8), .ref (a 9), .ref (a 10)])), (a 4, .inl (c 0, 6, .inl (σ 4))), (a 5, .inl (c 0, 6, .inl (σ 5))), (a 6, .inl (c 0, 6, .inl (σ 6))), (a 7, .inl (c 0, 6, .inl (σ 7))), (a 8, .inl (c 0, 6, .inl (σ 8))), (a 9, .inl (c 0, 6, .inl (σ 9))), (a 10, .inl (c 0, 6, .inl (σ 10)))]
abbrev pageW (c : Nat → ClassId) (p : Nat → Nat) (π : wRec) : va_W := [(p 0, .inr (5, [.int (π 0 0), .int (π 1 0), .ref (p 2), .ref (p 3), .ref (p 4)])), (p 2, .inl (c 0, 6, .inl (π 2))), (p 3, .inl (c 0, 6, .inl (π 3))), (p 4, .inl (c 2, 6, .inr (.inr (.inr (.inr (fun i => some (p (5 + i)))))))), (p (5 + 0), .inl (c 0, 5, .inl (π (5 + 0)))), (p (5 + 1), .inl (c 0, 5, .inl (π (5 + 1)))), (p (5 + 2), .inl (c 0, 5, .inl (π (5 + 2)))), (p (5 + 3), .inl (c 0, 5, .inl (π (5 + 3)))), (p (5 + 4), .inl (c 0, 5, .inl (π (5 + 4)))), (p (5 + 5), .inl (c 0, 5, .inl (π (5 + 5))))]
abbrev textW (c : Nat → ClassId) (t : Nat → Nat) (τ : wRec) : va_W := [(t 0, .inr (6, [.ref (t 1), .int (τ 1 0), .int (τ 2 0), .int (τ 3 0), .int (τ 4 0), .int (τ 5 0), .int (τ 6 0)])), (t 1, .inl (c 0, 200, .inl (τ 0)))]
abbrev findW (c : Nat → ClassId) (f : Nat → Nat) (φ : wRec) : va_W := [(f 0, .inr (3, [.int (φ 0 0), .ref (f 1), .ref (f 2), .ref (f 3)])), (f 1, .inl (c 0, 5, .inl (φ 1))), (f 2, .inl (c 0, 5, .inl (φ 2))), (f 3, .inl (c 0, 5, .inl (φ 3)))]
abbrev courseW (_ : Nat → ClassId) (o : Nat → Nat) (κ : wRec) : va_W := [(o 0, .inr (2, [.int (κ 0 0), .int (κ 1 0)]))]
abbrev lwW (x : Nat) (t p sp a b h g f o : Nat → Nat) (k : Int64) : va_W := [(x, .inr (7, [.ref (t 0), .ref (p 0), .ref (sp 0), .ref (a 0), .ref (b 0), .ref (h 0), .ref (g 0), .ref (f 0), .ref (o 0), .long k]))]
abbrev modelW (c : Nat → ClassId) (n : Nat → Nat) (μ : wRec) (r : Int64) : va_W := [(n 0, .inr (8, [.ref (n 100), .int (μ 1 0), .int (μ 2 0), .int (μ 3 0), .int (μ 4 0), .int (μ 5 0), .ref (n 6), .ref (n 7), .ref (n 8), .ref (n 9), .int (μ 10 0), .int (μ 11 0), .ref (n 12), .int (μ 13 0), .int (μ 14 0), .ref (n 15), .long r, .ref (n 17)])), (n 100, .inl (c 0, 200, .inl (μ 0))), (n 6, .inl (c 0, 45, .inl (μ 6))), (n 7, .inl (c 0, 45, .inl (μ 7))), (n 8, .inl (c 0, 46, .inl (μ 8))), (n 9, .inl (c 0, 460, .inl (μ 9))), (n 12, .inl (c 0, 46, .inl (μ 12))), (n 15, .inl (c 0, 15, .inl (μ 15))), (n 17, .inl (c 0, 94, .inl (μ 17)))]
theorem wk_lset {ls : Array Slot} {n i : Nat} {x y : Int32} {l : List (Nat × Value)} (h : lv_has ls n ((i, .int x) :: l)) (e : x = y) : lv_has ls n ((i, .int y) :: l) := e ▸ h
theorem nI_inc (a n : Nat) : nI a + Int32.ofInt (n : Int) = nI (a + n) := by
  rw [← nI_add]
  congr 1
def setN (π : wRec) (x s : Nat) (v : Int32) : wRec := fun k => if k = 5 + x then upd (π k) s v else π k
theorem pageW_row {c : Nat → ClassId} {p : Nat → Nat} {π : wRec} {x o : Nat} {a b ws : va_W} (hx : x < 6) (hw : a ++ pageW c p π ++ b = ws) (ho : a.length + 4 = o) : ws[o + x]? = some (p (5 + x), .inl (c 0, 5, .inl (π (5 + x)))) := by
  subst hw
  subst ho
  rw [List.append_assoc, List.getElem?_append_right (by omega), show a.length + 4 + x - a.length = 4 + x by omega]
  rcases (show x = 0 ∨ x = 1 ∨ x = 2 ∨ x = 3 ∨ x = 4 ∨ x = 5 by omega) with rfl | rfl | rfl | rfl | rfl | rfl <;> rfl
theorem wk_set_app (l : va_W) (k : Nat) (y : Nat × va_E) : ∀ a : va_W, (a ++ l).set (a.length + k) y = a ++ l.set k y
  | [] => by
    show l.set (0 + k) y = l.set k y
    rw [Nat.zero_add]
  | x :: a => by
    show (x :: (a ++ l)).set (a.length + 1 + k) y = x :: (a ++ l.set k y)
    rw [show a.length + 1 + k = (a.length + k) + 1 by omega, List.set_cons_succ, wk_set_app l k y a]
theorem pageW_set {c : Nat → ClassId} {p : Nat → Nat} {π : wRec} {x o s : Nat} {v : Int32} {a b ws ws' : va_W} (hx : x < 6) (hw : a ++ pageW c p π ++ b = ws) (ho : a.length + 4 = o) (hw' : a ++ pageW c p (setN π x s v) ++ b = ws') : ws.set (o + x) (p (5 + x), .inl (c 0, 5, .inl (upd (π (5 + x)) s v))) = ws' := by
  subst hw
  subst hw'
  subst ho
  rw [List.append_assoc, List.append_assoc, Nat.add_assoc, wk_set_app]
  congr 1
  rcases (show x = 0 ∨ x = 1 ∨ x = 2 ∨ x = 3 ∨ x = 4 ∨ x = 5 by omega) with rfl | rfl | rfl | rfl | rfl | rfl <;> rfl
theorem wk_fitZ {v : Int32} (h : narrow .boolean (.int v) = .int v) : fits .boolean (.int v) = true := by
  rw [← h]
  simp only [narrow, fits]
  obtain ⟨j, hj, e⟩ := pk_andE v (m := 1) 1 (by decide)
  rw [e]
  rcases (show j = 0 ∨ j = 1 by omega) with rfl | rfl <;> decide
section WKF
variable {pr : Program} {l : Launch} {e : Env} {R : Room} {s : State} {m : MethodId} {args : Array Value} {below : List Frame} {meth : Method} {cd : Code} {H : Heap} {locs : List Loc} {cells slots : Nat} {Q : State → Prop}
variable {cc : ByteArray} {pc : Nat} {ls : Array Slot} {rest : List Value} {D : va_G} {A : Nat → Prop} {a : Nat} {tys : List (ClassId × FieldType)} {ws ws' : va_W} {H0 : Heap} {own : String} {index : Nat} {Ts : List Cond} {fs : List Value}
theorem wg_X0_0 (hx : pr.tables.exec = Jvm.exec) (hb : cd.code = cc) (hts : ∀ w ∈ Ts, w.before args s = true) (hin : ∀ w ∈ u_ws RX0 TX0 11, w ∈ Ts) (hown : s.vm.findClass own = some m.cls) (hK : va_K D vwCl tys s) (hP : va_P D vwCl ws H) (q0 : Nat) (he : ws[q0]? = some (a, .inr (0, fs))) (hlink : (Cond.fieldLink own index "LastWord$Affairs" "today" "I").before args s = true) {v : Value} (hv : fs[0]? = some v) (hdg : decode cc pc = .ok (.getfield index, 3))
    (kk : W pr l e R s m args below meth cd H locs cells slots Q (F0 m (pc + 3) ls (v :: rest))) : W pr l e R s m args below meth cd H locs cells slots Q (F0 m pc ls (.ref a :: rest)) :=
  va_get (D := D) (ci := 0) (C := RX0) (T := TX0) (N := 11) hx hb hts hin hown hK hP q0 he rfl 0 (by decide) hlink (fun _ h => h) hv hdg kk
theorem wp_X0_0 (hx : pr.tables.exec = Jvm.exec) (hb : cd.code = cc) (hts : ∀ w ∈ Ts, w.before args s = true) (hin : ∀ w ∈ u_ws RX0 TX0 11, w ∈ Ts) (hown : s.vm.findClass own = some m.cls) (hK : va_K D vwCl tys s) (hP : va_P D vwCl ws H) (hD : va_D A ws) (hS : va_S A H0 H locs) (q0 : Nat) (he : ws[q0]? = some (a, .inr (0, fs))) (hlink : (Cond.fieldLink own index "LastWord$Affairs" "today" "I").before args s = true) (hl : 0 < fs.length) {v : Int32} (hdg : decode cc pc = .ok (.putfield index, 3)) (hws : ws.set q0 (a, .inr (0, fs.set 0 (.int v))) = ws')
    (kk : ∀ (H1 : Heap) (locs1 : List Loc), va_P D vwCl ws' H1 → va_D A ws' → va_S A H0 H1 locs1 → W pr l e R s m args below meth cd H1 locs1 cells slots Q (F0 m (pc + 3) ls rest)) : W pr l e R s m args below meth cd H locs cells slots Q (F0 m pc ls (.int v :: .ref a :: rest)) := by
  subst hws
  exact va_put (D := D) (ci := 0) (v := .int v) (ty := .int) (C := RX0) (T := TX0) (N := 11) hx hb hts hin tyX0 tyX0_ok nmX0 hown hK hP hD hS q0 he rfl 0 (by decide) hlink (fun _ h => h) rfl (by decide +kernel) rfl (rfl) hl hdg kk
theorem wg_X0_1 (hx : pr.tables.exec = Jvm.exec) (hb : cd.code = cc) (hts : ∀ w ∈ Ts, w.before args s = true) (hin : ∀ w ∈ u_ws RX0 TX0 11, w ∈ Ts) (hown : s.vm.findClass own = some m.cls) (hK : va_K D vwCl tys s) (hP : va_P D vwCl ws H) (q0 : Nat) (he : ws[q0]? = some (a, .inr (0, fs))) (hlink : (Cond.fieldLink own index "LastWord$Affairs" "letters" "I").before args s = true) {v : Value} (hv : fs[1]? = some v) (hdg : decode cc pc = .ok (.getfield index, 3))
    (kk : W pr l e R s m args below meth cd H locs cells slots Q (F0 m (pc + 3) ls (v :: rest))) : W pr l e R s m args below meth cd H locs cells slots Q (F0 m pc ls (.ref a :: rest)) :=
  va_get (D := D) (ci := 0) (C := RX0) (T := TX0) (N := 11) hx hb hts hin hown hK hP q0 he rfl 1 (by decide) hlink (fun _ h => h) hv hdg kk
theorem wp_X0_1 (hx : pr.tables.exec = Jvm.exec) (hb : cd.code = cc) (hts : ∀ w ∈ Ts, w.before args s = true) (hin : ∀ w ∈ u_ws RX0 TX0 11, w ∈ Ts) (hown : s.vm.findClass own = some m.cls) (hK : va_K D vwCl tys s) (hP : va_P D vwCl ws H) (hD : va_D A ws) (hS : va_S A H0 H locs) (q0 : Nat) (he : ws[q0]? = some (a, .inr (0, fs))) (hlink : (Cond.fieldLink own index "LastWord$Affairs" "letters" "I").before args s = true) (hl : 1 < fs.length) {v : Int32} (hdg : decode cc pc = .ok (.putfield index, 3)) (hws : ws.set q0 (a, .inr (0, fs.set 1 (.int v))) = ws')
    (kk : ∀ (H1 : Heap) (locs1 : List Loc), va_P D vwCl ws' H1 → va_D A ws' → va_S A H0 H1 locs1 → W pr l e R s m args below meth cd H1 locs1 cells slots Q (F0 m (pc + 3) ls rest)) : W pr l e R s m args below meth cd H locs cells slots Q (F0 m pc ls (.int v :: .ref a :: rest)) := by
  subst hws
  exact va_put (D := D) (ci := 0) (v := .int v) (ty := .int) (C := RX0) (T := TX0) (N := 11) hx hb hts hin tyX0 tyX0_ok nmX0 hown hK hP hD hS q0 he rfl 1 (by decide) hlink (fun _ h => h) rfl (by decide +kernel) rfl (rfl) hl hdg kk
theorem wg_X0_2 (hx : pr.tables.exec = Jvm.exec) (hb : cd.code = cc) (hts : ∀ w ∈ Ts, w.before args s = true) (hin : ∀ w ∈ u_ws RX0 TX0 11, w ∈ Ts) (hown : s.vm.findClass own = some m.cls) (hK : va_K D vwCl tys s) (hP : va_P D vwCl ws H) (q0 : Nat) (he : ws[q0]? = some (a, .inr (0, fs))) (hlink : (Cond.fieldLink own index "LastWord$Affairs" "quarrels" "I").before args s = true) {v : Value} (hv : fs[2]? = some v) (hdg : decode cc pc = .ok (.getfield index, 3))
    (kk : W pr l e R s m args below meth cd H locs cells slots Q (F0 m (pc + 3) ls (v :: rest))) : W pr l e R s m args below meth cd H locs cells slots Q (F0 m pc ls (.ref a :: rest)) :=
  va_get (D := D) (ci := 0) (C := RX0) (T := TX0) (N := 11) hx hb hts hin hown hK hP q0 he rfl 2 (by decide) hlink (fun _ h => h) hv hdg kk
theorem wp_X0_2 (hx : pr.tables.exec = Jvm.exec) (hb : cd.code = cc) (hts : ∀ w ∈ Ts, w.before args s = true) (hin : ∀ w ∈ u_ws RX0 TX0 11, w ∈ Ts) (hown : s.vm.findClass own = some m.cls) (hK : va_K D vwCl tys s) (hP : va_P D vwCl ws H) (hD : va_D A ws) (hS : va_S A H0 H locs) (q0 : Nat) (he : ws[q0]? = some (a, .inr (0, fs))) (hlink : (Cond.fieldLink own index "LastWord$Affairs" "quarrels" "I").before args s = true) (hl : 2 < fs.length) {v : Int32} (hdg : decode cc pc = .ok (.putfield index, 3)) (hws : ws.set q0 (a, .inr (0, fs.set 2 (.int v))) = ws')
    (kk : ∀ (H1 : Heap) (locs1 : List Loc), va_P D vwCl ws' H1 → va_D A ws' → va_S A H0 H1 locs1 → W pr l e R s m args below meth cd H1 locs1 cells slots Q (F0 m (pc + 3) ls rest)) : W pr l e R s m args below meth cd H locs cells slots Q (F0 m pc ls (.int v :: .ref a :: rest)) := by
  subst hws
  exact va_put (D := D) (ci := 0) (v := .int v) (ty := .int) (C := RX0) (T := TX0) (N := 11) hx hb hts hin tyX0 tyX0_ok nmX0 hown hK hP hD hS q0 he rfl 2 (by decide) hlink (fun _ h => h) rfl (by decide +kernel) rfl (rfl) hl hdg kk
theorem wg_X0_3 (hx : pr.tables.exec = Jvm.exec) (hb : cd.code = cc) (hts : ∀ w ∈ Ts, w.before args s = true) (hin : ∀ w ∈ u_ws RX0 TX0 11, w ∈ Ts) (hown : s.vm.findClass own = some m.cls) (hK : va_K D vwCl tys s) (hP : va_P D vwCl ws H) (q0 : Nat) (he : ws[q0]? = some (a, .inr (0, fs))) (hlink : (Cond.fieldLink own index "LastWord$Affairs" "laid" "I").before args s = true) {v : Value} (hv : fs[3]? = some v) (hdg : decode cc pc = .ok (.getfield index, 3))
    (kk : W pr l e R s m args below meth cd H locs cells slots Q (F0 m (pc + 3) ls (v :: rest))) : W pr l e R s m args below meth cd H locs cells slots Q (F0 m pc ls (.ref a :: rest)) :=
  va_get (D := D) (ci := 0) (C := RX0) (T := TX0) (N := 11) hx hb hts hin hown hK hP q0 he rfl 3 (by decide) hlink (fun _ h => h) hv hdg kk
theorem wp_X0_3 (hx : pr.tables.exec = Jvm.exec) (hb : cd.code = cc) (hts : ∀ w ∈ Ts, w.before args s = true) (hin : ∀ w ∈ u_ws RX0 TX0 11, w ∈ Ts) (hown : s.vm.findClass own = some m.cls) (hK : va_K D vwCl tys s) (hP : va_P D vwCl ws H) (hD : va_D A ws) (hS : va_S A H0 H locs) (q0 : Nat) (he : ws[q0]? = some (a, .inr (0, fs))) (hlink : (Cond.fieldLink own index "LastWord$Affairs" "laid" "I").before args s = true) (hl : 3 < fs.length) {v : Int32} (hdg : decode cc pc = .ok (.putfield index, 3)) (hws : ws.set q0 (a, .inr (0, fs.set 3 (.int v))) = ws')
    (kk : ∀ (H1 : Heap) (locs1 : List Loc), va_P D vwCl ws' H1 → va_D A ws' → va_S A H0 H1 locs1 → W pr l e R s m args below meth cd H1 locs1 cells slots Q (F0 m (pc + 3) ls rest)) : W pr l e R s m args below meth cd H locs cells slots Q (F0 m pc ls (.int v :: .ref a :: rest)) := by
  subst hws
  exact va_put (D := D) (ci := 0) (v := .int v) (ty := .int) (C := RX0) (T := TX0) (N := 11) hx hb hts hin tyX0 tyX0_ok nmX0 hown hK hP hD hS q0 he rfl 3 (by decide) hlink (fun _ h => h) rfl (by decide +kernel) rfl (rfl) hl hdg kk
theorem wg_X0_4 (hx : pr.tables.exec = Jvm.exec) (hb : cd.code = cc) (hts : ∀ w ∈ Ts, w.before args s = true) (hin : ∀ w ∈ u_ws RX0 TX0 11, w ∈ Ts) (hown : s.vm.findClass own = some m.cls) (hK : va_K D vwCl tys s) (hP : va_P D vwCl ws H) (q0 : Nat) (he : ws[q0]? = some (a, .inr (0, fs))) (hlink : (Cond.fieldLink own index "LastWord$Affairs" "lateTimes" "[I").before args s = true) {v : Value} (hv : fs[4]? = some v) (hdg : decode cc pc = .ok (.getfield index, 3))
    (kk : W pr l e R s m args below meth cd H locs cells slots Q (F0 m (pc + 3) ls (v :: rest))) : W pr l e R s m args below meth cd H locs cells slots Q (F0 m pc ls (.ref a :: rest)) :=
  va_get (D := D) (ci := 0) (C := RX0) (T := TX0) (N := 11) hx hb hts hin hown hK hP q0 he rfl 4 (by decide) hlink (fun _ h => h) hv hdg kk
theorem wg_X0_5 (hx : pr.tables.exec = Jvm.exec) (hb : cd.code = cc) (hts : ∀ w ∈ Ts, w.before args s = true) (hin : ∀ w ∈ u_ws RX0 TX0 11, w ∈ Ts) (hown : s.vm.findClass own = some m.cls) (hK : va_K D vwCl tys s) (hP : va_P D vwCl ws H) (q0 : Nat) (he : ws[q0]? = some (a, .inr (0, fs))) (hlink : (Cond.fieldLink own index "LastWord$Affairs" "author" "[I").before args s = true) {v : Value} (hv : fs[5]? = some v) (hdg : decode cc pc = .ok (.getfield index, 3))
    (kk : W pr l e R s m args below meth cd H locs cells slots Q (F0 m (pc + 3) ls (v :: rest))) : W pr l e R s m args below meth cd H locs cells slots Q (F0 m pc ls (.ref a :: rest)) :=
  va_get (D := D) (ci := 0) (C := RX0) (T := TX0) (N := 11) hx hb hts hin hown hK hP q0 he rfl 5 (by decide) hlink (fun _ h => h) hv hdg kk
theorem wg_X0_6 (hx : pr.tables.exec = Jvm.exec) (hb : cd.code = cc) (hts : ∀ w ∈ Ts, w.before args s = true) (hin : ∀ w ∈ u_ws RX0 TX0 11, w ∈ Ts) (hown : s.vm.findClass own = some m.cls) (hK : va_K D vwCl tys s) (hP : va_P D vwCl ws H) (q0 : Nat) (he : ws[q0]? = some (a, .inr (0, fs))) (hlink : (Cond.fieldLink own index "LastWord$Affairs" "subject" "[I").before args s = true) {v : Value} (hv : fs[6]? = some v) (hdg : decode cc pc = .ok (.getfield index, 3))
    (kk : W pr l e R s m args below meth cd H locs cells slots Q (F0 m (pc + 3) ls (v :: rest))) : W pr l e R s m args below meth cd H locs cells slots Q (F0 m pc ls (.ref a :: rest)) :=
  va_get (D := D) (ci := 0) (C := RX0) (T := TX0) (N := 11) hx hb hts hin hown hK hP q0 he rfl 6 (by decide) hlink (fun _ h => h) hv hdg kk
theorem wg_X0_7 (hx : pr.tables.exec = Jvm.exec) (hb : cd.code = cc) (hts : ∀ w ∈ Ts, w.before args s = true) (hin : ∀ w ∈ u_ws RX0 TX0 11, w ∈ Ts) (hown : s.vm.findClass own = some m.cls) (hK : va_K D vwCl tys s) (hP : va_P D vwCl ws H) (q0 : Nat) (he : ws[q0]? = some (a, .inr (0, fs))) (hlink : (Cond.fieldLink own index "LastWord$Affairs" "printedOn" "[I").before args s = true) {v : Value} (hv : fs[7]? = some v) (hdg : decode cc pc = .ok (.getfield index, 3))
    (kk : W pr l e R s m args below meth cd H locs cells slots Q (F0 m (pc + 3) ls (v :: rest))) : W pr l e R s m args below meth cd H locs cells slots Q (F0 m pc ls (.ref a :: rest)) :=
  va_get (D := D) (ci := 0) (C := RX0) (T := TX0) (N := 11) hx hb hts hin hown hK hP q0 he rfl 7 (by decide) hlink (fun _ h => h) hv hdg kk
theorem wg_X0_8 (hx : pr.tables.exec = Jvm.exec) (hb : cd.code = cc) (hts : ∀ w ∈ Ts, w.before args s = true) (hin : ∀ w ∈ u_ws RX0 TX0 11, w ∈ Ts) (hown : s.vm.findClass own = some m.cls) (hK : va_K D vwCl tys s) (hP : va_P D vwCl ws H) (q0 : Nat) (he : ws[q0]? = some (a, .inr (0, fs))) (hlink : (Cond.fieldLink own index "LastWord$Affairs" "owes" "[I").before args s = true) {v : Value} (hv : fs[8]? = some v) (hdg : decode cc pc = .ok (.getfield index, 3))
    (kk : W pr l e R s m args below meth cd H locs cells slots Q (F0 m (pc + 3) ls (v :: rest))) : W pr l e R s m args below meth cd H locs cells slots Q (F0 m pc ls (.ref a :: rest)) :=
  va_get (D := D) (ci := 0) (C := RX0) (T := TX0) (N := 11) hx hb hts hin hown hK hP q0 he rfl 8 (by decide) hlink (fun _ h => h) hv hdg kk
theorem wg_X0_9 (hx : pr.tables.exec = Jvm.exec) (hb : cd.code = cc) (hts : ∀ w ∈ Ts, w.before args s = true) (hin : ∀ w ∈ u_ws RX0 TX0 11, w ∈ Ts) (hown : s.vm.findClass own = some m.cls) (hK : va_K D vwCl tys s) (hP : va_P D vwCl ws H) (q0 : Nat) (he : ws[q0]? = some (a, .inr (0, fs))) (hlink : (Cond.fieldLink own index "LastWord$Affairs" "work" "[I").before args s = true) {v : Value} (hv : fs[9]? = some v) (hdg : decode cc pc = .ok (.getfield index, 3))
    (kk : W pr l e R s m args below meth cd H locs cells slots Q (F0 m (pc + 3) ls (v :: rest))) : W pr l e R s m args below meth cd H locs cells slots Q (F0 m pc ls (.ref a :: rest)) :=
  va_get (D := D) (ci := 0) (C := RX0) (T := TX0) (N := 11) hx hb hts hin hown hK hP q0 he rfl 9 (by decide) hlink (fun _ h => h) hv hdg kk
theorem wg_X0_10 (hx : pr.tables.exec = Jvm.exec) (hb : cd.code = cc) (hts : ∀ w ∈ Ts, w.before args s = true) (hin : ∀ w ∈ u_ws RX0 TX0 11, w ∈ Ts) (hown : s.vm.findClass own = some m.cls) (hK : va_K D vwCl tys s) (hP : va_P D vwCl ws H) (q0 : Nat) (he : ws[q0]? = some (a, .inr (0, fs))) (hlink : (Cond.fieldLink own index "LastWord$Affairs" "late" "[I").before args s = true) {v : Value} (hv : fs[10]? = some v) (hdg : decode cc pc = .ok (.getfield index, 3))
    (kk : W pr l e R s m args below meth cd H locs cells slots Q (F0 m (pc + 3) ls (v :: rest))) : W pr l e R s m args below meth cd H locs cells slots Q (F0 m pc ls (.ref a :: rest)) :=
  va_get (D := D) (ci := 0) (C := RX0) (T := TX0) (N := 11) hx hb hts hin hown hK hP q0 he rfl 10 (by decide) hlink (fun _ h => h) hv hdg kk
theorem wg_X1_0 (hx : pr.tables.exec = Jvm.exec) (hb : cd.code = cc) (hts : ∀ w ∈ Ts, w.before args s = true) (hin : ∀ w ∈ u_ws RX1 TX1 2, w ∈ Ts) (hown : s.vm.findClass own = some m.cls) (hK : va_K D vwCl tys s) (hP : va_P D vwCl ws H) (q0 : Nat) (he : ws[q0]? = some (a, .inr (1, fs))) (hlink : (Cond.fieldLink own index "LastWord$Album" "images" "[LLastWord$Affairs;").before args s = true) {v : Value} (hv : fs[0]? = some v) (hdg : decode cc pc = .ok (.getfield index, 3))
    (kk : W pr l e R s m args below meth cd H locs cells slots Q (F0 m (pc + 3) ls (v :: rest))) : W pr l e R s m args below meth cd H locs cells slots Q (F0 m pc ls (.ref a :: rest)) :=
  va_get (D := D) (ci := 1) (C := RX1) (T := TX1) (N := 2) hx hb hts hin hown hK hP q0 he rfl 0 (by decide) hlink (fun _ h => h) hv hdg kk
theorem wg_X1_1 (hx : pr.tables.exec = Jvm.exec) (hb : cd.code = cc) (hts : ∀ w ∈ Ts, w.before args s = true) (hin : ∀ w ∈ u_ws RX1 TX1 2, w ∈ Ts) (hown : s.vm.findClass own = some m.cls) (hK : va_K D vwCl tys s) (hP : va_P D vwCl ws H) (q0 : Nat) (he : ws[q0]? = some (a, .inr (1, fs))) (hlink : (Cond.fieldLink own index "LastWord$Album" "kept" "I").before args s = true) {v : Value} (hv : fs[1]? = some v) (hdg : decode cc pc = .ok (.getfield index, 3))
    (kk : W pr l e R s m args below meth cd H locs cells slots Q (F0 m (pc + 3) ls (v :: rest))) : W pr l e R s m args below meth cd H locs cells slots Q (F0 m pc ls (.ref a :: rest)) :=
  va_get (D := D) (ci := 1) (C := RX1) (T := TX1) (N := 2) hx hb hts hin hown hK hP q0 he rfl 1 (by decide) hlink (fun _ h => h) hv hdg kk
theorem wp_X1_1 (hx : pr.tables.exec = Jvm.exec) (hb : cd.code = cc) (hts : ∀ w ∈ Ts, w.before args s = true) (hin : ∀ w ∈ u_ws RX1 TX1 2, w ∈ Ts) (hown : s.vm.findClass own = some m.cls) (hK : va_K D vwCl tys s) (hP : va_P D vwCl ws H) (hD : va_D A ws) (hS : va_S A H0 H locs) (q0 : Nat) (he : ws[q0]? = some (a, .inr (1, fs))) (hlink : (Cond.fieldLink own index "LastWord$Album" "kept" "I").before args s = true) (hl : 1 < fs.length) {v : Int32} (hdg : decode cc pc = .ok (.putfield index, 3)) (hws : ws.set q0 (a, .inr (1, fs.set 1 (.int v))) = ws')
    (kk : ∀ (H1 : Heap) (locs1 : List Loc), va_P D vwCl ws' H1 → va_D A ws' → va_S A H0 H1 locs1 → W pr l e R s m args below meth cd H1 locs1 cells slots Q (F0 m (pc + 3) ls rest)) : W pr l e R s m args below meth cd H locs cells slots Q (F0 m pc ls (.int v :: .ref a :: rest)) := by
  subst hws
  exact va_put (D := D) (ci := 1) (v := .int v) (ty := .int) (C := RX1) (T := TX1) (N := 2) hx hb hts hin tyX1 tyX1_ok nmX1 hown hK hP hD hS q0 he rfl 1 (by decide) hlink (fun _ h => h) rfl (by decide +kernel) rfl (rfl) hl hdg kk
theorem wg_X2_0 (hx : pr.tables.exec = Jvm.exec) (hb : cd.code = cc) (hts : ∀ w ∈ Ts, w.before args s = true) (hin : ∀ w ∈ u_ws RX2 TX2 2, w ∈ Ts) (hown : s.vm.findClass own = some m.cls) (hK : va_K D vwCl tys s) (hP : va_P D vwCl ws H) (q0 : Nat) (he : ws[q0]? = some (a, .inr (2, fs))) (hlink : (Cond.fieldLink own index "LastWord$Course" "length" "I").before args s = true) {v : Value} (hv : fs[0]? = some v) (hdg : decode cc pc = .ok (.getfield index, 3))
    (kk : W pr l e R s m args below meth cd H locs cells slots Q (F0 m (pc + 3) ls (v :: rest))) : W pr l e R s m args below meth cd H locs cells slots Q (F0 m pc ls (.ref a :: rest)) :=
  va_get (D := D) (ci := 2) (C := RX2) (T := TX2) (N := 2) hx hb hts hin hown hK hP q0 he rfl 0 (by decide) hlink (fun _ h => h) hv hdg kk
theorem wp_X2_0 (hx : pr.tables.exec = Jvm.exec) (hb : cd.code = cc) (hts : ∀ w ∈ Ts, w.before args s = true) (hin : ∀ w ∈ u_ws RX2 TX2 2, w ∈ Ts) (hown : s.vm.findClass own = some m.cls) (hK : va_K D vwCl tys s) (hP : va_P D vwCl ws H) (hD : va_D A ws) (hS : va_S A H0 H locs) (q0 : Nat) (he : ws[q0]? = some (a, .inr (2, fs))) (hlink : (Cond.fieldLink own index "LastWord$Course" "length" "I").before args s = true) (hl : 0 < fs.length) {v : Int32} (hdg : decode cc pc = .ok (.putfield index, 3)) (hws : ws.set q0 (a, .inr (2, fs.set 0 (.int v))) = ws')
    (kk : ∀ (H1 : Heap) (locs1 : List Loc), va_P D vwCl ws' H1 → va_D A ws' → va_S A H0 H1 locs1 → W pr l e R s m args below meth cd H1 locs1 cells slots Q (F0 m (pc + 3) ls rest)) : W pr l e R s m args below meth cd H locs cells slots Q (F0 m pc ls (.int v :: .ref a :: rest)) := by
  subst hws
  exact va_put (D := D) (ci := 2) (v := .int v) (ty := .int) (C := RX2) (T := TX2) (N := 2) hx hb hts hin tyX2 tyX2_ok nmX2 hown hK hP hD hS q0 he rfl 0 (by decide) hlink (fun _ h => h) rfl (by decide +kernel) rfl (rfl) hl hdg kk
theorem wg_X2_1 (hx : pr.tables.exec = Jvm.exec) (hb : cd.code = cc) (hts : ∀ w ∈ Ts, w.before args s = true) (hin : ∀ w ∈ u_ws RX2 TX2 2, w ∈ Ts) (hown : s.vm.findClass own = some m.cls) (hK : va_K D vwCl tys s) (hP : va_P D vwCl ws H) (q0 : Nat) (he : ws[q0]? = some (a, .inr (2, fs))) (hlink : (Cond.fieldLink own index "LastWord$Course" "lastAuthor" "I").before args s = true) {v : Value} (hv : fs[1]? = some v) (hdg : decode cc pc = .ok (.getfield index, 3))
    (kk : W pr l e R s m args below meth cd H locs cells slots Q (F0 m (pc + 3) ls (v :: rest))) : W pr l e R s m args below meth cd H locs cells slots Q (F0 m pc ls (.ref a :: rest)) :=
  va_get (D := D) (ci := 2) (C := RX2) (T := TX2) (N := 2) hx hb hts hin hown hK hP q0 he rfl 1 (by decide) hlink (fun _ h => h) hv hdg kk
theorem wp_X2_1 (hx : pr.tables.exec = Jvm.exec) (hb : cd.code = cc) (hts : ∀ w ∈ Ts, w.before args s = true) (hin : ∀ w ∈ u_ws RX2 TX2 2, w ∈ Ts) (hown : s.vm.findClass own = some m.cls) (hK : va_K D vwCl tys s) (hP : va_P D vwCl ws H) (hD : va_D A ws) (hS : va_S A H0 H locs) (q0 : Nat) (he : ws[q0]? = some (a, .inr (2, fs))) (hlink : (Cond.fieldLink own index "LastWord$Course" "lastAuthor" "I").before args s = true) (hl : 1 < fs.length) {v : Int32} (hdg : decode cc pc = .ok (.putfield index, 3)) (hws : ws.set q0 (a, .inr (2, fs.set 1 (.int v))) = ws')
    (kk : ∀ (H1 : Heap) (locs1 : List Loc), va_P D vwCl ws' H1 → va_D A ws' → va_S A H0 H1 locs1 → W pr l e R s m args below meth cd H1 locs1 cells slots Q (F0 m (pc + 3) ls rest)) : W pr l e R s m args below meth cd H locs cells slots Q (F0 m pc ls (.int v :: .ref a :: rest)) := by
  subst hws
  exact va_put (D := D) (ci := 2) (v := .int v) (ty := .int) (C := RX2) (T := TX2) (N := 2) hx hb hts hin tyX2 tyX2_ok nmX2 hown hK hP hD hS q0 he rfl 1 (by decide) hlink (fun _ h => h) rfl (by decide +kernel) rfl (rfl) hl hdg kk
theorem wg_X3_0 (hx : pr.tables.exec = Jvm.exec) (hb : cd.code = cc) (hts : ∀ w ∈ Ts, w.before args s = true) (hin : ∀ w ∈ u_ws RX3 TX3 4, w ∈ Ts) (hown : s.vm.findClass own = some m.cls) (hK : va_K D vwCl tys s) (hP : va_P D vwCl ws H) (q0 : Nat) (he : ws[q0]? = some (a, .inr (3, fs))) (hlink : (Cond.fieldLink own index "LastWord$Findings" "many" "I").before args s = true) {v : Value} (hv : fs[0]? = some v) (hdg : decode cc pc = .ok (.getfield index, 3))
    (kk : W pr l e R s m args below meth cd H locs cells slots Q (F0 m (pc + 3) ls (v :: rest))) : W pr l e R s m args below meth cd H locs cells slots Q (F0 m pc ls (.ref a :: rest)) :=
  va_get (D := D) (ci := 3) (C := RX3) (T := TX3) (N := 4) hx hb hts hin hown hK hP q0 he rfl 0 (by decide) hlink (fun _ h => h) hv hdg kk
theorem wp_X3_0 (hx : pr.tables.exec = Jvm.exec) (hb : cd.code = cc) (hts : ∀ w ∈ Ts, w.before args s = true) (hin : ∀ w ∈ u_ws RX3 TX3 4, w ∈ Ts) (hown : s.vm.findClass own = some m.cls) (hK : va_K D vwCl tys s) (hP : va_P D vwCl ws H) (hD : va_D A ws) (hS : va_S A H0 H locs) (q0 : Nat) (he : ws[q0]? = some (a, .inr (3, fs))) (hlink : (Cond.fieldLink own index "LastWord$Findings" "many" "I").before args s = true) (hl : 0 < fs.length) {v : Int32} (hdg : decode cc pc = .ok (.putfield index, 3)) (hws : ws.set q0 (a, .inr (3, fs.set 0 (.int v))) = ws')
    (kk : ∀ (H1 : Heap) (locs1 : List Loc), va_P D vwCl ws' H1 → va_D A ws' → va_S A H0 H1 locs1 → W pr l e R s m args below meth cd H1 locs1 cells slots Q (F0 m (pc + 3) ls rest)) : W pr l e R s m args below meth cd H locs cells slots Q (F0 m pc ls (.int v :: .ref a :: rest)) := by
  subst hws
  exact va_put (D := D) (ci := 3) (v := .int v) (ty := .int) (C := RX3) (T := TX3) (N := 4) hx hb hts hin tyX3 tyX3_ok nmX3 hown hK hP hD hS q0 he rfl 0 (by decide) hlink (fun _ h => h) rfl (by decide +kernel) rfl (rfl) hl hdg kk
theorem wg_X3_1 (hx : pr.tables.exec = Jvm.exec) (hb : cd.code = cc) (hts : ∀ w ∈ Ts, w.before args s = true) (hin : ∀ w ∈ u_ws RX3 TX3 4, w ∈ Ts) (hown : s.vm.findClass own = some m.cls) (hK : va_K D vwCl tys s) (hP : va_P D vwCl ws H) (q0 : Nat) (he : ws[q0]? = some (a, .inr (3, fs))) (hlink : (Cond.fieldLink own index "LastWord$Findings" "author" "[I").before args s = true) {v : Value} (hv : fs[1]? = some v) (hdg : decode cc pc = .ok (.getfield index, 3))
    (kk : W pr l e R s m args below meth cd H locs cells slots Q (F0 m (pc + 3) ls (v :: rest))) : W pr l e R s m args below meth cd H locs cells slots Q (F0 m pc ls (.ref a :: rest)) :=
  va_get (D := D) (ci := 3) (C := RX3) (T := TX3) (N := 4) hx hb hts hin hown hK hP q0 he rfl 1 (by decide) hlink (fun _ h => h) hv hdg kk
theorem wg_X3_2 (hx : pr.tables.exec = Jvm.exec) (hb : cd.code = cc) (hts : ∀ w ∈ Ts, w.before args s = true) (hin : ∀ w ∈ u_ws RX3 TX3 4, w ∈ Ts) (hown : s.vm.findClass own = some m.cls) (hK : va_K D vwCl tys s) (hP : va_P D vwCl ws H) (q0 : Nat) (he : ws[q0]? = some (a, .inr (3, fs))) (hlink : (Cond.fieldLink own index "LastWord$Findings" "subject" "[I").before args s = true) {v : Value} (hv : fs[2]? = some v) (hdg : decode cc pc = .ok (.getfield index, 3))
    (kk : W pr l e R s m args below meth cd H locs cells slots Q (F0 m (pc + 3) ls (v :: rest))) : W pr l e R s m args below meth cd H locs cells slots Q (F0 m pc ls (.ref a :: rest)) :=
  va_get (D := D) (ci := 3) (C := RX3) (T := TX3) (N := 4) hx hb hts hin hown hK hP q0 he rfl 2 (by decide) hlink (fun _ h => h) hv hdg kk
theorem wg_X3_3 (hx : pr.tables.exec = Jvm.exec) (hb : cd.code = cc) (hts : ∀ w ∈ Ts, w.before args s = true) (hin : ∀ w ∈ u_ws RX3 TX3 4, w ∈ Ts) (hown : s.vm.findClass own = some m.cls) (hK : va_K D vwCl tys s) (hP : va_P D vwCl ws H) (q0 : Nat) (he : ws[q0]? = some (a, .inr (3, fs))) (hlink : (Cond.fieldLink own index "LastWord$Findings" "answerer" "[I").before args s = true) {v : Value} (hv : fs[3]? = some v) (hdg : decode cc pc = .ok (.getfield index, 3))
    (kk : W pr l e R s m args below meth cd H locs cells slots Q (F0 m (pc + 3) ls (v :: rest))) : W pr l e R s m args below meth cd H locs cells slots Q (F0 m pc ls (.ref a :: rest)) :=
  va_get (D := D) (ci := 3) (C := RX3) (T := TX3) (N := 4) hx hb hts hin hown hK hP q0 he rfl 3 (by decide) hlink (fun _ h => h) hv hdg kk
theorem wg_X4_0 (hx : pr.tables.exec = Jvm.exec) (hb : cd.code = cc) (hts : ∀ w ∈ Ts, w.before args s = true) (hin : ∀ w ∈ u_ws RX4 TX4 3, w ∈ Ts) (hown : s.vm.findClass own = some m.cls) (hK : va_K D vwCl tys s) (hP : va_P D vwCl ws H) (q0 : Nat) (he : ws[q0]? = some (a, .inr (4, fs))) (hlink : (Cond.fieldLink own index "LastWord$History" "ring" "[LLastWord$Affairs;").before args s = true) {v : Value} (hv : fs[0]? = some v) (hdg : decode cc pc = .ok (.getfield index, 3))
    (kk : W pr l e R s m args below meth cd H locs cells slots Q (F0 m (pc + 3) ls (v :: rest))) : W pr l e R s m args below meth cd H locs cells slots Q (F0 m pc ls (.ref a :: rest)) :=
  va_get (D := D) (ci := 4) (C := RX4) (T := TX4) (N := 3) hx hb hts hin hown hK hP q0 he rfl 0 (by decide) hlink (fun _ h => h) hv hdg kk
theorem wg_X4_1 (hx : pr.tables.exec = Jvm.exec) (hb : cd.code = cc) (hts : ∀ w ∈ Ts, w.before args s = true) (hin : ∀ w ∈ u_ws RX4 TX4 3, w ∈ Ts) (hown : s.vm.findClass own = some m.cls) (hK : va_K D vwCl tys s) (hP : va_P D vwCl ws H) (q0 : Nat) (he : ws[q0]? = some (a, .inr (4, fs))) (hlink : (Cond.fieldLink own index "LastWord$History" "known" "I").before args s = true) {v : Value} (hv : fs[1]? = some v) (hdg : decode cc pc = .ok (.getfield index, 3))
    (kk : W pr l e R s m args below meth cd H locs cells slots Q (F0 m (pc + 3) ls (v :: rest))) : W pr l e R s m args below meth cd H locs cells slots Q (F0 m pc ls (.ref a :: rest)) :=
  va_get (D := D) (ci := 4) (C := RX4) (T := TX4) (N := 3) hx hb hts hin hown hK hP q0 he rfl 1 (by decide) hlink (fun _ h => h) hv hdg kk
theorem wp_X4_1 (hx : pr.tables.exec = Jvm.exec) (hb : cd.code = cc) (hts : ∀ w ∈ Ts, w.before args s = true) (hin : ∀ w ∈ u_ws RX4 TX4 3, w ∈ Ts) (hown : s.vm.findClass own = some m.cls) (hK : va_K D vwCl tys s) (hP : va_P D vwCl ws H) (hD : va_D A ws) (hS : va_S A H0 H locs) (q0 : Nat) (he : ws[q0]? = some (a, .inr (4, fs))) (hlink : (Cond.fieldLink own index "LastWord$History" "known" "I").before args s = true) (hl : 1 < fs.length) {v : Int32} (hdg : decode cc pc = .ok (.putfield index, 3)) (hws : ws.set q0 (a, .inr (4, fs.set 1 (.int v))) = ws')
    (kk : ∀ (H1 : Heap) (locs1 : List Loc), va_P D vwCl ws' H1 → va_D A ws' → va_S A H0 H1 locs1 → W pr l e R s m args below meth cd H1 locs1 cells slots Q (F0 m (pc + 3) ls rest)) : W pr l e R s m args below meth cd H locs cells slots Q (F0 m pc ls (.int v :: .ref a :: rest)) := by
  subst hws
  exact va_put (D := D) (ci := 4) (v := .int v) (ty := .int) (C := RX4) (T := TX4) (N := 3) hx hb hts hin tyX4 tyX4_ok nmX4 hown hK hP hD hS q0 he rfl 1 (by decide) hlink (fun _ h => h) rfl (by decide +kernel) rfl (rfl) hl hdg kk
theorem wg_X4_2 (hx : pr.tables.exec = Jvm.exec) (hb : cd.code = cc) (hts : ∀ w ∈ Ts, w.before args s = true) (hin : ∀ w ∈ u_ws RX4 TX4 3, w ∈ Ts) (hown : s.vm.findClass own = some m.cls) (hK : va_K D vwCl tys s) (hP : va_P D vwCl ws H) (q0 : Nat) (he : ws[q0]? = some (a, .inr (4, fs))) (hlink : (Cond.fieldLink own index "LastWord$History" "next" "I").before args s = true) {v : Value} (hv : fs[2]? = some v) (hdg : decode cc pc = .ok (.getfield index, 3))
    (kk : W pr l e R s m args below meth cd H locs cells slots Q (F0 m (pc + 3) ls (v :: rest))) : W pr l e R s m args below meth cd H locs cells slots Q (F0 m pc ls (.ref a :: rest)) :=
  va_get (D := D) (ci := 4) (C := RX4) (T := TX4) (N := 3) hx hb hts hin hown hK hP q0 he rfl 2 (by decide) hlink (fun _ h => h) hv hdg kk
theorem wp_X4_2 (hx : pr.tables.exec = Jvm.exec) (hb : cd.code = cc) (hts : ∀ w ∈ Ts, w.before args s = true) (hin : ∀ w ∈ u_ws RX4 TX4 3, w ∈ Ts) (hown : s.vm.findClass own = some m.cls) (hK : va_K D vwCl tys s) (hP : va_P D vwCl ws H) (hD : va_D A ws) (hS : va_S A H0 H locs) (q0 : Nat) (he : ws[q0]? = some (a, .inr (4, fs))) (hlink : (Cond.fieldLink own index "LastWord$History" "next" "I").before args s = true) (hl : 2 < fs.length) {v : Int32} (hdg : decode cc pc = .ok (.putfield index, 3)) (hws : ws.set q0 (a, .inr (4, fs.set 2 (.int v))) = ws')
    (kk : ∀ (H1 : Heap) (locs1 : List Loc), va_P D vwCl ws' H1 → va_D A ws' → va_S A H0 H1 locs1 → W pr l e R s m args below meth cd H1 locs1 cells slots Q (F0 m (pc + 3) ls rest)) : W pr l e R s m args below meth cd H locs cells slots Q (F0 m pc ls (.int v :: .ref a :: rest)) := by
  subst hws
  exact va_put (D := D) (ci := 4) (v := .int v) (ty := .int) (C := RX4) (T := TX4) (N := 3) hx hb hts hin tyX4 tyX4_ok nmX4 hown hK hP hD hS q0 he rfl 2 (by decide) hlink (fun _ h => h) rfl (by decide +kernel) rfl (rfl) hl hdg kk
theorem wg_X5_0 (hx : pr.tables.exec = Jvm.exec) (hb : cd.code = cc) (hts : ∀ w ∈ Ts, w.before args s = true) (hin : ∀ w ∈ u_ws RX5 TX5 5, w ∈ Ts) (hown : s.vm.findClass own = some m.cls) (hK : va_K D vwCl tys s) (hP : va_P D vwCl ws H) (q0 : Nat) (he : ws[q0]? = some (a, .inr (5, fs))) (hlink : (Cond.fieldLink own index "LastWord$Page" "writers" "I").before args s = true) {v : Value} (hv : fs[0]? = some v) (hdg : decode cc pc = .ok (.getfield index, 3))
    (kk : W pr l e R s m args below meth cd H locs cells slots Q (F0 m (pc + 3) ls (v :: rest))) : W pr l e R s m args below meth cd H locs cells slots Q (F0 m pc ls (.ref a :: rest)) :=
  va_get (D := D) (ci := 5) (C := RX5) (T := TX5) (N := 5) hx hb hts hin hown hK hP q0 he rfl 0 (by decide) hlink (fun _ h => h) hv hdg kk
theorem wp_X5_0 (hx : pr.tables.exec = Jvm.exec) (hb : cd.code = cc) (hts : ∀ w ∈ Ts, w.before args s = true) (hin : ∀ w ∈ u_ws RX5 TX5 5, w ∈ Ts) (hown : s.vm.findClass own = some m.cls) (hK : va_K D vwCl tys s) (hP : va_P D vwCl ws H) (hD : va_D A ws) (hS : va_S A H0 H locs) (q0 : Nat) (he : ws[q0]? = some (a, .inr (5, fs))) (hlink : (Cond.fieldLink own index "LastWord$Page" "writers" "I").before args s = true) (hl : 0 < fs.length) {v : Int32} (hdg : decode cc pc = .ok (.putfield index, 3)) (hws : ws.set q0 (a, .inr (5, fs.set 0 (.int v))) = ws')
    (kk : ∀ (H1 : Heap) (locs1 : List Loc), va_P D vwCl ws' H1 → va_D A ws' → va_S A H0 H1 locs1 → W pr l e R s m args below meth cd H1 locs1 cells slots Q (F0 m (pc + 3) ls rest)) : W pr l e R s m args below meth cd H locs cells slots Q (F0 m pc ls (.int v :: .ref a :: rest)) := by
  subst hws
  exact va_put (D := D) (ci := 5) (v := .int v) (ty := .int) (C := RX5) (T := TX5) (N := 5) hx hb hts hin tyX5 tyX5_ok nmX5 hown hK hP hD hS q0 he rfl 0 (by decide) hlink (fun _ h => h) rfl (by decide +kernel) rfl (rfl) hl hdg kk
theorem wg_X5_1 (hx : pr.tables.exec = Jvm.exec) (hb : cd.code = cc) (hts : ∀ w ∈ Ts, w.before args s = true) (hin : ∀ w ∈ u_ws RX5 TX5 5, w ∈ Ts) (hown : s.vm.findClass own = some m.cls) (hK : va_K D vwCl tys s) (hP : va_P D vwCl ws H) (q0 : Nat) (he : ws[q0]? = some (a, .inr (5, fs))) (hlink : (Cond.fieldLink own index "LastWord$Page" "term" "I").before args s = true) {v : Value} (hv : fs[1]? = some v) (hdg : decode cc pc = .ok (.getfield index, 3))
    (kk : W pr l e R s m args below meth cd H locs cells slots Q (F0 m (pc + 3) ls (v :: rest))) : W pr l e R s m args below meth cd H locs cells slots Q (F0 m pc ls (.ref a :: rest)) :=
  va_get (D := D) (ci := 5) (C := RX5) (T := TX5) (N := 5) hx hb hts hin hown hK hP q0 he rfl 1 (by decide) hlink (fun _ h => h) hv hdg kk
theorem wp_X5_1 (hx : pr.tables.exec = Jvm.exec) (hb : cd.code = cc) (hts : ∀ w ∈ Ts, w.before args s = true) (hin : ∀ w ∈ u_ws RX5 TX5 5, w ∈ Ts) (hown : s.vm.findClass own = some m.cls) (hK : va_K D vwCl tys s) (hP : va_P D vwCl ws H) (hD : va_D A ws) (hS : va_S A H0 H locs) (q0 : Nat) (he : ws[q0]? = some (a, .inr (5, fs))) (hlink : (Cond.fieldLink own index "LastWord$Page" "term" "I").before args s = true) (hl : 1 < fs.length) {v : Int32} (hdg : decode cc pc = .ok (.putfield index, 3)) (hws : ws.set q0 (a, .inr (5, fs.set 1 (.int v))) = ws')
    (kk : ∀ (H1 : Heap) (locs1 : List Loc), va_P D vwCl ws' H1 → va_D A ws' → va_S A H0 H1 locs1 → W pr l e R s m args below meth cd H1 locs1 cells slots Q (F0 m (pc + 3) ls rest)) : W pr l e R s m args below meth cd H locs cells slots Q (F0 m pc ls (.int v :: .ref a :: rest)) := by
  subst hws
  exact va_put (D := D) (ci := 5) (v := .int v) (ty := .int) (C := RX5) (T := TX5) (N := 5) hx hb hts hin tyX5 tyX5_ok nmX5 hown hK hP hD hS q0 he rfl 1 (by decide) hlink (fun _ h => h) rfl (by decide +kernel) rfl (rfl) hl hdg kk
theorem wg_X5_2 (hx : pr.tables.exec = Jvm.exec) (hb : cd.code = cc) (hts : ∀ w ∈ Ts, w.before args s = true) (hin : ∀ w ∈ u_ws RX5 TX5 5, w ∈ Ts) (hown : s.vm.findClass own = some m.cls) (hK : va_K D vwCl tys s) (hP : va_P D vwCl ws H) (q0 : Nat) (he : ws[q0]? = some (a, .inr (5, fs))) (hlink : (Cond.fieldLink own index "LastWord$Page" "pen" "[I").before args s = true) {v : Value} (hv : fs[2]? = some v) (hdg : decode cc pc = .ok (.getfield index, 3))
    (kk : W pr l e R s m args below meth cd H locs cells slots Q (F0 m (pc + 3) ls (v :: rest))) : W pr l e R s m args below meth cd H locs cells slots Q (F0 m pc ls (.ref a :: rest)) :=
  va_get (D := D) (ci := 5) (C := RX5) (T := TX5) (N := 5) hx hb hts hin hown hK hP q0 he rfl 2 (by decide) hlink (fun _ h => h) hv hdg kk
theorem wg_X5_3 (hx : pr.tables.exec = Jvm.exec) (hb : cd.code = cc) (hts : ∀ w ∈ Ts, w.before args s = true) (hin : ∀ w ∈ u_ws RX5 TX5 5, w ∈ Ts) (hown : s.vm.findClass own = some m.cls) (hK : va_K D vwCl tys s) (hP : va_P D vwCl ws H) (q0 : Nat) (he : ws[q0]? = some (a, .inr (5, fs))) (hlink : (Cond.fieldLink own index "LastWord$Page" "hobby" "[I").before args s = true) {v : Value} (hv : fs[3]? = some v) (hdg : decode cc pc = .ok (.getfield index, 3))
    (kk : W pr l e R s m args below meth cd H locs cells slots Q (F0 m (pc + 3) ls (v :: rest))) : W pr l e R s m args below meth cd H locs cells slots Q (F0 m pc ls (.ref a :: rest)) :=
  va_get (D := D) (ci := 5) (C := RX5) (T := TX5) (N := 5) hx hb hts hin hown hK hP q0 he rfl 3 (by decide) hlink (fun _ h => h) hv hdg kk
theorem wg_X5_4 (hx : pr.tables.exec = Jvm.exec) (hb : cd.code = cc) (hts : ∀ w ∈ Ts, w.before args s = true) (hin : ∀ w ∈ u_ws RX5 TX5 5, w ∈ Ts) (hown : s.vm.findClass own = some m.cls) (hK : va_K D vwCl tys s) (hP : va_P D vwCl ws H) (q0 : Nat) (he : ws[q0]? = some (a, .inr (5, fs))) (hlink : (Cond.fieldLink own index "LastWord$Page" "near" "[[I").before args s = true) {v : Value} (hv : fs[4]? = some v) (hdg : decode cc pc = .ok (.getfield index, 3))
    (kk : W pr l e R s m args below meth cd H locs cells slots Q (F0 m (pc + 3) ls (v :: rest))) : W pr l e R s m args below meth cd H locs cells slots Q (F0 m pc ls (.ref a :: rest)) :=
  va_get (D := D) (ci := 5) (C := RX5) (T := TX5) (N := 5) hx hb hts hin hown hK hP q0 he rfl 4 (by decide) hlink (fun _ h => h) hv hdg kk
theorem wg_X6_0 (hx : pr.tables.exec = Jvm.exec) (hb : cd.code = cc) (hts : ∀ w ∈ Ts, w.before args s = true) (hin : ∀ w ∈ u_ws RX6 TX6 7, w ∈ Ts) (hown : s.vm.findClass own = some m.cls) (hK : va_K D vwCl tys s) (hP : va_P D vwCl ws H) (q0 : Nat) (he : ws[q0]? = some (a, .inr (6, fs))) (hlink : (Cond.fieldLink own index "LastWord$Text" "letters" "[I").before args s = true) {v : Value} (hv : fs[0]? = some v) (hdg : decode cc pc = .ok (.getfield index, 3))
    (kk : W pr l e R s m args below meth cd H locs cells slots Q (F0 m (pc + 3) ls (v :: rest))) : W pr l e R s m args below meth cd H locs cells slots Q (F0 m pc ls (.ref a :: rest)) :=
  va_get (D := D) (ci := 6) (C := RX6) (T := TX6) (N := 7) hx hb hts hin hown hK hP q0 he rfl 0 (by decide) hlink (fun _ h => h) hv hdg kk
theorem wg_X6_1 (hx : pr.tables.exec = Jvm.exec) (hb : cd.code = cc) (hts : ∀ w ∈ Ts, w.before args s = true) (hin : ∀ w ∈ u_ws RX6 TX6 7, w ∈ Ts) (hown : s.vm.findClass own = some m.cls) (hK : va_K D vwCl tys s) (hP : va_P D vwCl ws H) (q0 : Nat) (he : ws[q0]? = some (a, .inr (6, fs))) (hlink : (Cond.fieldLink own index "LastWord$Text" "length" "I").before args s = true) {v : Value} (hv : fs[1]? = some v) (hdg : decode cc pc = .ok (.getfield index, 3))
    (kk : W pr l e R s m args below meth cd H locs cells slots Q (F0 m (pc + 3) ls (v :: rest))) : W pr l e R s m args below meth cd H locs cells slots Q (F0 m pc ls (.ref a :: rest)) :=
  va_get (D := D) (ci := 6) (C := RX6) (T := TX6) (N := 7) hx hb hts hin hown hK hP q0 he rfl 1 (by decide) hlink (fun _ h => h) hv hdg kk
theorem wp_X6_1 (hx : pr.tables.exec = Jvm.exec) (hb : cd.code = cc) (hts : ∀ w ∈ Ts, w.before args s = true) (hin : ∀ w ∈ u_ws RX6 TX6 7, w ∈ Ts) (hown : s.vm.findClass own = some m.cls) (hK : va_K D vwCl tys s) (hP : va_P D vwCl ws H) (hD : va_D A ws) (hS : va_S A H0 H locs) (q0 : Nat) (he : ws[q0]? = some (a, .inr (6, fs))) (hlink : (Cond.fieldLink own index "LastWord$Text" "length" "I").before args s = true) (hl : 1 < fs.length) {v : Int32} (hdg : decode cc pc = .ok (.putfield index, 3)) (hws : ws.set q0 (a, .inr (6, fs.set 1 (.int v))) = ws')
    (kk : ∀ (H1 : Heap) (locs1 : List Loc), va_P D vwCl ws' H1 → va_D A ws' → va_S A H0 H1 locs1 → W pr l e R s m args below meth cd H1 locs1 cells slots Q (F0 m (pc + 3) ls rest)) : W pr l e R s m args below meth cd H locs cells slots Q (F0 m pc ls (.int v :: .ref a :: rest)) := by
  subst hws
  exact va_put (D := D) (ci := 6) (v := .int v) (ty := .int) (C := RX6) (T := TX6) (N := 7) hx hb hts hin tyX6 tyX6_ok nmX6 hown hK hP hD hS q0 he rfl 1 (by decide) hlink (fun _ h => h) rfl (by decide +kernel) rfl (rfl) hl hdg kk
theorem wg_X6_2 (hx : pr.tables.exec = Jvm.exec) (hb : cd.code = cc) (hts : ∀ w ∈ Ts, w.before args s = true) (hin : ∀ w ∈ u_ws RX6 TX6 7, w ∈ Ts) (hown : s.vm.findClass own = some m.cls) (hK : va_K D vwCl tys s) (hP : va_P D vwCl ws H) (q0 : Nat) (he : ws[q0]? = some (a, .inr (6, fs))) (hlink : (Cond.fieldLink own index "LastWord$Text" "place" "I").before args s = true) {v : Value} (hv : fs[2]? = some v) (hdg : decode cc pc = .ok (.getfield index, 3))
    (kk : W pr l e R s m args below meth cd H locs cells slots Q (F0 m (pc + 3) ls (v :: rest))) : W pr l e R s m args below meth cd H locs cells slots Q (F0 m pc ls (.ref a :: rest)) :=
  va_get (D := D) (ci := 6) (C := RX6) (T := TX6) (N := 7) hx hb hts hin hown hK hP q0 he rfl 2 (by decide) hlink (fun _ h => h) hv hdg kk
theorem wp_X6_2 (hx : pr.tables.exec = Jvm.exec) (hb : cd.code = cc) (hts : ∀ w ∈ Ts, w.before args s = true) (hin : ∀ w ∈ u_ws RX6 TX6 7, w ∈ Ts) (hown : s.vm.findClass own = some m.cls) (hK : va_K D vwCl tys s) (hP : va_P D vwCl ws H) (hD : va_D A ws) (hS : va_S A H0 H locs) (q0 : Nat) (he : ws[q0]? = some (a, .inr (6, fs))) (hlink : (Cond.fieldLink own index "LastWord$Text" "place" "I").before args s = true) (hl : 2 < fs.length) {v : Int32} (hdg : decode cc pc = .ok (.putfield index, 3)) (hws : ws.set q0 (a, .inr (6, fs.set 2 (.int v))) = ws')
    (kk : ∀ (H1 : Heap) (locs1 : List Loc), va_P D vwCl ws' H1 → va_D A ws' → va_S A H0 H1 locs1 → W pr l e R s m args below meth cd H1 locs1 cells slots Q (F0 m (pc + 3) ls rest)) : W pr l e R s m args below meth cd H locs cells slots Q (F0 m pc ls (.int v :: .ref a :: rest)) := by
  subst hws
  exact va_put (D := D) (ci := 6) (v := .int v) (ty := .int) (C := RX6) (T := TX6) (N := 7) hx hb hts hin tyX6 tyX6_ok nmX6 hown hK hP hD hS q0 he rfl 2 (by decide) hlink (fun _ h => h) rfl (by decide +kernel) rfl (rfl) hl hdg kk
theorem wg_X6_3 (hx : pr.tables.exec = Jvm.exec) (hb : cd.code = cc) (hts : ∀ w ∈ Ts, w.before args s = true) (hin : ∀ w ∈ u_ws RX6 TX6 7, w ∈ Ts) (hown : s.vm.findClass own = some m.cls) (hK : va_K D vwCl tys s) (hP : va_P D vwCl ws H) (q0 : Nat) (he : ws[q0]? = some (a, .inr (6, fs))) (hlink : (Cond.fieldLink own index "LastWord$Text" "termTold" "Z").before args s = true) {v : Value} (hv : fs[3]? = some v) (hdg : decode cc pc = .ok (.getfield index, 3))
    (kk : W pr l e R s m args below meth cd H locs cells slots Q (F0 m (pc + 3) ls (v :: rest))) : W pr l e R s m args below meth cd H locs cells slots Q (F0 m pc ls (.ref a :: rest)) :=
  va_get (D := D) (ci := 6) (C := RX6) (T := TX6) (N := 7) hx hb hts hin hown hK hP q0 he rfl 3 (by decide) hlink (fun _ h => h) hv hdg kk
theorem wp_X6_3 (hx : pr.tables.exec = Jvm.exec) (hb : cd.code = cc) (hts : ∀ w ∈ Ts, w.before args s = true) (hin : ∀ w ∈ u_ws RX6 TX6 7, w ∈ Ts) (hown : s.vm.findClass own = some m.cls) (hK : va_K D vwCl tys s) (hP : va_P D vwCl ws H) (hD : va_D A ws) (hS : va_S A H0 H locs) (q0 : Nat) (he : ws[q0]? = some (a, .inr (6, fs))) (hlink : (Cond.fieldLink own index "LastWord$Text" "termTold" "Z").before args s = true) (hl : 3 < fs.length) {v : Int32} (hz : narrow .boolean (.int v) = .int v) (hdg : decode cc pc = .ok (.putfield index, 3)) (hws : ws.set q0 (a, .inr (6, fs.set 3 (.int v))) = ws')
    (kk : ∀ (H1 : Heap) (locs1 : List Loc), va_P D vwCl ws' H1 → va_D A ws' → va_S A H0 H1 locs1 → W pr l e R s m args below meth cd H1 locs1 cells slots Q (F0 m (pc + 3) ls rest)) : W pr l e R s m args below meth cd H locs cells slots Q (F0 m pc ls (.int v :: .ref a :: rest)) := by
  subst hws
  exact va_put (D := D) (ci := 6) (v := .int v) (ty := .boolean) (C := RX6) (T := TX6) (N := 7) hx hb hts hin tyX6 tyX6_ok nmX6 hown hK hP hD hS q0 he rfl 3 (by decide) hlink (fun _ h => h) rfl (by decide +kernel) hz (wk_fitZ hz) hl hdg kk
theorem wg_X6_4 (hx : pr.tables.exec = Jvm.exec) (hb : cd.code = cc) (hts : ∀ w ∈ Ts, w.before args s = true) (hin : ∀ w ∈ u_ws RX6 TX6 7, w ∈ Ts) (hown : s.vm.findClass own = some m.cls) (hK : va_K D vwCl tys s) (hP : va_P D vwCl ws H) (q0 : Nat) (he : ws[q0]? = some (a, .inr (6, fs))) (hlink : (Cond.fieldLink own index "LastWord$Text" "start" "I").before args s = true) {v : Value} (hv : fs[4]? = some v) (hdg : decode cc pc = .ok (.getfield index, 3))
    (kk : W pr l e R s m args below meth cd H locs cells slots Q (F0 m (pc + 3) ls (v :: rest))) : W pr l e R s m args below meth cd H locs cells slots Q (F0 m pc ls (.ref a :: rest)) :=
  va_get (D := D) (ci := 6) (C := RX6) (T := TX6) (N := 7) hx hb hts hin hown hK hP q0 he rfl 4 (by decide) hlink (fun _ h => h) hv hdg kk
theorem wp_X6_4 (hx : pr.tables.exec = Jvm.exec) (hb : cd.code = cc) (hts : ∀ w ∈ Ts, w.before args s = true) (hin : ∀ w ∈ u_ws RX6 TX6 7, w ∈ Ts) (hown : s.vm.findClass own = some m.cls) (hK : va_K D vwCl tys s) (hP : va_P D vwCl ws H) (hD : va_D A ws) (hS : va_S A H0 H locs) (q0 : Nat) (he : ws[q0]? = some (a, .inr (6, fs))) (hlink : (Cond.fieldLink own index "LastWord$Text" "start" "I").before args s = true) (hl : 4 < fs.length) {v : Int32} (hdg : decode cc pc = .ok (.putfield index, 3)) (hws : ws.set q0 (a, .inr (6, fs.set 4 (.int v))) = ws')
    (kk : ∀ (H1 : Heap) (locs1 : List Loc), va_P D vwCl ws' H1 → va_D A ws' → va_S A H0 H1 locs1 → W pr l e R s m args below meth cd H1 locs1 cells slots Q (F0 m (pc + 3) ls rest)) : W pr l e R s m args below meth cd H locs cells slots Q (F0 m pc ls (.int v :: .ref a :: rest)) := by
  subst hws
  exact va_put (D := D) (ci := 6) (v := .int v) (ty := .int) (C := RX6) (T := TX6) (N := 7) hx hb hts hin tyX6 tyX6_ok nmX6 hown hK hP hD hS q0 he rfl 4 (by decide) hlink (fun _ h => h) rfl (by decide +kernel) rfl (rfl) hl hdg kk
theorem wg_X6_5 (hx : pr.tables.exec = Jvm.exec) (hb : cd.code = cc) (hts : ∀ w ∈ Ts, w.before args s = true) (hin : ∀ w ∈ u_ws RX6 TX6 7, w ∈ Ts) (hown : s.vm.findClass own = some m.cls) (hK : va_K D vwCl tys s) (hP : va_P D vwCl ws H) (q0 : Nat) (he : ws[q0]? = some (a, .inr (6, fs))) (hlink : (Cond.fieldLink own index "LastWord$Text" "token" "I").before args s = true) {v : Value} (hv : fs[5]? = some v) (hdg : decode cc pc = .ok (.getfield index, 3))
    (kk : W pr l e R s m args below meth cd H locs cells slots Q (F0 m (pc + 3) ls (v :: rest))) : W pr l e R s m args below meth cd H locs cells slots Q (F0 m pc ls (.ref a :: rest)) :=
  va_get (D := D) (ci := 6) (C := RX6) (T := TX6) (N := 7) hx hb hts hin hown hK hP q0 he rfl 5 (by decide) hlink (fun _ h => h) hv hdg kk
theorem wp_X6_5 (hx : pr.tables.exec = Jvm.exec) (hb : cd.code = cc) (hts : ∀ w ∈ Ts, w.before args s = true) (hin : ∀ w ∈ u_ws RX6 TX6 7, w ∈ Ts) (hown : s.vm.findClass own = some m.cls) (hK : va_K D vwCl tys s) (hP : va_P D vwCl ws H) (hD : va_D A ws) (hS : va_S A H0 H locs) (q0 : Nat) (he : ws[q0]? = some (a, .inr (6, fs))) (hlink : (Cond.fieldLink own index "LastWord$Text" "token" "I").before args s = true) (hl : 5 < fs.length) {v : Int32} (hdg : decode cc pc = .ok (.putfield index, 3)) (hws : ws.set q0 (a, .inr (6, fs.set 5 (.int v))) = ws')
    (kk : ∀ (H1 : Heap) (locs1 : List Loc), va_P D vwCl ws' H1 → va_D A ws' → va_S A H0 H1 locs1 → W pr l e R s m args below meth cd H1 locs1 cells slots Q (F0 m (pc + 3) ls rest)) : W pr l e R s m args below meth cd H locs cells slots Q (F0 m pc ls (.int v :: .ref a :: rest)) := by
  subst hws
  exact va_put (D := D) (ci := 6) (v := .int v) (ty := .int) (C := RX6) (T := TX6) (N := 7) hx hb hts hin tyX6 tyX6_ok nmX6 hown hK hP hD hS q0 he rfl 5 (by decide) hlink (fun _ h => h) rfl (by decide +kernel) rfl (rfl) hl hdg kk
theorem wg_X6_6 (hx : pr.tables.exec = Jvm.exec) (hb : cd.code = cc) (hts : ∀ w ∈ Ts, w.before args s = true) (hin : ∀ w ∈ u_ws RX6 TX6 7, w ∈ Ts) (hown : s.vm.findClass own = some m.cls) (hK : va_K D vwCl tys s) (hP : va_P D vwCl ws H) (q0 : Nat) (he : ws[q0]? = some (a, .inr (6, fs))) (hlink : (Cond.fieldLink own index "LastWord$Text" "value" "I").before args s = true) {v : Value} (hv : fs[6]? = some v) (hdg : decode cc pc = .ok (.getfield index, 3))
    (kk : W pr l e R s m args below meth cd H locs cells slots Q (F0 m (pc + 3) ls (v :: rest))) : W pr l e R s m args below meth cd H locs cells slots Q (F0 m pc ls (.ref a :: rest)) :=
  va_get (D := D) (ci := 6) (C := RX6) (T := TX6) (N := 7) hx hb hts hin hown hK hP q0 he rfl 6 (by decide) hlink (fun _ h => h) hv hdg kk
theorem wp_X6_6 (hx : pr.tables.exec = Jvm.exec) (hb : cd.code = cc) (hts : ∀ w ∈ Ts, w.before args s = true) (hin : ∀ w ∈ u_ws RX6 TX6 7, w ∈ Ts) (hown : s.vm.findClass own = some m.cls) (hK : va_K D vwCl tys s) (hP : va_P D vwCl ws H) (hD : va_D A ws) (hS : va_S A H0 H locs) (q0 : Nat) (he : ws[q0]? = some (a, .inr (6, fs))) (hlink : (Cond.fieldLink own index "LastWord$Text" "value" "I").before args s = true) (hl : 6 < fs.length) {v : Int32} (hdg : decode cc pc = .ok (.putfield index, 3)) (hws : ws.set q0 (a, .inr (6, fs.set 6 (.int v))) = ws')
    (kk : ∀ (H1 : Heap) (locs1 : List Loc), va_P D vwCl ws' H1 → va_D A ws' → va_S A H0 H1 locs1 → W pr l e R s m args below meth cd H1 locs1 cells slots Q (F0 m (pc + 3) ls rest)) : W pr l e R s m args below meth cd H locs cells slots Q (F0 m pc ls (.int v :: .ref a :: rest)) := by
  subst hws
  exact va_put (D := D) (ci := 6) (v := .int v) (ty := .int) (C := RX6) (T := TX6) (N := 7) hx hb hts hin tyX6 tyX6_ok nmX6 hown hK hP hD hS q0 he rfl 6 (by decide) hlink (fun _ h => h) rfl (by decide +kernel) rfl (rfl) hl hdg kk
theorem wg_X7_0 (hx : pr.tables.exec = Jvm.exec) (hb : cd.code = cc) (hts : ∀ w ∈ Ts, w.before args s = true) (hin : ∀ w ∈ u_ws RX7 TX7 10, w ∈ Ts) (hown : s.vm.findClass own = some m.cls) (hK : va_K D vwCl tys s) (hP : va_P D vwCl ws H) (q0 : Nat) (he : ws[q0]? = some (a, .inr (7, fs))) (hlink : (Cond.fieldLink own index "LastWord" "text" "LLastWord$Text;").before args s = true) {v : Value} (hv : fs[0]? = some v) (hdg : decode cc pc = .ok (.getfield index, 3))
    (kk : W pr l e R s m args below meth cd H locs cells slots Q (F0 m (pc + 3) ls (v :: rest))) : W pr l e R s m args below meth cd H locs cells slots Q (F0 m pc ls (.ref a :: rest)) :=
  va_get (D := D) (ci := 7) (C := RX7) (T := TX7) (N := 10) hx hb hts hin hown hK hP q0 he rfl 0 (by decide) hlink (fun _ h => h) hv hdg kk
theorem wg_X7_1 (hx : pr.tables.exec = Jvm.exec) (hb : cd.code = cc) (hts : ∀ w ∈ Ts, w.before args s = true) (hin : ∀ w ∈ u_ws RX7 TX7 10, w ∈ Ts) (hown : s.vm.findClass own = some m.cls) (hK : va_K D vwCl tys s) (hP : va_P D vwCl ws H) (q0 : Nat) (he : ws[q0]? = some (a, .inr (7, fs))) (hlink : (Cond.fieldLink own index "LastWord" "page" "LLastWord$Page;").before args s = true) {v : Value} (hv : fs[1]? = some v) (hdg : decode cc pc = .ok (.getfield index, 3))
    (kk : W pr l e R s m args below meth cd H locs cells slots Q (F0 m (pc + 3) ls (v :: rest))) : W pr l e R s m args below meth cd H locs cells slots Q (F0 m pc ls (.ref a :: rest)) :=
  va_get (D := D) (ci := 7) (C := RX7) (T := TX7) (N := 10) hx hb hts hin hown hK hP q0 he rfl 1 (by decide) hlink (fun _ h => h) hv hdg kk
theorem wp_X7_1 (hx : pr.tables.exec = Jvm.exec) (hb : cd.code = cc) (hts : ∀ w ∈ Ts, w.before args s = true) (hin : ∀ w ∈ u_ws RX7 TX7 10, w ∈ Ts) (hown : s.vm.findClass own = some m.cls) (hK : va_K D vwCl tys s) (hP : va_P D vwCl ws H) (hD : va_D A ws) (hS : va_S A H0 H locs) (q0 : Nat) (he : ws[q0]? = some (a, .inr (7, fs))) (hlink : (Cond.fieldLink own index "LastWord" "page" "LLastWord$Page;").before args s = true) (hl : 1 < fs.length) {v : Nat} (hdg : decode cc pc = .ok (.putfield index, 3)) (hws : ws.set q0 (a, .inr (7, fs.set 1 (.ref v))) = ws')
    (kk : ∀ (H1 : Heap) (locs1 : List Loc), va_P D vwCl ws' H1 → va_D A ws' → va_S A H0 H1 locs1 → W pr l e R s m args below meth cd H1 locs1 cells slots Q (F0 m (pc + 3) ls rest)) : W pr l e R s m args below meth cd H locs cells slots Q (F0 m pc ls (.ref v :: .ref a :: rest)) := by
  subst hws
  exact va_put (D := D) (ci := 7) (v := .ref v) (ty := .object "LastWord$Page") (C := RX7) (T := TX7) (N := 10) hx hb hts hin tyX7 tyX7_ok nmX7 hown hK hP hD hS q0 he rfl 1 (by decide) hlink (fun _ h => h) rfl (by decide +kernel) rfl (rfl) hl hdg kk
theorem wg_X7_2 (hx : pr.tables.exec = Jvm.exec) (hb : cd.code = cc) (hts : ∀ w ∈ Ts, w.before args s = true) (hin : ∀ w ∈ u_ws RX7 TX7 10, w ∈ Ts) (hown : s.vm.findClass own = some m.cls) (hK : va_K D vwCl tys s) (hP : va_P D vwCl ws H) (q0 : Nat) (he : ws[q0]? = some (a, .inr (7, fs))) (hlink : (Cond.fieldLink own index "LastWord" "spare" "LLastWord$Page;").before args s = true) {v : Value} (hv : fs[2]? = some v) (hdg : decode cc pc = .ok (.getfield index, 3))
    (kk : W pr l e R s m args below meth cd H locs cells slots Q (F0 m (pc + 3) ls (v :: rest))) : W pr l e R s m args below meth cd H locs cells slots Q (F0 m pc ls (.ref a :: rest)) :=
  va_get (D := D) (ci := 7) (C := RX7) (T := TX7) (N := 10) hx hb hts hin hown hK hP q0 he rfl 2 (by decide) hlink (fun _ h => h) hv hdg kk
theorem wp_X7_2 (hx : pr.tables.exec = Jvm.exec) (hb : cd.code = cc) (hts : ∀ w ∈ Ts, w.before args s = true) (hin : ∀ w ∈ u_ws RX7 TX7 10, w ∈ Ts) (hown : s.vm.findClass own = some m.cls) (hK : va_K D vwCl tys s) (hP : va_P D vwCl ws H) (hD : va_D A ws) (hS : va_S A H0 H locs) (q0 : Nat) (he : ws[q0]? = some (a, .inr (7, fs))) (hlink : (Cond.fieldLink own index "LastWord" "spare" "LLastWord$Page;").before args s = true) (hl : 2 < fs.length) {v : Nat} (hdg : decode cc pc = .ok (.putfield index, 3)) (hws : ws.set q0 (a, .inr (7, fs.set 2 (.ref v))) = ws')
    (kk : ∀ (H1 : Heap) (locs1 : List Loc), va_P D vwCl ws' H1 → va_D A ws' → va_S A H0 H1 locs1 → W pr l e R s m args below meth cd H1 locs1 cells slots Q (F0 m (pc + 3) ls rest)) : W pr l e R s m args below meth cd H locs cells slots Q (F0 m pc ls (.ref v :: .ref a :: rest)) := by
  subst hws
  exact va_put (D := D) (ci := 7) (v := .ref v) (ty := .object "LastWord$Page") (C := RX7) (T := TX7) (N := 10) hx hb hts hin tyX7 tyX7_ok nmX7 hown hK hP hD hS q0 he rfl 2 (by decide) hlink (fun _ h => h) rfl (by decide +kernel) rfl (rfl) hl hdg kk
theorem wg_X7_3 (hx : pr.tables.exec = Jvm.exec) (hb : cd.code = cc) (hts : ∀ w ∈ Ts, w.before args s = true) (hin : ∀ w ∈ u_ws RX7 TX7 10, w ∈ Ts) (hown : s.vm.findClass own = some m.cls) (hK : va_K D vwCl tys s) (hP : va_P D vwCl ws H) (q0 : Nat) (he : ws[q0]? = some (a, .inr (7, fs))) (hlink : (Cond.fieldLink own index "LastWord" "affairs" "LLastWord$Affairs;").before args s = true) {v : Value} (hv : fs[3]? = some v) (hdg : decode cc pc = .ok (.getfield index, 3))
    (kk : W pr l e R s m args below meth cd H locs cells slots Q (F0 m (pc + 3) ls (v :: rest))) : W pr l e R s m args below meth cd H locs cells slots Q (F0 m pc ls (.ref a :: rest)) :=
  va_get (D := D) (ci := 7) (C := RX7) (T := TX7) (N := 10) hx hb hts hin hown hK hP q0 he rfl 3 (by decide) hlink (fun _ h => h) hv hdg kk
theorem wg_X7_4 (hx : pr.tables.exec = Jvm.exec) (hb : cd.code = cc) (hts : ∀ w ∈ Ts, w.before args s = true) (hin : ∀ w ∈ u_ws RX7 TX7 10, w ∈ Ts) (hown : s.vm.findClass own = some m.cls) (hK : va_K D vwCl tys s) (hP : va_P D vwCl ws H) (q0 : Nat) (he : ws[q0]? = some (a, .inr (7, fs))) (hlink : (Cond.fieldLink own index "LastWord" "ahead" "LLastWord$Affairs;").before args s = true) {v : Value} (hv : fs[4]? = some v) (hdg : decode cc pc = .ok (.getfield index, 3))
    (kk : W pr l e R s m args below meth cd H locs cells slots Q (F0 m (pc + 3) ls (v :: rest))) : W pr l e R s m args below meth cd H locs cells slots Q (F0 m pc ls (.ref a :: rest)) :=
  va_get (D := D) (ci := 7) (C := RX7) (T := TX7) (N := 10) hx hb hts hin hown hK hP q0 he rfl 4 (by decide) hlink (fun _ h => h) hv hdg kk
theorem wg_X7_5 (hx : pr.tables.exec = Jvm.exec) (hb : cd.code = cc) (hts : ∀ w ∈ Ts, w.before args s = true) (hin : ∀ w ∈ u_ws RX7 TX7 10, w ∈ Ts) (hown : s.vm.findClass own = some m.cls) (hK : va_K D vwCl tys s) (hP : va_P D vwCl ws H) (q0 : Nat) (he : ws[q0]? = some (a, .inr (7, fs))) (hlink : (Cond.fieldLink own index "LastWord" "history" "LLastWord$History;").before args s = true) {v : Value} (hv : fs[5]? = some v) (hdg : decode cc pc = .ok (.getfield index, 3))
    (kk : W pr l e R s m args below meth cd H locs cells slots Q (F0 m (pc + 3) ls (v :: rest))) : W pr l e R s m args below meth cd H locs cells slots Q (F0 m pc ls (.ref a :: rest)) :=
  va_get (D := D) (ci := 7) (C := RX7) (T := TX7) (N := 10) hx hb hts hin hown hK hP q0 he rfl 5 (by decide) hlink (fun _ h => h) hv hdg kk
theorem wg_X7_6 (hx : pr.tables.exec = Jvm.exec) (hb : cd.code = cc) (hts : ∀ w ∈ Ts, w.before args s = true) (hin : ∀ w ∈ u_ws RX7 TX7 10, w ∈ Ts) (hown : s.vm.findClass own = some m.cls) (hK : va_K D vwCl tys s) (hP : va_P D vwCl ws H) (q0 : Nat) (he : ws[q0]? = some (a, .inr (7, fs))) (hlink : (Cond.fieldLink own index "LastWord" "album" "LLastWord$Album;").before args s = true) {v : Value} (hv : fs[6]? = some v) (hdg : decode cc pc = .ok (.getfield index, 3))
    (kk : W pr l e R s m args below meth cd H locs cells slots Q (F0 m (pc + 3) ls (v :: rest))) : W pr l e R s m args below meth cd H locs cells slots Q (F0 m pc ls (.ref a :: rest)) :=
  va_get (D := D) (ci := 7) (C := RX7) (T := TX7) (N := 10) hx hb hts hin hown hK hP q0 he rfl 6 (by decide) hlink (fun _ h => h) hv hdg kk
theorem wg_X7_7 (hx : pr.tables.exec = Jvm.exec) (hb : cd.code = cc) (hts : ∀ w ∈ Ts, w.before args s = true) (hin : ∀ w ∈ u_ws RX7 TX7 10, w ∈ Ts) (hown : s.vm.findClass own = some m.cls) (hK : va_K D vwCl tys s) (hP : va_P D vwCl ws H) (q0 : Nat) (he : ws[q0]? = some (a, .inr (7, fs))) (hlink : (Cond.fieldLink own index "LastWord" "findings" "LLastWord$Findings;").before args s = true) {v : Value} (hv : fs[7]? = some v) (hdg : decode cc pc = .ok (.getfield index, 3))
    (kk : W pr l e R s m args below meth cd H locs cells slots Q (F0 m (pc + 3) ls (v :: rest))) : W pr l e R s m args below meth cd H locs cells slots Q (F0 m pc ls (.ref a :: rest)) :=
  va_get (D := D) (ci := 7) (C := RX7) (T := TX7) (N := 10) hx hb hts hin hown hK hP q0 he rfl 7 (by decide) hlink (fun _ h => h) hv hdg kk
theorem wg_X7_8 (hx : pr.tables.exec = Jvm.exec) (hb : cd.code = cc) (hts : ∀ w ∈ Ts, w.before args s = true) (hin : ∀ w ∈ u_ws RX7 TX7 10, w ∈ Ts) (hown : s.vm.findClass own = some m.cls) (hK : va_K D vwCl tys s) (hP : va_P D vwCl ws H) (q0 : Nat) (he : ws[q0]? = some (a, .inr (7, fs))) (hlink : (Cond.fieldLink own index "LastWord" "course" "LLastWord$Course;").before args s = true) {v : Value} (hv : fs[8]? = some v) (hdg : decode cc pc = .ok (.getfield index, 3))
    (kk : W pr l e R s m args below meth cd H locs cells slots Q (F0 m (pc + 3) ls (v :: rest))) : W pr l e R s m args below meth cd H locs cells slots Q (F0 m pc ls (.ref a :: rest)) :=
  va_get (D := D) (ci := 7) (C := RX7) (T := TX7) (N := 10) hx hb hts hin hown hK hP q0 he rfl 8 (by decide) hlink (fun _ h => h) hv hdg kk
theorem wg_X7_9 (hx : pr.tables.exec = Jvm.exec) (hb : cd.code = cc) (hts : ∀ w ∈ Ts, w.before args s = true) (hin : ∀ w ∈ u_ws RX7 TX7 10, w ∈ Ts) (hown : s.vm.findClass own = some m.cls) (hK : va_K D vwCl tys s) (hP : va_P D vwCl ws H) (q0 : Nat) (he : ws[q0]? = some (a, .inr (7, fs))) (hlink : (Cond.fieldLink own index "LastWord" "asked" "J").before args s = true) {v : Value} (hv : fs[9]? = some v) (hdg : decode cc pc = .ok (.getfield index, 3))
    (kk : W pr l e R s m args below meth cd H locs cells slots Q (F0 m (pc + 3) ls (v :: rest))) : W pr l e R s m args below meth cd H locs cells slots Q (F0 m pc ls (.ref a :: rest)) :=
  va_get (D := D) (ci := 7) (C := RX7) (T := TX7) (N := 10) hx hb hts hin hown hK hP q0 he rfl 9 (by decide) hlink (fun _ h => h) hv hdg kk
theorem wp_X7_9 (hx : pr.tables.exec = Jvm.exec) (hb : cd.code = cc) (hts : ∀ w ∈ Ts, w.before args s = true) (hin : ∀ w ∈ u_ws RX7 TX7 10, w ∈ Ts) (hown : s.vm.findClass own = some m.cls) (hK : va_K D vwCl tys s) (hP : va_P D vwCl ws H) (hD : va_D A ws) (hS : va_S A H0 H locs) (q0 : Nat) (he : ws[q0]? = some (a, .inr (7, fs))) (hlink : (Cond.fieldLink own index "LastWord" "asked" "J").before args s = true) (hl : 9 < fs.length) {v : Int64} (hdg : decode cc pc = .ok (.putfield index, 3)) (hws : ws.set q0 (a, .inr (7, fs.set 9 (.long v))) = ws')
    (kk : ∀ (H1 : Heap) (locs1 : List Loc), va_P D vwCl ws' H1 → va_D A ws' → va_S A H0 H1 locs1 → W pr l e R s m args below meth cd H1 locs1 cells slots Q (F0 m (pc + 3) ls rest)) : W pr l e R s m args below meth cd H locs cells slots Q (F0 m pc ls (.long v :: .ref a :: rest)) := by
  subst hws
  exact va_put (D := D) (ci := 7) (v := .long v) (ty := .long) (C := RX7) (T := TX7) (N := 10) hx hb hts hin tyX7 tyX7_ok nmX7 hown hK hP hD hS q0 he rfl 9 (by decide) hlink (fun _ h => h) rfl (by decide +kernel) rfl (rfl) hl hdg kk
theorem wg_X8_0 (hx : pr.tables.exec = Jvm.exec) (hb : cd.code = cc) (hts : ∀ w ∈ Ts, w.before args s = true) (hin : ∀ w ∈ u_ws RX8 TX8 18, w ∈ Ts) (hown : s.vm.findClass own = some m.cls) (hK : va_K D vwCl tys s) (hP : va_P D vwCl ws H) (q0 : Nat) (he : ws[q0]? = some (a, .inr (8, fs))) (hlink : (Cond.fieldLink own index "LastWordModel" "text" "[I").before args s = true) {v : Value} (hv : fs[0]? = some v) (hdg : decode cc pc = .ok (.getfield index, 3))
    (kk : W pr l e R s m args below meth cd H locs cells slots Q (F0 m (pc + 3) ls (v :: rest))) : W pr l e R s m args below meth cd H locs cells slots Q (F0 m pc ls (.ref a :: rest)) :=
  va_get (D := D) (ci := 8) (C := RX8) (T := TX8) (N := 18) hx hb hts hin hown hK hP q0 he rfl 0 (by decide) hlink (fun _ h => h) hv hdg kk
theorem wg_X8_1 (hx : pr.tables.exec = Jvm.exec) (hb : cd.code = cc) (hts : ∀ w ∈ Ts, w.before args s = true) (hin : ∀ w ∈ u_ws RX8 TX8 18, w ∈ Ts) (hown : s.vm.findClass own = some m.cls) (hK : va_K D vwCl tys s) (hP : va_P D vwCl ws H) (q0 : Nat) (he : ws[q0]? = some (a, .inr (8, fs))) (hlink : (Cond.fieldLink own index "LastWordModel" "size" "I").before args s = true) {v : Value} (hv : fs[1]? = some v) (hdg : decode cc pc = .ok (.getfield index, 3))
    (kk : W pr l e R s m args below meth cd H locs cells slots Q (F0 m (pc + 3) ls (v :: rest))) : W pr l e R s m args below meth cd H locs cells slots Q (F0 m pc ls (.ref a :: rest)) :=
  va_get (D := D) (ci := 8) (C := RX8) (T := TX8) (N := 18) hx hb hts hin hown hK hP q0 he rfl 1 (by decide) hlink (fun _ h => h) hv hdg kk
theorem wp_X8_1 (hx : pr.tables.exec = Jvm.exec) (hb : cd.code = cc) (hts : ∀ w ∈ Ts, w.before args s = true) (hin : ∀ w ∈ u_ws RX8 TX8 18, w ∈ Ts) (hown : s.vm.findClass own = some m.cls) (hK : va_K D vwCl tys s) (hP : va_P D vwCl ws H) (hD : va_D A ws) (hS : va_S A H0 H locs) (q0 : Nat) (he : ws[q0]? = some (a, .inr (8, fs))) (hlink : (Cond.fieldLink own index "LastWordModel" "size" "I").before args s = true) (hl : 1 < fs.length) {v : Int32} (hdg : decode cc pc = .ok (.putfield index, 3)) (hws : ws.set q0 (a, .inr (8, fs.set 1 (.int v))) = ws')
    (kk : ∀ (H1 : Heap) (locs1 : List Loc), va_P D vwCl ws' H1 → va_D A ws' → va_S A H0 H1 locs1 → W pr l e R s m args below meth cd H1 locs1 cells slots Q (F0 m (pc + 3) ls rest)) : W pr l e R s m args below meth cd H locs cells slots Q (F0 m pc ls (.int v :: .ref a :: rest)) := by
  subst hws
  exact va_put (D := D) (ci := 8) (v := .int v) (ty := .int) (C := RX8) (T := TX8) (N := 18) hx hb hts hin tyX8 tyX8_ok nmX8 hown hK hP hD hS q0 he rfl 1 (by decide) hlink (fun _ h => h) rfl (by decide +kernel) rfl (rfl) hl hdg kk
theorem wg_X8_2 (hx : pr.tables.exec = Jvm.exec) (hb : cd.code = cc) (hts : ∀ w ∈ Ts, w.before args s = true) (hin : ∀ w ∈ u_ws RX8 TX8 18, w ∈ Ts) (hown : s.vm.findClass own = some m.cls) (hK : va_K D vwCl tys s) (hP : va_P D vwCl ws H) (q0 : Nat) (he : ws[q0]? = some (a, .inr (8, fs))) (hlink : (Cond.fieldLink own index "LastWordModel" "at" "I").before args s = true) {v : Value} (hv : fs[2]? = some v) (hdg : decode cc pc = .ok (.getfield index, 3))
    (kk : W pr l e R s m args below meth cd H locs cells slots Q (F0 m (pc + 3) ls (v :: rest))) : W pr l e R s m args below meth cd H locs cells slots Q (F0 m pc ls (.ref a :: rest)) :=
  va_get (D := D) (ci := 8) (C := RX8) (T := TX8) (N := 18) hx hb hts hin hown hK hP q0 he rfl 2 (by decide) hlink (fun _ h => h) hv hdg kk
theorem wp_X8_2 (hx : pr.tables.exec = Jvm.exec) (hb : cd.code = cc) (hts : ∀ w ∈ Ts, w.before args s = true) (hin : ∀ w ∈ u_ws RX8 TX8 18, w ∈ Ts) (hown : s.vm.findClass own = some m.cls) (hK : va_K D vwCl tys s) (hP : va_P D vwCl ws H) (hD : va_D A ws) (hS : va_S A H0 H locs) (q0 : Nat) (he : ws[q0]? = some (a, .inr (8, fs))) (hlink : (Cond.fieldLink own index "LastWordModel" "at" "I").before args s = true) (hl : 2 < fs.length) {v : Int32} (hdg : decode cc pc = .ok (.putfield index, 3)) (hws : ws.set q0 (a, .inr (8, fs.set 2 (.int v))) = ws')
    (kk : ∀ (H1 : Heap) (locs1 : List Loc), va_P D vwCl ws' H1 → va_D A ws' → va_S A H0 H1 locs1 → W pr l e R s m args below meth cd H1 locs1 cells slots Q (F0 m (pc + 3) ls rest)) : W pr l e R s m args below meth cd H locs cells slots Q (F0 m pc ls (.int v :: .ref a :: rest)) := by
  subst hws
  exact va_put (D := D) (ci := 8) (v := .int v) (ty := .int) (C := RX8) (T := TX8) (N := 18) hx hb hts hin tyX8 tyX8_ok nmX8 hown hK hP hD hS q0 he rfl 2 (by decide) hlink (fun _ h => h) rfl (by decide +kernel) rfl (rfl) hl hdg kk
theorem wg_X8_3 (hx : pr.tables.exec = Jvm.exec) (hb : cd.code = cc) (hts : ∀ w ∈ Ts, w.before args s = true) (hin : ∀ w ∈ u_ws RX8 TX8 18, w ∈ Ts) (hown : s.vm.findClass own = some m.cls) (hK : va_K D vwCl tys s) (hP : va_P D vwCl ws H) (q0 : Nat) (he : ws[q0]? = some (a, .inr (8, fs))) (hlink : (Cond.fieldLink own index "LastWordModel" "begin" "I").before args s = true) {v : Value} (hv : fs[3]? = some v) (hdg : decode cc pc = .ok (.getfield index, 3))
    (kk : W pr l e R s m args below meth cd H locs cells slots Q (F0 m (pc + 3) ls (v :: rest))) : W pr l e R s m args below meth cd H locs cells slots Q (F0 m pc ls (.ref a :: rest)) :=
  va_get (D := D) (ci := 8) (C := RX8) (T := TX8) (N := 18) hx hb hts hin hown hK hP q0 he rfl 3 (by decide) hlink (fun _ h => h) hv hdg kk
theorem wp_X8_3 (hx : pr.tables.exec = Jvm.exec) (hb : cd.code = cc) (hts : ∀ w ∈ Ts, w.before args s = true) (hin : ∀ w ∈ u_ws RX8 TX8 18, w ∈ Ts) (hown : s.vm.findClass own = some m.cls) (hK : va_K D vwCl tys s) (hP : va_P D vwCl ws H) (hD : va_D A ws) (hS : va_S A H0 H locs) (q0 : Nat) (he : ws[q0]? = some (a, .inr (8, fs))) (hlink : (Cond.fieldLink own index "LastWordModel" "begin" "I").before args s = true) (hl : 3 < fs.length) {v : Int32} (hdg : decode cc pc = .ok (.putfield index, 3)) (hws : ws.set q0 (a, .inr (8, fs.set 3 (.int v))) = ws')
    (kk : ∀ (H1 : Heap) (locs1 : List Loc), va_P D vwCl ws' H1 → va_D A ws' → va_S A H0 H1 locs1 → W pr l e R s m args below meth cd H1 locs1 cells slots Q (F0 m (pc + 3) ls rest)) : W pr l e R s m args below meth cd H locs cells slots Q (F0 m pc ls (.int v :: .ref a :: rest)) := by
  subst hws
  exact va_put (D := D) (ci := 8) (v := .int v) (ty := .int) (C := RX8) (T := TX8) (N := 18) hx hb hts hin tyX8 tyX8_ok nmX8 hown hK hP hD hS q0 he rfl 3 (by decide) hlink (fun _ h => h) rfl (by decide +kernel) rfl (rfl) hl hdg kk
theorem wg_X8_4 (hx : pr.tables.exec = Jvm.exec) (hb : cd.code = cc) (hts : ∀ w ∈ Ts, w.before args s = true) (hin : ∀ w ∈ u_ws RX8 TX8 18, w ∈ Ts) (hown : s.vm.findClass own = some m.cls) (hK : va_K D vwCl tys s) (hP : va_P D vwCl ws H) (q0 : Nat) (he : ws[q0]? = some (a, .inr (8, fs))) (hlink : (Cond.fieldLink own index "LastWordModel" "token" "I").before args s = true) {v : Value} (hv : fs[4]? = some v) (hdg : decode cc pc = .ok (.getfield index, 3))
    (kk : W pr l e R s m args below meth cd H locs cells slots Q (F0 m (pc + 3) ls (v :: rest))) : W pr l e R s m args below meth cd H locs cells slots Q (F0 m pc ls (.ref a :: rest)) :=
  va_get (D := D) (ci := 8) (C := RX8) (T := TX8) (N := 18) hx hb hts hin hown hK hP q0 he rfl 4 (by decide) hlink (fun _ h => h) hv hdg kk
theorem wp_X8_4 (hx : pr.tables.exec = Jvm.exec) (hb : cd.code = cc) (hts : ∀ w ∈ Ts, w.before args s = true) (hin : ∀ w ∈ u_ws RX8 TX8 18, w ∈ Ts) (hown : s.vm.findClass own = some m.cls) (hK : va_K D vwCl tys s) (hP : va_P D vwCl ws H) (hD : va_D A ws) (hS : va_S A H0 H locs) (q0 : Nat) (he : ws[q0]? = some (a, .inr (8, fs))) (hlink : (Cond.fieldLink own index "LastWordModel" "token" "I").before args s = true) (hl : 4 < fs.length) {v : Int32} (hdg : decode cc pc = .ok (.putfield index, 3)) (hws : ws.set q0 (a, .inr (8, fs.set 4 (.int v))) = ws')
    (kk : ∀ (H1 : Heap) (locs1 : List Loc), va_P D vwCl ws' H1 → va_D A ws' → va_S A H0 H1 locs1 → W pr l e R s m args below meth cd H1 locs1 cells slots Q (F0 m (pc + 3) ls rest)) : W pr l e R s m args below meth cd H locs cells slots Q (F0 m pc ls (.int v :: .ref a :: rest)) := by
  subst hws
  exact va_put (D := D) (ci := 8) (v := .int v) (ty := .int) (C := RX8) (T := TX8) (N := 18) hx hb hts hin tyX8 tyX8_ok nmX8 hown hK hP hD hS q0 he rfl 4 (by decide) hlink (fun _ h => h) rfl (by decide +kernel) rfl (rfl) hl hdg kk
theorem wg_X8_5 (hx : pr.tables.exec = Jvm.exec) (hb : cd.code = cc) (hts : ∀ w ∈ Ts, w.before args s = true) (hin : ∀ w ∈ u_ws RX8 TX8 18, w ∈ Ts) (hown : s.vm.findClass own = some m.cls) (hK : va_K D vwCl tys s) (hP : va_P D vwCl ws H) (q0 : Nat) (he : ws[q0]? = some (a, .inr (8, fs))) (hlink : (Cond.fieldLink own index "LastWordModel" "told" "I").before args s = true) {v : Value} (hv : fs[5]? = some v) (hdg : decode cc pc = .ok (.getfield index, 3))
    (kk : W pr l e R s m args below meth cd H locs cells slots Q (F0 m (pc + 3) ls (v :: rest))) : W pr l e R s m args below meth cd H locs cells slots Q (F0 m pc ls (.ref a :: rest)) :=
  va_get (D := D) (ci := 8) (C := RX8) (T := TX8) (N := 18) hx hb hts hin hown hK hP q0 he rfl 5 (by decide) hlink (fun _ h => h) hv hdg kk
theorem wp_X8_5 (hx : pr.tables.exec = Jvm.exec) (hb : cd.code = cc) (hts : ∀ w ∈ Ts, w.before args s = true) (hin : ∀ w ∈ u_ws RX8 TX8 18, w ∈ Ts) (hown : s.vm.findClass own = some m.cls) (hK : va_K D vwCl tys s) (hP : va_P D vwCl ws H) (hD : va_D A ws) (hS : va_S A H0 H locs) (q0 : Nat) (he : ws[q0]? = some (a, .inr (8, fs))) (hlink : (Cond.fieldLink own index "LastWordModel" "told" "I").before args s = true) (hl : 5 < fs.length) {v : Int32} (hdg : decode cc pc = .ok (.putfield index, 3)) (hws : ws.set q0 (a, .inr (8, fs.set 5 (.int v))) = ws')
    (kk : ∀ (H1 : Heap) (locs1 : List Loc), va_P D vwCl ws' H1 → va_D A ws' → va_S A H0 H1 locs1 → W pr l e R s m args below meth cd H1 locs1 cells slots Q (F0 m (pc + 3) ls rest)) : W pr l e R s m args below meth cd H locs cells slots Q (F0 m pc ls (.int v :: .ref a :: rest)) := by
  subst hws
  exact va_put (D := D) (ci := 8) (v := .int v) (ty := .int) (C := RX8) (T := TX8) (N := 18) hx hb hts hin tyX8 tyX8_ok nmX8 hown hK hP hD hS q0 he rfl 5 (by decide) hlink (fun _ h => h) rfl (by decide +kernel) rfl (rfl) hl hdg kk
theorem wg_X8_6 (hx : pr.tables.exec = Jvm.exec) (hb : cd.code = cc) (hts : ∀ w ∈ Ts, w.before args s = true) (hin : ∀ w ∈ u_ws RX8 TX8 18, w ∈ Ts) (hown : s.vm.findClass own = some m.cls) (hK : va_K D vwCl tys s) (hP : va_P D vwCl ws H) (q0 : Nat) (he : ws[q0]? = some (a, .inr (8, fs))) (hlink : (Cond.fieldLink own index "LastWordModel" "read" "[I").before args s = true) {v : Value} (hv : fs[6]? = some v) (hdg : decode cc pc = .ok (.getfield index, 3))
    (kk : W pr l e R s m args below meth cd H locs cells slots Q (F0 m (pc + 3) ls (v :: rest))) : W pr l e R s m args below meth cd H locs cells slots Q (F0 m pc ls (.ref a :: rest)) :=
  va_get (D := D) (ci := 8) (C := RX8) (T := TX8) (N := 18) hx hb hts hin hown hK hP q0 he rfl 6 (by decide) hlink (fun _ h => h) hv hdg kk
theorem wg_X8_7 (hx : pr.tables.exec = Jvm.exec) (hb : cd.code = cc) (hts : ∀ w ∈ Ts, w.before args s = true) (hin : ∀ w ∈ u_ws RX8 TX8 18, w ∈ Ts) (hown : s.vm.findClass own = some m.cls) (hK : va_K D vwCl tys s) (hP : va_P D vwCl ws H) (q0 : Nat) (he : ws[q0]? = some (a, .inr (8, fs))) (hlink : (Cond.fieldLink own index "LastWordModel" "paper" "[I").before args s = true) {v : Value} (hv : fs[7]? = some v) (hdg : decode cc pc = .ok (.getfield index, 3))
    (kk : W pr l e R s m args below meth cd H locs cells slots Q (F0 m (pc + 3) ls (v :: rest))) : W pr l e R s m args below meth cd H locs cells slots Q (F0 m pc ls (.ref a :: rest)) :=
  va_get (D := D) (ci := 8) (C := RX8) (T := TX8) (N := 18) hx hb hts hin hown hK hP q0 he rfl 7 (by decide) hlink (fun _ h => h) hv hdg kk
theorem wg_X8_8 (hx : pr.tables.exec = Jvm.exec) (hb : cd.code = cc) (hts : ∀ w ∈ Ts, w.before args s = true) (hin : ∀ w ∈ u_ws RX8 TX8 18, w ∈ Ts) (hown : s.vm.findClass own = some m.cls) (hK : va_K D vwCl tys s) (hP : va_P D vwCl ws H) (q0 : Nat) (he : ws[q0]? = some (a, .inr (8, fs))) (hlink : (Cond.fieldLink own index "LastWordModel" "now" "[I").before args s = true) {v : Value} (hv : fs[8]? = some v) (hdg : decode cc pc = .ok (.getfield index, 3))
    (kk : W pr l e R s m args below meth cd H locs cells slots Q (F0 m (pc + 3) ls (v :: rest))) : W pr l e R s m args below meth cd H locs cells slots Q (F0 m pc ls (.ref a :: rest)) :=
  va_get (D := D) (ci := 8) (C := RX8) (T := TX8) (N := 18) hx hb hts hin hown hK hP q0 he rfl 8 (by decide) hlink (fun _ h => h) hv hdg kk
theorem wg_X8_9 (hx : pr.tables.exec = Jvm.exec) (hb : cd.code = cc) (hts : ∀ w ∈ Ts, w.before args s = true) (hin : ∀ w ∈ u_ws RX8 TX8 18, w ∈ Ts) (hown : s.vm.findClass own = some m.cls) (hK : va_K D vwCl tys s) (hP : va_P D vwCl ws H) (q0 : Nat) (he : ws[q0]? = some (a, .inr (8, fs))) (hlink : (Cond.fieldLink own index "LastWordModel" "undone" "[I").before args s = true) {v : Value} (hv : fs[9]? = some v) (hdg : decode cc pc = .ok (.getfield index, 3))
    (kk : W pr l e R s m args below meth cd H locs cells slots Q (F0 m (pc + 3) ls (v :: rest))) : W pr l e R s m args below meth cd H locs cells slots Q (F0 m pc ls (.ref a :: rest)) :=
  va_get (D := D) (ci := 8) (C := RX8) (T := TX8) (N := 18) hx hb hts hin hown hK hP q0 he rfl 9 (by decide) hlink (fun _ h => h) hv hdg kk
theorem wg_X8_10 (hx : pr.tables.exec = Jvm.exec) (hb : cd.code = cc) (hts : ∀ w ∈ Ts, w.before args s = true) (hin : ∀ w ∈ u_ws RX8 TX8 18, w ∈ Ts) (hown : s.vm.findClass own = some m.cls) (hK : va_K D vwCl tys s) (hP : va_P D vwCl ws H) (q0 : Nat) (he : ws[q0]? = some (a, .inr (8, fs))) (hlink : (Cond.fieldLink own index "LastWordModel" "undos" "I").before args s = true) {v : Value} (hv : fs[10]? = some v) (hdg : decode cc pc = .ok (.getfield index, 3))
    (kk : W pr l e R s m args below meth cd H locs cells slots Q (F0 m (pc + 3) ls (v :: rest))) : W pr l e R s m args below meth cd H locs cells slots Q (F0 m pc ls (.ref a :: rest)) :=
  va_get (D := D) (ci := 8) (C := RX8) (T := TX8) (N := 18) hx hb hts hin hown hK hP q0 he rfl 10 (by decide) hlink (fun _ h => h) hv hdg kk
theorem wp_X8_10 (hx : pr.tables.exec = Jvm.exec) (hb : cd.code = cc) (hts : ∀ w ∈ Ts, w.before args s = true) (hin : ∀ w ∈ u_ws RX8 TX8 18, w ∈ Ts) (hown : s.vm.findClass own = some m.cls) (hK : va_K D vwCl tys s) (hP : va_P D vwCl ws H) (hD : va_D A ws) (hS : va_S A H0 H locs) (q0 : Nat) (he : ws[q0]? = some (a, .inr (8, fs))) (hlink : (Cond.fieldLink own index "LastWordModel" "undos" "I").before args s = true) (hl : 10 < fs.length) {v : Int32} (hdg : decode cc pc = .ok (.putfield index, 3)) (hws : ws.set q0 (a, .inr (8, fs.set 10 (.int v))) = ws')
    (kk : ∀ (H1 : Heap) (locs1 : List Loc), va_P D vwCl ws' H1 → va_D A ws' → va_S A H0 H1 locs1 → W pr l e R s m args below meth cd H1 locs1 cells slots Q (F0 m (pc + 3) ls rest)) : W pr l e R s m args below meth cd H locs cells slots Q (F0 m pc ls (.int v :: .ref a :: rest)) := by
  subst hws
  exact va_put (D := D) (ci := 8) (v := .int v) (ty := .int) (C := RX8) (T := TX8) (N := 18) hx hb hts hin tyX8 tyX8_ok nmX8 hown hK hP hD hS q0 he rfl 10 (by decide) hlink (fun _ h => h) rfl (by decide +kernel) rfl (rfl) hl hdg kk
theorem wg_X8_11 (hx : pr.tables.exec = Jvm.exec) (hb : cd.code = cc) (hts : ∀ w ∈ Ts, w.before args s = true) (hin : ∀ w ∈ u_ws RX8 TX8 18, w ∈ Ts) (hown : s.vm.findClass own = some m.cls) (hK : va_K D vwCl tys s) (hP : va_P D vwCl ws H) (q0 : Nat) (he : ws[q0]? = some (a, .inr (8, fs))) (hlink : (Cond.fieldLink own index "LastWordModel" "newly" "I").before args s = true) {v : Value} (hv : fs[11]? = some v) (hdg : decode cc pc = .ok (.getfield index, 3))
    (kk : W pr l e R s m args below meth cd H locs cells slots Q (F0 m (pc + 3) ls (v :: rest))) : W pr l e R s m args below meth cd H locs cells slots Q (F0 m pc ls (.ref a :: rest)) :=
  va_get (D := D) (ci := 8) (C := RX8) (T := TX8) (N := 18) hx hb hts hin hown hK hP q0 he rfl 11 (by decide) hlink (fun _ h => h) hv hdg kk
theorem wp_X8_11 (hx : pr.tables.exec = Jvm.exec) (hb : cd.code = cc) (hts : ∀ w ∈ Ts, w.before args s = true) (hin : ∀ w ∈ u_ws RX8 TX8 18, w ∈ Ts) (hown : s.vm.findClass own = some m.cls) (hK : va_K D vwCl tys s) (hP : va_P D vwCl ws H) (hD : va_D A ws) (hS : va_S A H0 H locs) (q0 : Nat) (he : ws[q0]? = some (a, .inr (8, fs))) (hlink : (Cond.fieldLink own index "LastWordModel" "newly" "I").before args s = true) (hl : 11 < fs.length) {v : Int32} (hdg : decode cc pc = .ok (.putfield index, 3)) (hws : ws.set q0 (a, .inr (8, fs.set 11 (.int v))) = ws')
    (kk : ∀ (H1 : Heap) (locs1 : List Loc), va_P D vwCl ws' H1 → va_D A ws' → va_S A H0 H1 locs1 → W pr l e R s m args below meth cd H1 locs1 cells slots Q (F0 m (pc + 3) ls rest)) : W pr l e R s m args below meth cd H locs cells slots Q (F0 m pc ls (.int v :: .ref a :: rest)) := by
  subst hws
  exact va_put (D := D) (ci := 8) (v := .int v) (ty := .int) (C := RX8) (T := TX8) (N := 18) hx hb hts hin tyX8 tyX8_ok nmX8 hown hK hP hD hS q0 he rfl 11 (by decide) hlink (fun _ h => h) rfl (by decide +kernel) rfl (rfl) hl hdg kk
theorem wg_X8_12 (hx : pr.tables.exec = Jvm.exec) (hb : cd.code = cc) (hts : ∀ w ∈ Ts, w.before args s = true) (hin : ∀ w ∈ u_ws RX8 TX8 18, w ∈ Ts) (hown : s.vm.findClass own = some m.cls) (hK : va_K D vwCl tys s) (hP : va_P D vwCl ws H) (q0 : Nat) (he : ws[q0]? = some (a, .inr (8, fs))) (hlink : (Cond.fieldLink own index "LastWordModel" "aside" "[I").before args s = true) {v : Value} (hv : fs[12]? = some v) (hdg : decode cc pc = .ok (.getfield index, 3))
    (kk : W pr l e R s m args below meth cd H locs cells slots Q (F0 m (pc + 3) ls (v :: rest))) : W pr l e R s m args below meth cd H locs cells slots Q (F0 m pc ls (.ref a :: rest)) :=
  va_get (D := D) (ci := 8) (C := RX8) (T := TX8) (N := 18) hx hb hts hin hown hK hP q0 he rfl 12 (by decide) hlink (fun _ h => h) hv hdg kk
theorem wg_X8_13 (hx : pr.tables.exec = Jvm.exec) (hb : cd.code = cc) (hts : ∀ w ∈ Ts, w.before args s = true) (hin : ∀ w ∈ u_ws RX8 TX8 18, w ∈ Ts) (hown : s.vm.findClass own = some m.cls) (hK : va_K D vwCl tys s) (hP : va_P D vwCl ws H) (q0 : Nat) (he : ws[q0]? = some (a, .inr (8, fs))) (hlink : (Cond.fieldLink own index "LastWordModel" "lastWriter" "I").before args s = true) {v : Value} (hv : fs[13]? = some v) (hdg : decode cc pc = .ok (.getfield index, 3))
    (kk : W pr l e R s m args below meth cd H locs cells slots Q (F0 m (pc + 3) ls (v :: rest))) : W pr l e R s m args below meth cd H locs cells slots Q (F0 m pc ls (.ref a :: rest)) :=
  va_get (D := D) (ci := 8) (C := RX8) (T := TX8) (N := 18) hx hb hts hin hown hK hP q0 he rfl 13 (by decide) hlink (fun _ h => h) hv hdg kk
theorem wp_X8_13 (hx : pr.tables.exec = Jvm.exec) (hb : cd.code = cc) (hts : ∀ w ∈ Ts, w.before args s = true) (hin : ∀ w ∈ u_ws RX8 TX8 18, w ∈ Ts) (hown : s.vm.findClass own = some m.cls) (hK : va_K D vwCl tys s) (hP : va_P D vwCl ws H) (hD : va_D A ws) (hS : va_S A H0 H locs) (q0 : Nat) (he : ws[q0]? = some (a, .inr (8, fs))) (hlink : (Cond.fieldLink own index "LastWordModel" "lastWriter" "I").before args s = true) (hl : 13 < fs.length) {v : Int32} (hdg : decode cc pc = .ok (.putfield index, 3)) (hws : ws.set q0 (a, .inr (8, fs.set 13 (.int v))) = ws')
    (kk : ∀ (H1 : Heap) (locs1 : List Loc), va_P D vwCl ws' H1 → va_D A ws' → va_S A H0 H1 locs1 → W pr l e R s m args below meth cd H1 locs1 cells slots Q (F0 m (pc + 3) ls rest)) : W pr l e R s m args below meth cd H locs cells slots Q (F0 m pc ls (.int v :: .ref a :: rest)) := by
  subst hws
  exact va_put (D := D) (ci := 8) (v := .int v) (ty := .int) (C := RX8) (T := TX8) (N := 18) hx hb hts hin tyX8 tyX8_ok nmX8 hown hK hP hD hS q0 he rfl 13 (by decide) hlink (fun _ h => h) rfl (by decide +kernel) rfl (rfl) hl hdg kk
theorem wg_X8_14 (hx : pr.tables.exec = Jvm.exec) (hb : cd.code = cc) (hts : ∀ w ∈ Ts, w.before args s = true) (hin : ∀ w ∈ u_ws RX8 TX8 18, w ∈ Ts) (hown : s.vm.findClass own = some m.cls) (hK : va_K D vwCl tys s) (hP : va_P D vwCl ws H) (q0 : Nat) (he : ws[q0]? = some (a, .inr (8, fs))) (hlink : (Cond.fieldLink own index "LastWordModel" "founds" "I").before args s = true) {v : Value} (hv : fs[14]? = some v) (hdg : decode cc pc = .ok (.getfield index, 3))
    (kk : W pr l e R s m args below meth cd H locs cells slots Q (F0 m (pc + 3) ls (v :: rest))) : W pr l e R s m args below meth cd H locs cells slots Q (F0 m pc ls (.ref a :: rest)) :=
  va_get (D := D) (ci := 8) (C := RX8) (T := TX8) (N := 18) hx hb hts hin hown hK hP q0 he rfl 14 (by decide) hlink (fun _ h => h) hv hdg kk
theorem wp_X8_14 (hx : pr.tables.exec = Jvm.exec) (hb : cd.code = cc) (hts : ∀ w ∈ Ts, w.before args s = true) (hin : ∀ w ∈ u_ws RX8 TX8 18, w ∈ Ts) (hown : s.vm.findClass own = some m.cls) (hK : va_K D vwCl tys s) (hP : va_P D vwCl ws H) (hD : va_D A ws) (hS : va_S A H0 H locs) (q0 : Nat) (he : ws[q0]? = some (a, .inr (8, fs))) (hlink : (Cond.fieldLink own index "LastWordModel" "founds" "I").before args s = true) (hl : 14 < fs.length) {v : Int32} (hdg : decode cc pc = .ok (.putfield index, 3)) (hws : ws.set q0 (a, .inr (8, fs.set 14 (.int v))) = ws')
    (kk : ∀ (H1 : Heap) (locs1 : List Loc), va_P D vwCl ws' H1 → va_D A ws' → va_S A H0 H1 locs1 → W pr l e R s m args below meth cd H1 locs1 cells slots Q (F0 m (pc + 3) ls rest)) : W pr l e R s m args below meth cd H locs cells slots Q (F0 m pc ls (.int v :: .ref a :: rest)) := by
  subst hws
  exact va_put (D := D) (ci := 8) (v := .int v) (ty := .int) (C := RX8) (T := TX8) (N := 18) hx hb hts hin tyX8 tyX8_ok nmX8 hown hK hP hD hS q0 he rfl 14 (by decide) hlink (fun _ h => h) rfl (by decide +kernel) rfl (rfl) hl hdg kk
theorem wg_X8_15 (hx : pr.tables.exec = Jvm.exec) (hb : cd.code = cc) (hts : ∀ w ∈ Ts, w.before args s = true) (hin : ∀ w ∈ u_ws RX8 TX8 18, w ∈ Ts) (hown : s.vm.findClass own = some m.cls) (hK : va_K D vwCl tys s) (hP : va_P D vwCl ws H) (q0 : Nat) (he : ws[q0]? = some (a, .inr (8, fs))) (hlink : (Cond.fieldLink own index "LastWordModel" "finds" "[I").before args s = true) {v : Value} (hv : fs[15]? = some v) (hdg : decode cc pc = .ok (.getfield index, 3))
    (kk : W pr l e R s m args below meth cd H locs cells slots Q (F0 m (pc + 3) ls (v :: rest))) : W pr l e R s m args below meth cd H locs cells slots Q (F0 m pc ls (.ref a :: rest)) :=
  va_get (D := D) (ci := 8) (C := RX8) (T := TX8) (N := 18) hx hb hts hin hown hK hP q0 he rfl 15 (by decide) hlink (fun _ h => h) hv hdg kk
theorem wg_X8_16 (hx : pr.tables.exec = Jvm.exec) (hb : cd.code = cc) (hts : ∀ w ∈ Ts, w.before args s = true) (hin : ∀ w ∈ u_ws RX8 TX8 18, w ∈ Ts) (hown : s.vm.findClass own = some m.cls) (hK : va_K D vwCl tys s) (hP : va_P D vwCl ws H) (q0 : Nat) (he : ws[q0]? = some (a, .inr (8, fs))) (hlink : (Cond.fieldLink own index "LastWordModel" "trace" "J").before args s = true) {v : Value} (hv : fs[16]? = some v) (hdg : decode cc pc = .ok (.getfield index, 3))
    (kk : W pr l e R s m args below meth cd H locs cells slots Q (F0 m (pc + 3) ls (v :: rest))) : W pr l e R s m args below meth cd H locs cells slots Q (F0 m pc ls (.ref a :: rest)) :=
  va_get (D := D) (ci := 8) (C := RX8) (T := TX8) (N := 18) hx hb hts hin hown hK hP q0 he rfl 16 (by decide) hlink (fun _ h => h) hv hdg kk
theorem wp_X8_16 (hx : pr.tables.exec = Jvm.exec) (hb : cd.code = cc) (hts : ∀ w ∈ Ts, w.before args s = true) (hin : ∀ w ∈ u_ws RX8 TX8 18, w ∈ Ts) (hown : s.vm.findClass own = some m.cls) (hK : va_K D vwCl tys s) (hP : va_P D vwCl ws H) (hD : va_D A ws) (hS : va_S A H0 H locs) (q0 : Nat) (he : ws[q0]? = some (a, .inr (8, fs))) (hlink : (Cond.fieldLink own index "LastWordModel" "trace" "J").before args s = true) (hl : 16 < fs.length) {v : Int64} (hdg : decode cc pc = .ok (.putfield index, 3)) (hws : ws.set q0 (a, .inr (8, fs.set 16 (.long v))) = ws')
    (kk : ∀ (H1 : Heap) (locs1 : List Loc), va_P D vwCl ws' H1 → va_D A ws' → va_S A H0 H1 locs1 → W pr l e R s m args below meth cd H1 locs1 cells slots Q (F0 m (pc + 3) ls rest)) : W pr l e R s m args below meth cd H locs cells slots Q (F0 m pc ls (.long v :: .ref a :: rest)) := by
  subst hws
  exact va_put (D := D) (ci := 8) (v := .long v) (ty := .long) (C := RX8) (T := TX8) (N := 18) hx hb hts hin tyX8 tyX8_ok nmX8 hown hK hP hD hS q0 he rfl 16 (by decide) hlink (fun _ h => h) rfl (by decide +kernel) rfl (rfl) hl hdg kk
theorem wg_X8_17 (hx : pr.tables.exec = Jvm.exec) (hb : cd.code = cc) (hts : ∀ w ∈ Ts, w.before args s = true) (hin : ∀ w ∈ u_ws RX8 TX8 18, w ∈ Ts) (hown : s.vm.findClass own = some m.cls) (hK : va_K D vwCl tys s) (hP : va_P D vwCl ws H) (q0 : Nat) (he : ws[q0]? = some (a, .inr (8, fs))) (hlink : (Cond.fieldLink own index "LastWordModel" "kept" "[I").before args s = true) {v : Value} (hv : fs[17]? = some v) (hdg : decode cc pc = .ok (.getfield index, 3))
    (kk : W pr l e R s m args below meth cd H locs cells slots Q (F0 m (pc + 3) ls (v :: rest))) : W pr l e R s m args below meth cd H locs cells slots Q (F0 m pc ls (.ref a :: rest)) :=
  va_get (D := D) (ci := 8) (C := RX8) (T := TX8) (N := 18) hx hb hts hin hown hK hP q0 he rfl 17 (by decide) hlink (fun _ h => h) hv hdg kk
end WKF
end
section
/-! ===== Page ===== -/
def nW (π : wRec) : Nat := (π 0 0).toNatClampNeg
def ixOK (x : Int32) (n : Nat) : Prop := x = nI x.toNatClampNeg ∧ x.toNatClampNeg < n
def wfP (π : wRec) : Prop := π 0 0 = nI (nW π) ∧ nW π ≤ 6 ∧ ∀ w, w < nW π → ixOK (π 3 w) 6
def ansL (π : wRec) (w : Int32) (s : Nat) (laid : Int32) : Nat → Int32 × Int32
  | 0 => (-9, 0)
  | x + 1 => if (nI x ≠ w ∧ (laid >>> (nI x &&& 31)) &&& 1 = 0) ∧ (ansL π w s laid x).2 < π (5 + x) s then (nI x, π (5 + x) s) else ansL π w s laid x
def answererF (π : wRec) (w : Int32) (s : Nat) (laid : Int32) : Int32 := (ansL π w s laid (nW π)).1
def blankF (π : wRec) : wRec := va_up (va_up π 0 (fun _ => 0)) 1 (fun _ => 9)
def onF (π : wRec) (w s : Nat) : Int32 := if π 3 w = 5 then nI s else π 3 w

abbrev rmX5_blank : Room := { frames := 0, cells := 0, slots := 0, locals := 0 }
theorem hd_X5_blank : yX5_blank.cls = RX5 ∧ yX5_blank.cls ≠ "java/lang/invoke/MethodHandle" ∧ yX5_blank.cls ≠ "java/lang/invoke/VarHandle" ∧ (parseMethodDescriptor yX5_blank.desc).map (fun d => d.parameters.length) = some 0 := by decide +kernel
set_option maxHeartbeats 4000000 in
set_option maxRecDepth 100000 in
theorem c_X5_blank (l : Launch) (D : va_G) (c : Nat → ClassId) (p : Nat → Nat) (π : Nat → Nat → Int32) : wk_UpV l yX5_blank wsX5_blank rmX5_blank D (tysL c) [.ref (p 0)] (pageW c p π) (pageW c p (blankF π)) := by
  refine wk_mkV (cc := cX5_blank) (maxL := 1) (by decide) rfl (Nat.le_of_ble_eq_true rfl) ?_
  intro A pr ev ss mm args below meth cd ls H H0 Q hst hP hK hD hS hA hl ret
  obtain ⟨hx, hb, hml, hown, hts, -⟩ := hst
  have hown : ss.vm.findClass RX5 = some mm.cls := hown
  have hl : lv_has ls 1 [(0, .ref (p 0))] := hl
  have k1 := hts (.fieldLink RX5 27 "LastWord$Page" "writers" "I") (List.mem_of_getElem? (i := 1) rfl)
  have k2 := hts (.fieldLink RX5 9 "LastWord$Page" "term" "I") (List.mem_of_getElem? (i := 2) rfl)
  have iX5 : ∀ w ∈ u_ws RX5 TX5 5, w ∈ wsX5_blank := fun _ h => (List.mem_cons_of_mem _ (List.mem_append_right _ h))
  refine lv_aload_n hx hb dX5_blank_0 rfl (lv_at hl 0 rfl) ?_
  refine lv_iconst (v := 0) hx hb dX5_blank_1 (by decide) ?_
  refine wp_X5_0 hx hb hts iX5 hown hK hP hD hS 0 rfl k1 (Nat.le_of_ble_eq_true rfl) dX5_blank_2 (ws' := pageW c p (va_up π 0 (fun _ => 0))) rfl (fun H locs hP hD hS => ?_)
  refine lv_aload_n hx hb dX5_blank_5 rfl (lv_at hl 0 rfl) ?_
  refine lv_bipush (v := 9) hx hb dX5_blank_6 (by decide) ?_
  refine wp_X5_1 hx hb hts iX5 hown hK hP hD hS 0 rfl k2 (Nat.le_of_ble_eq_true rfl) dX5_blank_8 (ws' := pageW c p (va_up (va_up π 0 (fun _ => 0)) 1 (fun _ => 9))) rfl (fun H locs hP hD hS => ?_)
  have eg1 : va_up (va_up π 0 (fun _ => 0)) 1 (fun _ => 9) = blankF π := by rfl
  have hP : va_P D vwCl (pageW c p (blankF π)) H := by rw [← eg1]; exact hP
  have hD : va_D A (pageW c p (blankF π)) := by rw [← eg1]; exact hD
  exact ret 11 ls H _ hP hS dX5_blank_11

abbrev rmX5_hasWriter : Room := { frames := 0, cells := 0, slots := 0, locals := 0 }
theorem hd_X5_hasWriter : yX5_hasWriter.cls = RX5 ∧ yX5_hasWriter.cls ≠ "java/lang/invoke/MethodHandle" ∧ yX5_hasWriter.cls ≠ "java/lang/invoke/VarHandle" ∧ (parseMethodDescriptor yX5_hasWriter.desc).map (fun d => d.parameters.length) = some 1 := by decide +kernel
set_option maxHeartbeats 4000000 in
set_option maxRecDepth 100000 in
theorem c_X5_hasWriter (l : Launch) (D : va_G) (c : Nat → ClassId) (p : Nat → Nat) (π : Nat → Nat → Int32) (w : Int32) : wk_RdI l yX5_hasWriter wsX5_hasWriter rmX5_hasWriter D (tysL c) [.ref (p 0), .int w] (pageW c p π) (if 0 ≤ w ∧ w < π 0 0 then 1 else 0) := by
  refine wk_mkR (cc := cX5_hasWriter) (maxL := 2) (rt := .boolean) (by decide) rfl (Nat.le_of_ble_eq_true rfl) wk_narZ ?_
  intro pr ev ss mm args below meth cd ls H Q hst hP hK hl ret
  obtain ⟨hx, hb, hml, hown, hts, -⟩ := hst
  have hown : ss.vm.findClass RX5 = some mm.cls := hown
  have hl : lv_has ls 2 [(0, .ref (p 0)), (1, .int w)] := hl
  have k1 := hts (.fieldLink RX5 27 "LastWord$Page" "writers" "I") (List.mem_of_getElem? (i := 1) rfl)
  have iX5 : ∀ w ∈ u_ws RX5 TX5 5, w ∈ wsX5_hasWriter := fun _ h => (List.mem_cons_of_mem _ (List.mem_append_right _ h))
  refine lv_iload_n hx hb dX5_hasWriter_0 rfl (lv_at hl 1 rfl) ?_
  refine lv_if_lt (tgt := 16) hx hb dX5_hasWriter_1 (by decide) (fun h1 => ?_) (fun h1 => ?_)
  · refine lv_iconst (v := 0) hx hb dX5_hasWriter_16 (by decide) ?_
    exact ret 17 ls 0 ((if_neg (fun q => absurd h1 (Int32.not_lt.mpr q.1))).symm) dX5_hasWriter_17
  refine lv_iload_n hx hb dX5_hasWriter_4 rfl (lv_at hl 1 rfl) ?_
  refine lv_aload_n hx hb dX5_hasWriter_5 rfl (lv_at hl 0 rfl) ?_
  refine wg_X5_0 hx hb hts iX5 hown hK hP 0 rfl k1 rfl dX5_hasWriter_6 ?_
  refine lv_icmp_ge (tgt := 16) hx hb dX5_hasWriter_9 (by decide) (fun h2 => ?_) (fun h2 => ?_)
  · refine lv_iconst (v := 0) hx hb dX5_hasWriter_16 (by decide) ?_
    exact ret 17 ls 0 ((if_neg (fun q => absurd q.2 (Int32.not_lt.mpr h2))).symm) dX5_hasWriter_17
  refine lv_iconst (v := 1) hx hb dX5_hasWriter_12 (by decide) ?_
  refine lv_goto (tgt := 17) hx hb dX5_hasWriter_13 (by decide) ?_
  exact ret 17 ls 1 ((if_pos ⟨Int32.not_lt.mp h1, Int32.not_le.mp h2⟩).symm) dX5_hasWriter_17

abbrev rmX5_everybody : Room := { frames := 0, cells := 0, slots := 0, locals := 0 }
theorem hd_X5_everybody : yX5_everybody.cls = RX5 ∧ yX5_everybody.cls ≠ "java/lang/invoke/MethodHandle" ∧ yX5_everybody.cls ≠ "java/lang/invoke/VarHandle" ∧ (parseMethodDescriptor yX5_everybody.desc).map (fun d => d.parameters.length) = some 0 := by decide +kernel
set_option maxHeartbeats 4000000 in
set_option maxRecDepth 100000 in
theorem c_X5_everybody (l : Launch) (D : va_G) (c : Nat → ClassId) (p : Nat → Nat) (π : Nat → Nat → Int32) : wk_RdI l yX5_everybody wsX5_everybody rmX5_everybody D (tysL c) [.ref (p 0)] (pageW c p π) (((1 : Int32) <<< (π 0 0 &&& 31)) - 1) := by
  refine wk_mkR (cc := cX5_everybody) (maxL := 1) (rt := .int) (by decide) rfl (Nat.le_of_ble_eq_true rfl) rfl ?_
  intro pr ev ss mm args below meth cd ls H Q hst hP hK hl ret
  obtain ⟨hx, hb, hml, hown, hts, -⟩ := hst
  have hown : ss.vm.findClass RX5 = some mm.cls := hown
  have hl : lv_has ls 1 [(0, .ref (p 0))] := hl
  have k1 := hts (.fieldLink RX5 27 "LastWord$Page" "writers" "I") (List.mem_of_getElem? (i := 1) rfl)
  have iX5 : ∀ w ∈ u_ws RX5 TX5 5, w ∈ wsX5_everybody := fun _ h => (List.mem_cons_of_mem _ (List.mem_append_right _ h))
  refine lv_iconst (v := 1) hx hb dX5_everybody_0 (by decide) ?_
  refine lv_aload_n hx hb dX5_everybody_1 rfl (lv_at hl 0 rfl) ?_
  refine wg_X5_0 hx hb hts iX5 hown hK hP 0 rfl k1 rfl dX5_everybody_2 ?_
  refine lv_ishl hx hb dX5_everybody_5 ?_
  refine lv_iconst (v := 1) hx hb dX5_everybody_6 (by decide) ?_
  refine lv_isub hx hb dX5_everybody_7 ?_
  exact ret 8 ls ((1 <<< ((π 0 0) &&& 31)) - 1) (by rfl) dX5_everybody_8

abbrev rmX5_answerer : Room := { frames := 0, cells := 0, slots := 0, locals := 0 }
theorem hd_X5_answerer : yX5_answerer.cls = RX5 ∧ yX5_answerer.cls ≠ "java/lang/invoke/MethodHandle" ∧ yX5_answerer.cls ≠ "java/lang/invoke/VarHandle" ∧ (parseMethodDescriptor yX5_answerer.desc).map (fun d => d.parameters.length) = some 3 := by decide +kernel
set_option maxHeartbeats 4000000 in
set_option maxRecDepth 100000 in
theorem c_X5_answerer (l : Launch) (D : va_G) (c : Nat → ClassId) (p : Nat → Nat) (π : Nat → Nat → Int32) (w : Int32) (s : Nat) (laid : Int32) (hp : wfP π) (hs : s < 5) : wk_RdI l yX5_answerer wsX5_answerer rmX5_answerer D (tysL c) [.ref (p 0), .int w, .int (nI s), .int laid] (pageW c p π) (answererF π w s laid) := by
  refine wk_mkR (cc := cX5_answerer) (maxL := 8) (rt := .int) (by decide) rfl (Nat.le_of_ble_eq_true rfl) rfl ?_
  intro pr ev ss mm args below meth cd ls H Q hst hP hK hl ret
  obtain ⟨hx, hb, hml, hown, hts, -⟩ := hst
  have hown : ss.vm.findClass RX5 = some mm.cls := hown
  have hl : lv_has ls 8 [(0, .ref (p 0)), (1, .int w), (2, .int (nI s)), (3, .int laid)] := hl
  have k1 := hts (.fieldLink RX5 27 "LastWord$Page" "writers" "I") (List.mem_of_getElem? (i := 1) rfl)
  have k2 := hts (.fieldLink RX5 24 "LastWord$Page" "near" "[[I") (List.mem_of_getElem? (i := 2) rfl)
  have iX5 : ∀ w ∈ u_ws RX5 TX5 5, w ∈ wsX5_answerer := fun _ h => (List.mem_cons_of_mem _ (List.mem_append_right _ h))
  have hn6 := hp.2.1
  refine lv_bipush (v := -9) hx hb dX5_answerer_0 (by decide) ?_
  refine lv_istore (lv' := [(4, .int ((-9))), (0, .ref (p 0)), (1, .int w), (2, .int (nI s)), (3, .int laid)]) hx hb dX5_answerer_2 hl (by decide) rfl (fun ls hl => ?_)
  refine lv_iconst (v := 0) hx hb dX5_answerer_4 (by decide) ?_
  refine lv_istore (lv' := [(5, .int 0), (4, .int ((-9))), (0, .ref (p 0)), (1, .int w), (2, .int (nI s)), (3, .int laid)]) hx hb dX5_answerer_5 hl (by decide) rfl (fun ls hl => ?_)
  refine lv_iconst (v := 0) hx hb dX5_answerer_7 (by decide) ?_
  refine lv_istore (lv' := [(6, .int 0), (5, .int 0), (4, .int ((-9))), (0, .ref (p 0)), (1, .int w), (2, .int (nI s)), (3, .int laid)]) hx hb dX5_answerer_8 hl (by decide) rfl (fun ls hl => ?_)
  have lp10 : ∀ (n : Nat) (i : Nat), (i ≤ nW π) → nW π - i < n → ∀ ls : Array Slot, lv_has ls 8 [(0, .ref (p 0)), (1, .int w), (2, .int (nI s)), (3, .int laid), (4, .int ((ansL π w s laid i).1)), (5, .int ((ansL π w s laid i).2)), (6, .int (nI i))] → W pr l ev rmX5_answerer ss mm args below meth cd H [] 0 0 Q (F0 mm 10 ls []) := by
    intro n
    induction n with
    | zero => intro i hi hn; exact absurd hn (Nat.not_lt_zero _)
    | succ n ih =>
      intro i hi hn ls hl
      refine lv_iload hx hb dX5_answerer_10 (lv_at hl 6 rfl) ?_
      refine lv_aload_n hx hb dX5_answerer_12 rfl (lv_at hl 0 rfl) ?_
      refine wg_X5_0 hx hb hts iX5 hown hK hP 0 rfl k1 rfl dX5_answerer_13 ?_
      refine wk_eqi (hp.1) ?_
      refine wk_ge (tgt := 81) hx hb i (nW π) rfl rfl (by omega) (by omega) dX5_answerer_16 (by decide) (fun h1 => ?_) (fun h1 => ?_)
      · refine lv_iload hx hb dX5_answerer_81 (lv_at hl 4 rfl) ?_
        exact ret 83 ls ((ansL π w s laid i).1) (by rw [answererF, show i = nW π by omega]) dX5_answerer_83
      refine lv_iload hx hb dX5_answerer_19 (lv_at hl 6 rfl) ?_
      refine lv_iload_n hx hb dX5_answerer_21 rfl (lv_at hl 1 rfl) ?_
      refine lv_icmp_eq (tgt := 38) hx hb dX5_answerer_22 (by decide) (fun h2 => ?_) (fun h2 => ?_)
      · refine lv_iconst (v := 0) hx hb dX5_answerer_38 (by decide) ?_
        refine lv_istore (lv' := [(7, .int 0), (0, .ref (p 0)), (1, .int w), (2, .int (nI s)), (3, .int laid), (4, .int ((ansL π w s laid i).1)), (5, .int ((ansL π w s laid i).2)), (6, .int (nI i))]) hx hb dX5_answerer_39 hl (by decide) rfl (fun ls hl => ?_)
        refine lv_iload hx hb dX5_answerer_41 (lv_at hl 0 rfl) ?_
        refine lv_if_eq (tgt := 75) hx hb dX5_answerer_43 (by decide) (fun _ => ?_) (fun q => absurd (by decide) q)
        refine lv_iinc (v := nI (i + 1)) (lv' := [(6, .int (nI (i + 1))), (7, .int 0), (0, .ref (p 0)), (1, .int w), (2, .int (nI s)), (3, .int laid), (4, .int ((ansL π w s laid i).1)), (5, .int ((ansL π w s laid i).2))]) hx hb dX5_answerer_75 hl (k := 7) rfl (nI_inc i 1) (by decide) rfl (fun ls hl => ?_)
        refine lv_goto (tgt := 10) hx hb dX5_answerer_78 (by decide) ?_
        have hl : lv_has ls 8 [(0, .ref (p 0)), (1, .int w), (2, .int (nI s)), (3, .int laid), (4, .int ((ansL π w s laid i).1)), (5, .int ((ansL π w s laid i).2)), (6, .int (nI (i + 1)))] := lv_sub hl [2, 3, 4, 5, 6, 7, 0] rfl
        have hl := wk_lset (y := (ansL π w s laid (i + 1)).1) (lv_sub (l' := [(4, .int ((ansL π w s laid i).1)), (0, .ref (p 0)), (1, .int w), (2, .int (nI s)), (3, .int laid), (5, .int ((ansL π w s laid i).2)), (6, .int (nI (i + 1)))]) hl [4, 0, 1, 2, 3, 5, 6] rfl) (by first | rfl | simp_all [ansL, ← Int32.not_le])
        have hl : lv_has ls 8 [(0, .ref (p 0)), (1, .int w), (2, .int (nI s)), (3, .int laid), (4, .int ((ansL π w s laid (i + 1)).1)), (5, .int ((ansL π w s laid i).2)), (6, .int (nI (i + 1)))] := lv_sub hl [1, 2, 3, 4, 0, 5, 6] rfl
        have hl := wk_lset (y := (ansL π w s laid (i + 1)).2) (lv_sub (l' := [(5, .int ((ansL π w s laid i).2)), (0, .ref (p 0)), (1, .int w), (2, .int (nI s)), (3, .int laid), (4, .int ((ansL π w s laid (i + 1)).1)), (6, .int (nI (i + 1)))]) hl [5, 0, 1, 2, 3, 4, 6] rfl) (by first | rfl | simp_all [ansL, ← Int32.not_le])
        have hl : lv_has ls 8 [(0, .ref (p 0)), (1, .int w), (2, .int (nI s)), (3, .int laid), (4, .int ((ansL π w s laid (i + 1)).1)), (5, .int ((ansL π w s laid (i + 1)).2)), (6, .int (nI (i + 1)))] := lv_sub hl [1, 2, 3, 4, 5, 0, 6] rfl
        exact ih (i + 1) (by omega) (by omega) ls hl
      refine lv_iload_n hx hb dX5_answerer_25 rfl (lv_at hl 3 rfl) ?_
      refine lv_iload hx hb dX5_answerer_26 (lv_at hl 6 rfl) ?_
      refine lv_ishr hx hb dX5_answerer_28 ?_
      refine lv_iconst (v := 1) hx hb dX5_answerer_29 (by decide) ?_
      refine lv_iand hx hb dX5_answerer_30 ?_
      refine lv_if_ne (tgt := 38) hx hb dX5_answerer_31 (by decide) (fun h4 => ?_) (fun h4 => ?_)
      · refine lv_iconst (v := 0) hx hb dX5_answerer_38 (by decide) ?_
        refine lv_istore (lv' := [(7, .int 0), (0, .ref (p 0)), (1, .int w), (2, .int (nI s)), (3, .int laid), (4, .int ((ansL π w s laid i).1)), (5, .int ((ansL π w s laid i).2)), (6, .int (nI i))]) hx hb dX5_answerer_39 hl (by decide) rfl (fun ls hl => ?_)
        refine lv_iload hx hb dX5_answerer_41 (lv_at hl 0 rfl) ?_
        refine lv_if_eq (tgt := 75) hx hb dX5_answerer_43 (by decide) (fun _ => ?_) (fun q => absurd (by decide) q)
        refine lv_iinc (v := nI (i + 1)) (lv' := [(6, .int (nI (i + 1))), (7, .int 0), (0, .ref (p 0)), (1, .int w), (2, .int (nI s)), (3, .int laid), (4, .int ((ansL π w s laid i).1)), (5, .int ((ansL π w s laid i).2))]) hx hb dX5_answerer_75 hl (k := 7) rfl (nI_inc i 1) (by decide) rfl (fun ls hl => ?_)
        refine lv_goto (tgt := 10) hx hb dX5_answerer_78 (by decide) ?_
        have hl : lv_has ls 8 [(0, .ref (p 0)), (1, .int w), (2, .int (nI s)), (3, .int laid), (4, .int ((ansL π w s laid i).1)), (5, .int ((ansL π w s laid i).2)), (6, .int (nI (i + 1)))] := lv_sub hl [2, 3, 4, 5, 6, 7, 0] rfl
        have hl := wk_lset (y := (ansL π w s laid (i + 1)).1) (lv_sub (l' := [(4, .int ((ansL π w s laid i).1)), (0, .ref (p 0)), (1, .int w), (2, .int (nI s)), (3, .int laid), (5, .int ((ansL π w s laid i).2)), (6, .int (nI (i + 1)))]) hl [4, 0, 1, 2, 3, 5, 6] rfl) (by first | rfl | simp_all [ansL, ← Int32.not_le])
        have hl : lv_has ls 8 [(0, .ref (p 0)), (1, .int w), (2, .int (nI s)), (3, .int laid), (4, .int ((ansL π w s laid (i + 1)).1)), (5, .int ((ansL π w s laid i).2)), (6, .int (nI (i + 1)))] := lv_sub hl [1, 2, 3, 4, 0, 5, 6] rfl
        have hl := wk_lset (y := (ansL π w s laid (i + 1)).2) (lv_sub (l' := [(5, .int ((ansL π w s laid i).2)), (0, .ref (p 0)), (1, .int w), (2, .int (nI s)), (3, .int laid), (4, .int ((ansL π w s laid (i + 1)).1)), (6, .int (nI (i + 1)))]) hl [5, 0, 1, 2, 3, 4, 6] rfl) (by first | rfl | simp_all [ansL, ← Int32.not_le])
        have hl : lv_has ls 8 [(0, .ref (p 0)), (1, .int w), (2, .int (nI s)), (3, .int laid), (4, .int ((ansL π w s laid (i + 1)).1)), (5, .int ((ansL π w s laid (i + 1)).2)), (6, .int (nI (i + 1)))] := lv_sub hl [1, 2, 3, 4, 5, 0, 6] rfl
        exact ih (i + 1) (by omega) (by omega) ls hl
      refine lv_iconst (v := 1) hx hb dX5_answerer_34 (by decide) ?_
      refine lv_goto (tgt := 39) hx hb dX5_answerer_35 (by decide) ?_
      refine lv_istore (lv' := [(7, .int 1), (0, .ref (p 0)), (1, .int w), (2, .int (nI s)), (3, .int laid), (4, .int ((ansL π w s laid i).1)), (5, .int ((ansL π w s laid i).2)), (6, .int (nI i))]) hx hb dX5_answerer_39 hl (by decide) rfl (fun ls hl => ?_)
      refine lv_iload hx hb dX5_answerer_41 (lv_at hl 0 rfl) ?_
      refine lv_if_eq (tgt := 75) hx hb dX5_answerer_43 (by decide) (fun q => absurd q (by decide)) (fun _ => ?_)
      refine lv_aload_n hx hb dX5_answerer_46 rfl (lv_at hl 1 rfl) ?_
      refine wg_X5_4 hx hb hts iX5 hown hK hP 0 rfl k2 rfl dX5_answerer_47 ?_
      refine lv_iload hx hb dX5_answerer_50 (lv_at hl 7 rfl) ?_
      refine wk_aald hx hb hK hP 3 2 rfl rfl rfl i rfl (by omega) (by decide) rfl dX5_answerer_52 ?_
      refine lv_iload_n hx hb dX5_answerer_53 rfl (lv_at hl 3 rfl) ?_
      refine wk_ald hx hb hK hP (4 + i) 0 (pageW_row (by omega) (a := ([] : va_W)) (b := ([] : va_W)) rfl rfl) rfl s rfl (by omega) (by decide) dX5_answerer_54 ?_
      refine lv_iload hx hb dX5_answerer_55 (lv_at hl 6 rfl) ?_
      refine lv_icmp_le (tgt := 75) hx hb dX5_answerer_57 (by decide) (fun h7 => ?_) (fun h7 => ?_)
      · refine lv_iinc (v := nI (i + 1)) (lv' := [(6, .int (nI (i + 1))), (7, .int 1), (0, .ref (p 0)), (1, .int w), (2, .int (nI s)), (3, .int laid), (4, .int ((ansL π w s laid i).1)), (5, .int ((ansL π w s laid i).2))]) hx hb dX5_answerer_75 hl (k := 7) rfl (nI_inc i 1) (by decide) rfl (fun ls hl => ?_)
        refine lv_goto (tgt := 10) hx hb dX5_answerer_78 (by decide) ?_
        have hl : lv_has ls 8 [(0, .ref (p 0)), (1, .int w), (2, .int (nI s)), (3, .int laid), (4, .int ((ansL π w s laid i).1)), (5, .int ((ansL π w s laid i).2)), (6, .int (nI (i + 1)))] := lv_sub hl [2, 3, 4, 5, 6, 7, 0] rfl
        have hl := wk_lset (y := (ansL π w s laid (i + 1)).1) (lv_sub (l' := [(4, .int ((ansL π w s laid i).1)), (0, .ref (p 0)), (1, .int w), (2, .int (nI s)), (3, .int laid), (5, .int ((ansL π w s laid i).2)), (6, .int (nI (i + 1)))]) hl [4, 0, 1, 2, 3, 5, 6] rfl) (by first | rfl | simp_all [ansL, ← Int32.not_le])
        have hl : lv_has ls 8 [(0, .ref (p 0)), (1, .int w), (2, .int (nI s)), (3, .int laid), (4, .int ((ansL π w s laid (i + 1)).1)), (5, .int ((ansL π w s laid i).2)), (6, .int (nI (i + 1)))] := lv_sub hl [1, 2, 3, 4, 0, 5, 6] rfl
        have hl := wk_lset (y := (ansL π w s laid (i + 1)).2) (lv_sub (l' := [(5, .int ((ansL π w s laid i).2)), (0, .ref (p 0)), (1, .int w), (2, .int (nI s)), (3, .int laid), (4, .int ((ansL π w s laid (i + 1)).1)), (6, .int (nI (i + 1)))]) hl [5, 0, 1, 2, 3, 4, 6] rfl) (by first | rfl | simp_all [ansL, ← Int32.not_le])
        have hl : lv_has ls 8 [(0, .ref (p 0)), (1, .int w), (2, .int (nI s)), (3, .int laid), (4, .int ((ansL π w s laid (i + 1)).1)), (5, .int ((ansL π w s laid (i + 1)).2)), (6, .int (nI (i + 1)))] := lv_sub hl [1, 2, 3, 4, 5, 0, 6] rfl
        exact ih (i + 1) (by omega) (by omega) ls hl
      refine lv_aload_n hx hb dX5_answerer_60 rfl (lv_at hl 1 rfl) ?_
      refine wg_X5_4 hx hb hts iX5 hown hK hP 0 rfl k2 rfl dX5_answerer_61 ?_
      refine lv_iload hx hb dX5_answerer_64 (lv_at hl 7 rfl) ?_
      refine wk_aald hx hb hK hP 3 2 rfl rfl rfl i rfl (by omega) (by decide) rfl dX5_answerer_66 ?_
      refine lv_iload_n hx hb dX5_answerer_67 rfl (lv_at hl 3 rfl) ?_
      refine wk_ald hx hb hK hP (4 + i) 0 (pageW_row (by omega) (a := ([] : va_W)) (b := ([] : va_W)) rfl rfl) rfl s rfl (by omega) (by decide) dX5_answerer_68 ?_
      refine lv_istore (lv' := [(5, .int (π (5 + i) s)), (7, .int 1), (0, .ref (p 0)), (1, .int w), (2, .int (nI s)), (3, .int laid), (4, .int ((ansL π w s laid i).1)), (6, .int (nI i))]) hx hb dX5_answerer_69 hl (by decide) rfl (fun ls hl => ?_)
      refine lv_iload hx hb dX5_answerer_71 (lv_at hl 7 rfl) ?_
      refine lv_istore (lv' := [(4, .int (nI i)), (5, .int (π (5 + i) s)), (7, .int 1), (0, .ref (p 0)), (1, .int w), (2, .int (nI s)), (3, .int laid), (6, .int (nI i))]) hx hb dX5_answerer_73 hl (by decide) rfl (fun ls hl => ?_)
      refine lv_iinc (v := nI (i + 1)) (lv' := [(6, .int (nI (i + 1))), (4, .int (nI i)), (5, .int (π (5 + i) s)), (7, .int 1), (0, .ref (p 0)), (1, .int w), (2, .int (nI s)), (3, .int laid)]) hx hb dX5_answerer_75 hl (k := 7) rfl (nI_inc i 1) (by decide) rfl (fun ls hl => ?_)
      refine lv_goto (tgt := 10) hx hb dX5_answerer_78 (by decide) ?_
      have hl : lv_has ls 8 [(0, .ref (p 0)), (1, .int w), (2, .int (nI s)), (3, .int laid), (4, .int (nI i)), (5, .int (π (5 + i) s)), (6, .int (nI (i + 1)))] := lv_sub hl [4, 5, 6, 7, 1, 2, 0] rfl
      have hl := wk_lset (y := (ansL π w s laid (i + 1)).1) (lv_sub (l' := [(4, .int (nI i)), (0, .ref (p 0)), (1, .int w), (2, .int (nI s)), (3, .int laid), (5, .int (π (5 + i) s)), (6, .int (nI (i + 1)))]) hl [4, 0, 1, 2, 3, 5, 6] rfl) (by first | rfl | simp_all [ansL, ← Int32.not_le])
      have hl : lv_has ls 8 [(0, .ref (p 0)), (1, .int w), (2, .int (nI s)), (3, .int laid), (4, .int ((ansL π w s laid (i + 1)).1)), (5, .int (π (5 + i) s)), (6, .int (nI (i + 1)))] := lv_sub hl [1, 2, 3, 4, 0, 5, 6] rfl
      have hl := wk_lset (y := (ansL π w s laid (i + 1)).2) (lv_sub (l' := [(5, .int (π (5 + i) s)), (0, .ref (p 0)), (1, .int w), (2, .int (nI s)), (3, .int laid), (4, .int ((ansL π w s laid (i + 1)).1)), (6, .int (nI (i + 1)))]) hl [5, 0, 1, 2, 3, 4, 6] rfl) (by first | rfl | simp_all [ansL, ← Int32.not_le])
      have hl : lv_has ls 8 [(0, .ref (p 0)), (1, .int w), (2, .int (nI s)), (3, .int laid), (4, .int ((ansL π w s laid (i + 1)).1)), (5, .int ((ansL π w s laid (i + 1)).2)), (6, .int (nI (i + 1)))] := lv_sub hl [1, 2, 3, 4, 5, 0, 6] rfl
      exact ih (i + 1) (by omega) (by omega) ls hl
  have hl : lv_has ls 8 [(0, .ref (p 0)), (1, .int w), (2, .int (nI s)), (3, .int laid), (4, .int ((-9))), (5, .int 0), (6, .int 0)] := lv_sub hl [3, 4, 5, 6, 2, 1, 0] rfl
  have hl := wk_lset (y := (ansL π w s laid 0).1) (lv_sub (l' := [(4, .int ((-9))), (0, .ref (p 0)), (1, .int w), (2, .int (nI s)), (3, .int laid), (5, .int 0), (6, .int 0)]) hl [4, 0, 1, 2, 3, 5, 6] rfl) (by first | rfl | simp_all [ansL, ← Int32.not_le])
  have hl : lv_has ls 8 [(0, .ref (p 0)), (1, .int w), (2, .int (nI s)), (3, .int laid), (4, .int ((ansL π w s laid 0).1)), (5, .int 0), (6, .int 0)] := lv_sub hl [1, 2, 3, 4, 0, 5, 6] rfl
  have hl := wk_lset (y := (ansL π w s laid 0).2) (lv_sub (l' := [(5, .int 0), (0, .ref (p 0)), (1, .int w), (2, .int (nI s)), (3, .int laid), (4, .int ((ansL π w s laid 0).1)), (6, .int 0)]) hl [5, 0, 1, 2, 3, 4, 6] rfl) (by first | rfl | simp_all [ansL, ← Int32.not_le])
  have hl : lv_has ls 8 [(0, .ref (p 0)), (1, .int w), (2, .int (nI s)), (3, .int laid), (4, .int ((ansL π w s laid 0).1)), (5, .int ((ansL π w s laid 0).2)), (6, .int 0)] := lv_sub hl [1, 2, 3, 4, 5, 0, 6] rfl
  have hl := wk_lset (y := nI 0) (lv_sub (l' := [(6, .int 0), (0, .ref (p 0)), (1, .int w), (2, .int (nI s)), (3, .int laid), (4, .int ((ansL π w s laid 0).1)), (5, .int ((ansL π w s laid 0).2))]) hl [6, 0, 1, 2, 3, 4, 5] rfl) (by first | rfl | simp_all [ansL, ← Int32.not_le])
  have hl : lv_has ls 8 [(0, .ref (p 0)), (1, .int w), (2, .int (nI s)), (3, .int laid), (4, .int ((ansL π w s laid 0).1)), (5, .int ((ansL π w s laid 0).2)), (6, .int (nI 0))] := lv_sub hl [1, 2, 3, 4, 5, 6, 0] rfl
  exact lp10 _ 0 (by omega) (Nat.lt_succ_self _) ls hl

abbrev rmX5_answerOn : Room := { frames := 0, cells := 0, slots := 0, locals := 0 }
theorem hd_X5_answerOn : yX5_answerOn.cls = RX5 ∧ yX5_answerOn.cls ≠ "java/lang/invoke/MethodHandle" ∧ yX5_answerOn.cls ≠ "java/lang/invoke/VarHandle" ∧ (parseMethodDescriptor yX5_answerOn.desc).map (fun d => d.parameters.length) = some 2 := by decide +kernel
set_option maxHeartbeats 4000000 in
set_option maxRecDepth 100000 in
theorem c_X5_answerOn (l : Launch) (D : va_G) (c : Nat → ClassId) (p : Nat → Nat) (π : Nat → Nat → Int32) (w : Nat) (s : Nat) (hw : w < 6) : wk_RdI l yX5_answerOn wsX5_answerOn rmX5_answerOn D (tysL c) [.ref (p 0), .int (nI w), .int (nI s)] (pageW c p π) (onF π w s) := by
  refine wk_mkR (cc := cX5_answerOn) (maxL := 3) (rt := .int) (by decide) rfl (Nat.le_of_ble_eq_true rfl) rfl ?_
  intro pr ev ss mm args below meth cd ls H Q hst hP hK hl ret
  obtain ⟨hx, hb, hml, hown, hts, -⟩ := hst
  have hown : ss.vm.findClass RX5 = some mm.cls := hown
  have hl : lv_has ls 3 [(0, .ref (p 0)), (1, .int (nI w)), (2, .int (nI s))] := hl
  have k1 := hts (.fieldLink RX5 19 "LastWord$Page" "hobby" "[I") (List.mem_of_getElem? (i := 1) rfl)
  have iX5 : ∀ w ∈ u_ws RX5 TX5 5, w ∈ wsX5_answerOn := fun _ h => (List.mem_cons_of_mem _ (List.mem_append_right _ h))
  refine lv_aload_n hx hb dX5_answerOn_0 rfl (lv_at hl 0 rfl) ?_
  refine wg_X5_3 hx hb hts iX5 hown hK hP 0 rfl k1 rfl dX5_answerOn_1 ?_
  refine lv_iload_n hx hb dX5_answerOn_4 rfl (lv_at hl 1 rfl) ?_
  refine wk_ald hx hb hK hP 2 0 rfl rfl w rfl (by omega) (by decide) dX5_answerOn_5 ?_
  refine lv_iconst (v := 5) hx hb dX5_answerOn_6 (by decide) ?_
  refine lv_icmp_ne (tgt := 14) hx hb dX5_answerOn_7 (by decide) (fun h1 => ?_) (fun h1 => ?_)
  rotate_left
  · refine lv_iload_n hx hb dX5_answerOn_10 rfl (lv_at hl 2 rfl) ?_
    refine lv_goto (tgt := 20) hx hb dX5_answerOn_11 (by decide) ?_
    exact ret 20 ls (nI s) (by simp_all [onF]) dX5_answerOn_20
  refine lv_aload_n hx hb dX5_answerOn_14 rfl (lv_at hl 0 rfl) ?_
  refine wg_X5_3 hx hb hts iX5 hown hK hP 0 rfl k1 rfl dX5_answerOn_15 ?_
  refine lv_iload_n hx hb dX5_answerOn_18 rfl (lv_at hl 1 rfl) ?_
  refine wk_ald hx hb hK hP 2 0 rfl rfl w rfl (by omega) (by decide) dX5_answerOn_19 ?_
  exact ret 20 ls (π 3 w) (by simp_all [onF]) dX5_answerOn_20
end
section
/-! ===== Affairs: what its methods do, as functions of records ===== -/
theorem ix_nI {k n : Nat} (h : k < n) (hn : n ≤ 2147483648) : ixOK (nI k) n := by
  have e : (nI k).toNatClampNeg = k := nI_clamp (by omega)
  exact ⟨by rw [e], by rw [e]; exact h⟩
theorem ix_mono {x : Int32} {n m : Nat} (h : ixOK x n) (hm : n ≤ m) : ixOK x m := ⟨h.1, Nat.lt_of_lt_of_le h.2 hm⟩
theorem nI_cl {k : Nat} (h : k < 1000) : (nI k).toNatClampNeg = k := nI_clamp (by omega)
theorem nI_ne9 {k : Nat} (h : k < 2147483648) : nI k ≠ -9 := by
  intro e
  have h1 := congrArg Int32.toInt e
  rw [nI_toInt (by omega)] at h1
  have h2 : (-9 : Int32).toInt = -9 := by decide
  omega
theorem ix_ne9 {x : Int32} {n : Nat} (h : ixOK x n) (hn : n ≤ 2147483648) : x ≠ -9 := by
  rw [h.1]
  exact nI_ne9 (by have := h.2; omega)
theorem ans_ok (π : wRec) (w : Int32) (s : Nat) (laid : Int32) : ∀ n, n ≤ 6 → (ansL π w s laid n).1 = -9 ∨ ixOK (ansL π w s laid n).1 n
  | 0, _ => Or.inl rfl
  | n + 1, h => by
    rw [ansL]
    split
    · exact Or.inr (ix_nI (by omega) (by omega))
    · rcases ans_ok π w s laid n (by omega) with e | e
      · exact Or.inl e
      · exact Or.inr (ix_mono e (by omega))
theorem answer_ok {π : wRec} (hp : wfP π) (w : Int32) (s : Nat) (laid : Int32) : answererF π w s laid = -9 ∨ ixOK (answererF π w s laid) (nW π) := ans_ok π w s laid (nW π) hp.2.1
theorem on_ok {π : wRec} (hp : wfP π) {w s : Nat} (hw : w < nW π) (hs : s < 5) : ixOK (onF π w s) 5 := by
  unfold onF
  split
  · exact ix_nI hs (by omega)
  · rename_i h
    obtain ⟨h1, h2⟩ := hp.2.2 w hw
    refine ⟨h1, ?_⟩
    have : (π 3 w).toNatClampNeg ≠ 5 := fun e => h (by rw [h1, e]; rfl)
    omega
def nQ (σ : wRec) : Nat := (σ 2 0).toNatClampNeg
def wfQ (σ : wRec) : Prop := σ 2 0 = nI (nQ σ) ∧ nQ σ ≤ 6
def wfA (π σ : wRec) : Prop := wfQ σ ∧ ∀ q, q < nQ σ → ixOK (σ 6 q) 5 ∧ (σ 8 q = -9 ∨ ixOK (σ 8 q) (nW π))
def anewL (σ : wRec) (i : Nat) : wRec := va_up (va_up (va_up (va_up (va_up σ 0 (fun _ => 0)) 1 (fun _ => 0)) 2 (fun _ => 0)) 3 (fun _ => 0)) 4 (fun k => if k < i then 0 else σ 4 k)
theorem anewL_0 (σ : wRec) : va_up (va_up (va_up (va_up σ 0 (fun _ => 0)) 1 (fun _ => 0)) 2 (fun _ => 0)) 3 (fun _ => 0) = anewL σ 0 := by
  funext k j
  by_cases h : k = 4
  · subst h
    show σ 4 j = (if j < 0 then 0 else σ 4 j)
    simp
  · rw [anewL, va_up_ne _ _ h]
theorem anewL_s (σ : wRec) (i : Nat) : va_up (anewL σ i) 4 (upd (anewL σ i 4) i 0) = anewL σ (i + 1) := by
  funext k j
  by_cases h : k = 4
  · subst h
    show upd (fun k => if k < i then 0 else σ 4 k) i 0 j = (if j < i + 1 then 0 else σ 4 j)
    by_cases hj : j = i
    · subst hj
      rw [pk_us, if_pos (by omega)]
    · rw [pk_un hj]
      by_cases h2 : j < i
      · rw [if_pos h2, if_pos (by omega)]
      · rw [if_neg h2, if_neg (by omega)]
  · rw [va_up_ne _ _ h, anewL, anewL, va_up_ne _ _ h, va_up_ne _ _ h]
def obL (r : Nat → Int32) (w : Int32) : Nat → Int32
  | 0 => 0
  | q + 1 => if r q = w then obL r w q ||| ((1 : Int32) <<< (nI q &&& 31)) else obL r w q
def ushF (x k : Int32) : Int32 := (x.toUInt32 >>> (k.toUInt32 &&& Int32.toUInt32 31)).toInt32
def bc1 (x : Int32) : Int32 := x - (ushF x 1 &&& 1431655765)
def bc2 (x : Int32) : Int32 := (x &&& 858993459) + (ushF x 2 &&& 858993459)
def bc3 (x : Int32) : Int32 := (x + ushF x 4) &&& 252645135
def bc4 (x : Int32) : Int32 := x + ushF x 8
def bc5 (x : Int32) : Int32 := x + ushF x 16
def bcF (x : Int32) : Int32 := bc5 (bc4 (bc3 (bc2 (bc1 x)))) &&& 63
def lwL (ow au : Nat → Int32) (w : Int32) : Nat → Int32
  | 0 => 0
  | q + 1 => if ow q = -9 ∧ au q = w then lwL ow au w q + 1 else lwL ow au w q
def chargeW (π σ : wRec) (q : Nat) : Int32 := answererF π (σ 5 q) (σ 6 q).toNatClampNeg (σ 3 0)
def chargeF (π σ : wRec) (q : Nat) : wRec := va_up (va_up σ 8 (upd (σ 8) q (chargeW π σ q))) 9 (upd (σ 9) q (if chargeW π σ q = -9 then 0 else π 2 (chargeW π σ q).toNatClampNeg))
def print0 (σ : wRec) (q : Nat) (w : Int32) (s : Nat) : wRec := va_up (va_up (va_up (va_up (va_up σ 5 (upd (σ 5) q w)) 6 (upd (σ 6) q (nI s))) 7 (upd (σ 7) q (σ 0 0))) 10 (upd (σ 10) q 0)) 1 (fun _ => σ 1 0 + 1)
def printF (π σ : wRec) (q : Nat) (w : Int32) (s : Nat) : wRec := chargeF π (print0 σ q w s) q
def beginF (π σ : wRec) (w : Int32) (s : Nat) : wRec := printF π (va_up σ 2 (fun _ => nI (nQ σ + 1))) (nQ σ) w s
def odL (ow pd : Nat → Int32) (w : Int32) : Nat → Int32
  | 0 => -9
  | q + 1 => if ow q = w ∧ (odL ow pd w q = -9 ∨ pd q < pd (odL ow pd w q).toNatClampNeg) then nI q else odL ow pd w q
theorem od_ok (ow pd : Nat → Int32) (w : Int32) : ∀ n, n ≤ 6 → odL ow pd w n = -9 ∨ ixOK (odL ow pd w n) n
  | 0, _ => Or.inl rfl
  | n + 1, h => by
    rw [odL]
    split
    · exact Or.inr (ix_nI (by omega) (by omega))
    · rcases od_ok ow pd w n (by omega) with e | e
      · exact Or.inl e
      · exact Or.inr (ix_mono e (by omega))
def workQ (τ : wRec) (i : Nat) : Int32 := odL (τ 8) (τ 7) (nI i) (nQ τ)
def workS (τ : wRec) (i : Nat) : wRec := if workQ τ i = -9 then τ else va_up τ 9 (upd (τ 9) (workQ τ i).toNatClampNeg (τ 9 (workQ τ i).toNatClampNeg - 1))
def workA (σ : wRec) : Nat → wRec
  | 0 => σ
  | i + 1 => workS (workA σ i) i
theorem workS_row (τ : wRec) (i k : Nat) (h : k ≠ 9) : workS τ i k = τ k := by
  unfold workS
  split
  · rfl
  · exact va_up_ne _ _ h
theorem workA_row (σ : wRec) : ∀ (i k : Nat), k ≠ 9 → workA σ i k = σ k
  | 0, _, _ => rfl
  | i + 1, k, h => by rw [workA, workS_row _ _ _ h, workA_row σ i k h]
theorem nQ_of {σ τ : wRec} (h : σ 2 = τ 2) : nQ σ = nQ τ := by unfold nQ; rw [h]
theorem wfA_of {π σ τ : wRec} (h : wfA π τ) (h2 : σ 2 = τ 2) (h6 : σ 6 = τ 6) (h8 : σ 8 = τ 8) : wfA π σ := by
  unfold wfA wfQ at *
  rw [nQ_of h2, h2, h6, h8]
  exact h
theorem workA_wf {π σ : wRec} (h : wfA π σ) (i : Nat) : wfA π (workA σ i) := wfA_of h (workA_row σ i 2 (by decide)) (workA_row σ i 6 (by decide)) (workA_row σ i 8 (by decide))
def tickF (τ : wRec) : wRec := va_up τ 0 (fun _ => τ 0 0 + 1)
def onS (π τ : wRec) (q : Nat) : Int32 := onF π (τ 8 q).toNatClampNeg (τ 6 q).toNatClampNeg
def lateF (τ : wRec) (q : Nat) : wRec := va_up (va_up τ 10 (upd (τ 10) q 1)) 4 (upd (τ 4) (τ 8 q).toNatClampNeg (τ 4 (τ 8 q).toNatClampNeg + 1))
def dayT (π τ : wRec) (q : Nat) : wRec := if τ 8 q = -9 then τ else if τ 9 q = 0 then printF π τ q (τ 8 q) (onS π τ q).toNatClampNeg else if τ 0 0 - τ 7 q = π 1 0 then lateF τ q else τ
def dayA (π τ : wRec) : Nat → wRec
  | 0 => τ
  | q + 1 => dayT π (dayA π τ q) q
def dayN (π τ : wRec) : Nat → Int32
  | 0 => 0
  | q + 1 => if dayA π τ q 8 q ≠ -9 ∧ dayA π τ q 9 q = 0 then dayN π τ q + 1 else dayN π τ q
def passF (π σ : wRec) : wRec := dayA π (tickF (workA σ (nW π))) (nQ σ)
def passN (π σ : wRec) : Int32 := dayN π (tickF (workA σ (nW π))) (nQ σ)
theorem dayT_2 (π τ : wRec) (q : Nat) : dayT π τ q 2 = τ 2 := by
  unfold dayT
  split
  · rfl
  · split
    · rfl
    · split <;> rfl
theorem dayA_2 (π τ : wRec) : ∀ q, dayA π τ q 2 = τ 2
  | 0 => rfl
  | q + 1 => by rw [dayA, dayT_2, dayA_2 π τ q]
theorem charge_wf {π σ : wRec} (hp : wfP π) (q : Nat) (h : wfQ σ) (h6 : ∀ j, j < nQ σ → ixOK (σ 6 j) 5) (h8 : ∀ j, j < nQ σ → j ≠ q → (σ 8 j = -9 ∨ ixOK (σ 8 j) (nW π))) : wfA π (chargeF π σ q) := by
  refine ⟨h, fun j hj => ⟨h6 j hj, ?_⟩⟩
  show upd (σ 8) q (chargeW π σ q) j = -9 ∨ ixOK (upd (σ 8) q (chargeW π σ q) j) (nW π)
  by_cases e : j = q
  · subst e
    rw [pk_us]
    exact answer_ok hp _ _ _
  · rw [pk_un e]
    exact h8 j hj e
theorem print_wf {π σ : wRec} (hp : wfP π) (q : Nat) (w : Int32) {s : Nat} (hs : s < 5) (h : wfQ σ) (h6 : ∀ j, j < nQ σ → j ≠ q → ixOK (σ 6 j) 5) (h8 : ∀ j, j < nQ σ → j ≠ q → (σ 8 j = -9 ∨ ixOK (σ 8 j) (nW π))) : wfA π (printF π σ q w s) := by
  refine charge_wf hp q h (fun j hj => ?_) h8
  show ixOK (upd (σ 6) q (nI s) j) 5
  by_cases e : j = q
  · subst e
    rw [pk_us]
    exact ix_nI hs (by omega)
  · rw [pk_un e]
    exact h6 j hj e
theorem begin_wf {π σ : wRec} (hp : wfP π) (h : wfA π σ) (hq : nQ σ < 6) (w : Int32) {s : Nat} (hs : s < 5) : wfA π (beginF π σ w s) := by
  have e : nQ (va_up σ 2 (fun _ => nI (nQ σ + 1))) = nQ σ + 1 := by
    show (nI (nQ σ + 1)).toNatClampNeg = nQ σ + 1
    exact nI_clamp (by omega)
  refine print_wf hp _ w hs ⟨by rw [e]; rfl, by rw [e]; omega⟩ (fun j hj hne => ?_) (fun j hj hne => ?_)
  · exact (h.2 j (by rw [e] at hj; omega)).1
  · exact (h.2 j (by rw [e] at hj; omega)).2
theorem onS_ok {π τ : wRec} (hp : wfP π) (h : wfA π τ) {q : Nat} (hq : q < nQ τ) (hne : τ 8 q ≠ -9) : ixOK (onS π τ q) 5 := by
  obtain ⟨h6, h8⟩ := h.2 q hq
  rcases h8 with e | e
  · exact absurd e hne
  · exact on_ok hp e.2 h6.2
theorem dayT_wf {π τ : wRec} (hp : wfP π) (h : wfA π τ) {q : Nat} (hq : q < nQ τ) : wfA π (dayT π τ q) := by
  unfold dayT
  split
  · exact h
  · rename_i hne
    split
    · exact print_wf hp q _ (onS_ok hp h hq hne).2 h.1 (fun j hj _ => (h.2 j hj).1) (fun j hj _ => (h.2 j hj).2)
    · split
      · exact h
      · exact h
theorem dayA_wf {π τ : wRec} (hp : wfP π) (h : wfA π τ) : ∀ q, q ≤ nQ τ → wfA π (dayA π τ q)
  | 0, _ => h
  | q + 1, hq => dayT_wf hp (dayA_wf hp h q (by omega)) (by rw [nQ_of (dayA_2 π τ q)]; omega)
theorem tick_wf {π τ : wRec} (h : wfA π τ) : wfA π (tickF τ) := h
theorem pass_wf {π σ : wRec} (hp : wfP π) (h : wfA π σ) : wfA π (passF π σ) := by
  have e : nQ (tickF (workA σ (nW π))) = nQ σ := nQ_of (workA_row σ _ 2 (by decide))
  refine dayA_wf hp (tick_wf (workA_wf h _)) _ (by rw [e]; exact Nat.le_refl _)
def layB (σ : wRec) (w : Nat) : Int32 := obL (σ 8) (nI w) (nQ σ)
def layL (π σ : wRec) (w : Nat) : Nat → wRec
  | 0 => va_up σ 3 (fun _ => σ 3 0 ||| ((1 : Int32) <<< (nI w &&& 31)))
  | q + 1 => if (layB σ w >>> (nI q &&& 31)) &&& 1 = 1 then chargeF π (layL π σ w q) q else layL π σ w q
def layF (π σ : wRec) (w : Nat) : wRec := layL π σ w (nQ σ)
theorem layL_2 (π σ : wRec) (w : Nat) : ∀ q, layL π σ w q 2 = σ 2
  | 0 => rfl
  | q + 1 => by
    rw [layL]
    split
    · exact layL_2 π σ w q
    · exact layL_2 π σ w q
theorem layL_wf {π σ : wRec} (hp : wfP π) (h : wfA π σ) (w : Nat) : ∀ q, wfA π (layL π σ w q)
  | 0 => h
  | q + 1 => by
    rw [layL]
    have ih := layL_wf hp h w q
    split
    · exact charge_wf hp q ih.1 (fun j hj => (ih.2 j hj).1) (fun j hj _ => (ih.2 j hj).2)
    · exact ih
def fnL (σ : wRec) (term : Int32) : Nat → Nat → Int32
  | 0, _ => -9
  | n + 1, q => if σ 8 q ≠ -9 ∧ σ 0 0 - σ 7 q = term then nI q else fnL σ term n (q + 1)
def wuL (σ : wRec) (set lp : Int32) : Nat → Int32
  | 0 => 0
  | q + 1 => if (set >>> (nI q &&& 31)) &&& 1 = 1 ∧ σ 7 q ≤ lp then wuL σ set lp q + σ 9 q else wuL σ set lp q
abbrev ckOK (σ : wRec) (set term : Int32) (q : Nat) : Prop := (set >>> (nI q &&& 31)) &&& 1 = 1 → σ 0 0 + wuL σ set (σ 7 q) (nQ σ) ≤ σ 7 q + term
end
