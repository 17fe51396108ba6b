-- ===== PART A: goes FIRST, ahead of the names: the tables' words, and 'selects' of the private methods out of them =====
/-- a private method of a class that the tables say can be made, by its rows of tables_1 -/
def lw_okq (q : MethodName × Nat) : Prop := (q.1.cls ≠ "java/lang/invoke/MethodHandle" ∧ q.1.cls ≠ "java/lang/invoke/VarHandle") ∧ Cond.instantiable q.1.cls q.2 ∈ tables_1 ∧ Cond.privateMethod q.1 ∈ tables_1 ∧ Cond.instanceMethod q.1 ∈ tables_1
theorem lw_p0 : lw_okq (⟨"WellGivesOther", "textAt", "(I)LWellGivesOther$Text;"⟩, 14) := ⟨⟨by decide +kernel, by decide +kernel⟩, List.mem_of_getElem? (i := 18) (by decide +kernel), List.mem_of_getElem? (i := 245) (by decide +kernel), List.mem_of_getElem? (i := 246) (by decide +kernel)⟩
theorem lw_p1 : lw_okq (⟨"WellGivesOther", "fillFewSets", "()V"⟩, 14) := ⟨⟨by decide +kernel, by decide +kernel⟩, List.mem_of_getElem? (i := 18) (by decide +kernel), List.mem_of_getElem? (i := 265) (by decide +kernel), List.mem_of_getElem? (i := 266) (by decide +kernel)⟩
theorem lw_p2 : lw_okq (⟨"WellGivesOther", "seat", "(I)LWellGivesOther$Asker;"⟩, 14) := ⟨⟨by decide +kernel, by decide +kernel⟩, List.mem_of_getElem? (i := 18) (by decide +kernel), List.mem_of_getElem? (i := 332) (by decide +kernel), List.mem_of_getElem? (i := 333) (by decide +kernel)⟩
theorem lw_p3 : lw_okq (⟨"WellGivesOther", "neverGiven", "(I)I"⟩, 14) := ⟨⟨by decide +kernel, by decide +kernel⟩, List.mem_of_getElem? (i := 18) (by decide +kernel), List.mem_of_getElem? (i := 356) (by decide +kernel), List.mem_of_getElem? (i := 357) (by decide +kernel)⟩
theorem lw_p4 : lw_okq (⟨"WellGivesOther", "visitOf", "(I)LWellGivesOther$Visit;"⟩, 14) := ⟨⟨by decide +kernel, by decide +kernel⟩, List.mem_of_getElem? (i := 18) (by decide +kernel), List.mem_of_getElem? (i := 360) (by decide +kernel), List.mem_of_getElem? (i := 361) (by decide +kernel)⟩
theorem lw_p5 : lw_okq (⟨"WellGivesOther$Visit", "likeTwoOf", "(I)I"⟩, 15) := ⟨⟨by decide +kernel, by decide +kernel⟩, List.mem_of_getElem? (i := 32) (by decide +kernel), List.mem_of_getElem? (i := 376) (by decide +kernel), List.mem_of_getElem? (i := 377) (by decide +kernel)⟩
theorem lw_p6 : lw_okq (⟨"WellGivesOther$Visit", "likeAnyOf", "(I)I"⟩, 15) := ⟨⟨by decide +kernel, by decide +kernel⟩, List.mem_of_getElem? (i := 32) (by decide +kernel), List.mem_of_getElem? (i := 380) (by decide +kernel), List.mem_of_getElem? (i := 381) (by decide +kernel)⟩
theorem lw_p7 : lw_okq (⟨"WellGivesOther$Visit", "openToGreedy", "(II)I"⟩, 15) := ⟨⟨by decide +kernel, by decide +kernel⟩, List.mem_of_getElem? (i := 32) (by decide +kernel), List.mem_of_getElem? (i := 384) (by decide +kernel), List.mem_of_getElem? (i := 385) (by decide +kernel)⟩
theorem lw_p8 : lw_okq (⟨"WellGivesOther$Visit", "tellBy", "(IIII)I"⟩, 15) := ⟨⟨by decide +kernel, by decide +kernel⟩, List.mem_of_getElem? (i := 32) (by decide +kernel), List.mem_of_getElem? (i := 389) (by decide +kernel), List.mem_of_getElem? (i := 390) (by decide +kernel)⟩
theorem lw_p9 : lw_okq (⟨"WellGivesOther$Visit", "put", "(II)V"⟩, 15) := ⟨⟨by decide +kernel, by decide +kernel⟩, List.mem_of_getElem? (i := 32) (by decide +kernel), List.mem_of_getElem? (i := 393) (by decide +kernel), List.mem_of_getElem? (i := 394) (by decide +kernel)⟩
theorem lw_p10 : lw_okq (⟨"WellGivesOther$Text", "push", "(I)V"⟩, 6) := ⟨⟨by decide +kernel, by decide +kernel⟩, List.mem_of_getElem? (i := 202) (by decide +kernel), List.mem_of_getElem? (i := 405) (by decide +kernel), List.mem_of_getElem? (i := 406) (by decide +kernel)⟩
theorem lw_p11 : lw_okq (⟨"WellGivesOther$Text", "workOnOne", "(I)V"⟩, 6) := ⟨⟨by decide +kernel, by decide +kernel⟩, List.mem_of_getElem? (i := 202) (by decide +kernel), List.mem_of_getElem? (i := 409) (by decide +kernel), List.mem_of_getElem? (i := 410) (by decide +kernel)⟩
theorem lw_p12 : lw_okq (⟨"WellGivesOther$Text", "workOnTwo", "(I)V"⟩, 6) := ⟨⟨by decide +kernel, by decide +kernel⟩, List.mem_of_getElem? (i := 202) (by decide +kernel), List.mem_of_getElem? (i := 413) (by decide +kernel), List.mem_of_getElem? (i := 414) (by decide +kernel)⟩
theorem lw_p13 : lw_okq (⟨"WellGivesOther$Visit", "pickOf", "(II)I"⟩, 15) := ⟨⟨by decide +kernel, by decide +kernel⟩, List.mem_of_getElem? (i := 32) (by decide +kernel), List.mem_of_getElem? (i := 426) (by decide +kernel), List.mem_of_getElem? (i := 427) (by decide +kernel)⟩
theorem lw_p14 : lw_okq (⟨"WellGivesOther$Visit", "gladAsTwin", "(II)I"⟩, 15) := ⟨⟨by decide +kernel, by decide +kernel⟩, List.mem_of_getElem? (i := 32) (by decide +kernel), List.mem_of_getElem? (i := 460) (by decide +kernel), List.mem_of_getElem? (i := 461) (by decide +kernel)⟩
theorem lw_p15 : lw_okq (⟨"WellGivesOther$Tokens", "scanOne", "()I"⟩, 8) := ⟨⟨by decide +kernel, by decide +kernel⟩, List.mem_of_getElem? (i := 102) (by decide +kernel), List.mem_of_getElem? (i := 481) (by decide +kernel), List.mem_of_getElem? (i := 482) (by decide +kernel)⟩
def lw_privs_1 : List (MethodName × Nat) := [(⟨"WellGivesOther", "textAt", "(I)LWellGivesOther$Text;"⟩, 14), (⟨"WellGivesOther", "fillFewSets", "()V"⟩, 14), (⟨"WellGivesOther", "seat", "(I)LWellGivesOther$Asker;"⟩, 14), (⟨"WellGivesOther", "neverGiven", "(I)I"⟩, 14), (⟨"WellGivesOther", "visitOf", "(I)LWellGivesOther$Visit;"⟩, 14), (⟨"WellGivesOther$Visit", "likeTwoOf", "(I)I"⟩, 15), (⟨"WellGivesOther$Visit", "likeAnyOf", "(I)I"⟩, 15), (⟨"WellGivesOther$Visit", "openToGreedy", "(II)I"⟩, 15), (⟨"WellGivesOther$Visit", "tellBy", "(IIII)I"⟩, 15), (⟨"WellGivesOther$Visit", "put", "(II)V"⟩, 15), (⟨"WellGivesOther$Text", "push", "(I)V"⟩, 6), (⟨"WellGivesOther$Text", "workOnOne", "(I)V"⟩, 6), (⟨"WellGivesOther$Text", "workOnTwo", "(I)V"⟩, 6), (⟨"WellGivesOther$Visit", "pickOf", "(II)I"⟩, 15), (⟨"WellGivesOther$Visit", "gladAsTwin", "(II)I"⟩, 15), (⟨"WellGivesOther$Tokens", "scanOne", "()I"⟩, 8)]
theorem lw_r1 : ∀ q ∈ lw_privs_1, lw_okq q := List.forall_mem_cons.mpr ⟨lw_p0, List.forall_mem_cons.mpr ⟨lw_p1, List.forall_mem_cons.mpr ⟨lw_p2, List.forall_mem_cons.mpr ⟨lw_p3, List.forall_mem_cons.mpr ⟨lw_p4, List.forall_mem_cons.mpr ⟨lw_p5, List.forall_mem_cons.mpr ⟨lw_p6, List.forall_mem_cons.mpr ⟨lw_p7, List.forall_mem_cons.mpr ⟨lw_p8, List.forall_mem_cons.mpr ⟨lw_p9, List.forall_mem_cons.mpr ⟨lw_p10, List.forall_mem_cons.mpr ⟨lw_p11, List.forall_mem_cons.mpr ⟨lw_p12, List.forall_mem_cons.mpr ⟨lw_p13, List.forall_mem_cons.mpr ⟨lw_p14, List.forall_mem_cons.mpr ⟨lw_p15, fun _ h => absurd h List.not_mem_nil⟩⟩⟩⟩⟩⟩⟩⟩⟩⟩⟩⟩⟩⟩⟩⟩
theorem lw_p16 : lw_okq (⟨"WellGivesOther$Tokens", "byteAt", "(I)I"⟩, 8) := ⟨⟨by decide +kernel, by decide +kernel⟩, List.mem_of_getElem? (i := 102) (by decide +kernel), List.mem_of_getElem? (i := 485) (by decide +kernel), List.mem_of_getElem? (i := 486) (by decide +kernel)⟩
theorem lw_p17 : lw_okq (⟨"WellGivesOther$Tokens", "scanWord", "()I"⟩, 8) := ⟨⟨by decide +kernel, by decide +kernel⟩, List.mem_of_getElem? (i := 102) (by decide +kernel), List.mem_of_getElem? (i := 495) (by decide +kernel), List.mem_of_getElem? (i := 496) (by decide +kernel)⟩
theorem lw_p18 : lw_okq (⟨"WellGivesOther$Tokens", "isWord", "(Ljava/lang/String;)Z"⟩, 8) := ⟨⟨by decide +kernel, by decide +kernel⟩, List.mem_of_getElem? (i := 102) (by decide +kernel), List.mem_of_getElem? (i := 500) (by decide +kernel), List.mem_of_getElem? (i := 501) (by decide +kernel)⟩
theorem lw_p19 : lw_okq (⟨"WellGivesOther$Tokens", "scanNumber", "()I"⟩, 8) := ⟨⟨by decide +kernel, by decide +kernel⟩, List.mem_of_getElem? (i := 102) (by decide +kernel), List.mem_of_getElem? (i := 566) (by decide +kernel), List.mem_of_getElem? (i := 567) (by decide +kernel)⟩
theorem lw_p20 : lw_okq (⟨"WellGivesOther$Reader", "readPart", "(I)V"⟩, 5) := ⟨⟨by decide +kernel, by decide +kernel⟩, List.mem_of_getElem? (i := 96) (by decide +kernel), List.mem_of_getElem? (i := 577) (by decide +kernel), List.mem_of_getElem? (i := 578) (by decide +kernel)⟩
theorem lw_p21 : lw_okq (⟨"WellGivesOther$Reader", "expect", "(I)V"⟩, 5) := ⟨⟨by decide +kernel, by decide +kernel⟩, List.mem_of_getElem? (i := 96) (by decide +kernel), List.mem_of_getElem? (i := 581) (by decide +kernel), List.mem_of_getElem? (i := 582) (by decide +kernel)⟩
theorem lw_p22 : lw_okq (⟨"WellGivesOther$Reader", "advance", "()V"⟩, 5) := ⟨⟨by decide +kernel, by decide +kernel⟩, List.mem_of_getElem? (i := 96) (by decide +kernel), List.mem_of_getElem? (i := 585) (by decide +kernel), List.mem_of_getElem? (i := 586) (by decide +kernel)⟩
theorem lw_p23 : lw_okq (⟨"WellGivesOther$Reader", "fail", "()V"⟩, 5) := ⟨⟨by decide +kernel, by decide +kernel⟩, List.mem_of_getElem? (i := 96) (by decide +kernel), List.mem_of_getElem? (i := 589) (by decide +kernel), List.mem_of_getElem? (i := 590) (by decide +kernel)⟩
theorem lw_p24 : lw_okq (⟨"WellGivesOther$Reader", "readEither", "(I)V"⟩, 5) := ⟨⟨by decide +kernel, by decide +kernel⟩, List.mem_of_getElem? (i := 96) (by decide +kernel), List.mem_of_getElem? (i := 597) (by decide +kernel), List.mem_of_getElem? (i := 598) (by decide +kernel)⟩
theorem lw_p25 : lw_okq (⟨"WellGivesOther$Reader", "readBoth", "(I)V"⟩, 5) := ⟨⟨by decide +kernel, by decide +kernel⟩, List.mem_of_getElem? (i := 96) (by decide +kernel), List.mem_of_getElem? (i := 601) (by decide +kernel), List.mem_of_getElem? (i := 602) (by decide +kernel)⟩
theorem lw_p26 : lw_okq (⟨"WellGivesOther$Reader", "readNot", "(I)V"⟩, 5) := ⟨⟨by decide +kernel, by decide +kernel⟩, List.mem_of_getElem? (i := 96) (by decide +kernel), List.mem_of_getElem? (i := 605) (by decide +kernel), List.mem_of_getElem? (i := 606) (by decide +kernel)⟩
theorem lw_p27 : lw_okq (⟨"WellGivesOther$Reader", "mayOpen", "(I)Z"⟩, 5) := ⟨⟨by decide +kernel, by decide +kernel⟩, List.mem_of_getElem? (i := 96) (by decide +kernel), List.mem_of_getElem? (i := 609) (by decide +kernel), List.mem_of_getElem? (i := 610) (by decide +kernel)⟩
theorem lw_p28 : lw_okq (⟨"WellGivesOther$Reader", "add", "(I)V"⟩, 5) := ⟨⟨by decide +kernel, by decide +kernel⟩, List.mem_of_getElem? (i := 96) (by decide +kernel), List.mem_of_getElem? (i := 613) (by decide +kernel), List.mem_of_getElem? (i := 614) (by decide +kernel)⟩
theorem lw_p29 : lw_okq (⟨"WellGivesOther$Reader", "readSum", "(I)V"⟩, 5) := ⟨⟨by decide +kernel, by decide +kernel⟩, List.mem_of_getElem? (i := 96) (by decide +kernel), List.mem_of_getElem? (i := 618) (by decide +kernel), List.mem_of_getElem? (i := 619) (by decide +kernel)⟩
theorem lw_p30 : lw_okq (⟨"WellGivesOther$Reader", "readTerm", "(I)V"⟩, 5) := ⟨⟨by decide +kernel, by decide +kernel⟩, List.mem_of_getElem? (i := 96) (by decide +kernel), List.mem_of_getElem? (i := 622) (by decide +kernel), List.mem_of_getElem? (i := 623) (by decide +kernel)⟩
theorem lw_p31 : lw_okq (⟨"WellGivesOther$Reader", "readOne", "(I)V"⟩, 5) := ⟨⟨by decide +kernel, by decide +kernel⟩, List.mem_of_getElem? (i := 96) (by decide +kernel), List.mem_of_getElem? (i := 626) (by decide +kernel), List.mem_of_getElem? (i := 627) (by decide +kernel)⟩
def lw_privs_2 : List (MethodName × Nat) := [(⟨"WellGivesOther$Tokens", "byteAt", "(I)I"⟩, 8), (⟨"WellGivesOther$Tokens", "scanWord", "()I"⟩, 8), (⟨"WellGivesOther$Tokens", "isWord", "(Ljava/lang/String;)Z"⟩, 8), (⟨"WellGivesOther$Tokens", "scanNumber", "()I"⟩, 8), (⟨"WellGivesOther$Reader", "readPart", "(I)V"⟩, 5), (⟨"WellGivesOther$Reader", "expect", "(I)V"⟩, 5), (⟨"WellGivesOther$Reader", "advance", "()V"⟩, 5), (⟨"WellGivesOther$Reader", "fail", "()V"⟩, 5), (⟨"WellGivesOther$Reader", "readEither", "(I)V"⟩, 5), (⟨"WellGivesOther$Reader", "readBoth", "(I)V"⟩, 5), (⟨"WellGivesOther$Reader", "readNot", "(I)V"⟩, 5), (⟨"WellGivesOther$Reader", "mayOpen", "(I)Z"⟩, 5), (⟨"WellGivesOther$Reader", "add", "(I)V"⟩, 5), (⟨"WellGivesOther$Reader", "readSum", "(I)V"⟩, 5), (⟨"WellGivesOther$Reader", "readTerm", "(I)V"⟩, 5), (⟨"WellGivesOther$Reader", "readOne", "(I)V"⟩, 5)]
theorem lw_r2 : ∀ q ∈ lw_privs_2, lw_okq q := List.forall_mem_cons.mpr ⟨lw_p16, List.forall_mem_cons.mpr ⟨lw_p17, List.forall_mem_cons.mpr ⟨lw_p18, List.forall_mem_cons.mpr ⟨lw_p19, List.forall_mem_cons.mpr ⟨lw_p20, List.forall_mem_cons.mpr ⟨lw_p21, List.forall_mem_cons.mpr ⟨lw_p22, List.forall_mem_cons.mpr ⟨lw_p23, List.forall_mem_cons.mpr ⟨lw_p24, List.forall_mem_cons.mpr ⟨lw_p25, List.forall_mem_cons.mpr ⟨lw_p26, List.forall_mem_cons.mpr ⟨lw_p27, List.forall_mem_cons.mpr ⟨lw_p28, List.forall_mem_cons.mpr ⟨lw_p29, List.forall_mem_cons.mpr ⟨lw_p30, List.forall_mem_cons.mpr ⟨lw_p31, fun _ h => absurd h List.not_mem_nil⟩⟩⟩⟩⟩⟩⟩⟩⟩⟩⟩⟩⟩⟩⟩⟩
theorem lw_p32 : lw_okq (⟨"WellGivesOther", "sheetAt", "(I)LWellGivesOther$Sheet;"⟩, 14) := ⟨⟨by decide +kernel, by decide +kernel⟩, List.mem_of_getElem? (i := 18) (by decide +kernel), List.mem_of_getElem? (i := 667) (by decide +kernel), List.mem_of_getElem? (i := 668) (by decide +kernel)⟩
theorem lw_p33 : lw_okq (⟨"WellGivesOther", "gladdestSet", "(LWellGivesOther$Visit;)I"⟩, 14) := ⟨⟨by decide +kernel, by decide +kernel⟩, List.mem_of_getElem? (i := 18) (by decide +kernel), List.mem_of_getElem? (i := 700) (by decide +kernel), List.mem_of_getElem? (i := 701) (by decide +kernel)⟩
theorem lw_p34 : lw_okq (⟨"WellGivesOther", "cheapestSet", "(LWellGivesOther$Visit;I)I"⟩, 14) := ⟨⟨by decide +kernel, by decide +kernel⟩, List.mem_of_getElem? (i := 18) (by decide +kernel), List.mem_of_getElem? (i := 708) (by decide +kernel), List.mem_of_getElem? (i := 709) (by decide +kernel)⟩
theorem lw_p35 : lw_okq (⟨"WellGivesOther", "cliques", "()I"⟩, 14) := ⟨⟨by decide +kernel, by decide +kernel⟩, List.mem_of_getElem? (i := 18) (by decide +kernel), List.mem_of_getElem? (i := 726) (by decide +kernel), List.mem_of_getElem? (i := 727) (by decide +kernel)⟩
theorem lw_p36 : lw_okq (⟨"WellGivesOther", "likesOf", "(I)I"⟩, 14) := ⟨⟨by decide +kernel, by decide +kernel⟩, List.mem_of_getElem? (i := 18) (by decide +kernel), List.mem_of_getElem? (i := 730) (by decide +kernel), List.mem_of_getElem? (i := 731) (by decide +kernel)⟩
theorem lw_p37 : lw_okq (⟨"WellGivesOther", "nearest", "()I"⟩, 14) := ⟨⟨by decide +kernel, by decide +kernel⟩, List.mem_of_getElem? (i := 18) (by decide +kernel), List.mem_of_getElem? (i := 734) (by decide +kernel), List.mem_of_getElem? (i := 735) (by decide +kernel)⟩
theorem lw_p38 : lw_okq (⟨"WellGivesOther", "likeTwos", "()I"⟩, 14) := ⟨⟨by decide +kernel, by decide +kernel⟩, List.mem_of_getElem? (i := 18) (by decide +kernel), List.mem_of_getElem? (i := 738) (by decide +kernel), List.mem_of_getElem? (i := 739) (by decide +kernel)⟩
theorem lw_p39 : lw_okq (⟨"WellGivesOther", "fittingTexts", "(LWellGivesOther$Sheet;LWellGivesOther$Visit;)I"⟩, 14) := ⟨⟨by decide +kernel, by decide +kernel⟩, List.mem_of_getElem? (i := 18) (by decide +kernel), List.mem_of_getElem? (i := 772) (by decide +kernel), List.mem_of_getElem? (i := 773) (by decide +kernel)⟩
theorem lw_p40 : lw_okq (⟨"WellGivesOther", "fittingAskers", "(LWellGivesOther$Sheet;)I"⟩, 14) := ⟨⟨by decide +kernel, by decide +kernel⟩, List.mem_of_getElem? (i := 18) (by decide +kernel), List.mem_of_getElem? (i := 776) (by decide +kernel), List.mem_of_getElem? (i := 777) (by decide +kernel)⟩
theorem lw_p41 : lw_okq (⟨"WellGivesOtherModel", "spell", "(IIIIIIIII)V"⟩, 46) := ⟨⟨by decide +kernel, by decide +kernel⟩, List.mem_of_getElem? (i := 866) (by decide +kernel), List.mem_of_getElem? (i := 875) (by decide +kernel), List.mem_of_getElem? (i := 876) (by decide +kernel)⟩
theorem lw_p42 : lw_okq (⟨"WellGivesOtherModel", "isOne", "(I)Z"⟩, 46) := ⟨⟨by decide +kernel, by decide +kernel⟩, List.mem_of_getElem? (i := 866) (by decide +kernel), List.mem_of_getElem? (i := 1034) (by decide +kernel), List.mem_of_getElem? (i := 1035) (by decide +kernel)⟩
theorem lw_p43 : lw_okq (⟨"WellGivesOtherModel", "neverOf", "(I)I"⟩, 46) := ⟨⟨by decide +kernel, by decide +kernel⟩, List.mem_of_getElem? (i := 866) (by decide +kernel), List.mem_of_getElem? (i := 1046) (by decide +kernel), List.mem_of_getElem? (i := 1047) (by decide +kernel)⟩
theorem lw_p44 : lw_okq (⟨"WellGivesOtherModel", "given", "(II)I"⟩, 46) := ⟨⟨by decide +kernel, by decide +kernel⟩, List.mem_of_getElem? (i := 866) (by decide +kernel), List.mem_of_getElem? (i := 1050) (by decide +kernel), List.mem_of_getElem? (i := 1051) (by decide +kernel)⟩
theorem lw_p45 : lw_okq (⟨"WellGivesOtherModel", "openTo", "(II)I"⟩, 46) := ⟨⟨by decide +kernel, by decide +kernel⟩, List.mem_of_getElem? (i := 866) (by decide +kernel), List.mem_of_getElem? (i := 1054) (by decide +kernel), List.mem_of_getElem? (i := 1055) (by decide +kernel)⟩
theorem lw_p46 : lw_okq (⟨"WellGivesOtherModel", "likeFew", "(I)I"⟩, 46) := ⟨⟨by decide +kernel, by decide +kernel⟩, List.mem_of_getElem? (i := 866) (by decide +kernel), List.mem_of_getElem? (i := 1058) (by decide +kernel), List.mem_of_getElem? (i := 1059) (by decide +kernel)⟩
theorem lw_p47 : lw_okq (⟨"WellGivesOtherModel", "likeAny", "(I)I"⟩, 46) := ⟨⟨by decide +kernel, by decide +kernel⟩, List.mem_of_getElem? (i := 866) (by decide +kernel), List.mem_of_getElem? (i := 1062) (by decide +kernel), List.mem_of_getElem? (i := 1063) (by decide +kernel)⟩
def lw_privs_3 : List (MethodName × Nat) := [(⟨"WellGivesOther", "sheetAt", "(I)LWellGivesOther$Sheet;"⟩, 14), (⟨"WellGivesOther", "gladdestSet", "(LWellGivesOther$Visit;)I"⟩, 14), (⟨"WellGivesOther", "cheapestSet", "(LWellGivesOther$Visit;I)I"⟩, 14), (⟨"WellGivesOther", "cliques", "()I"⟩, 14), (⟨"WellGivesOther", "likesOf", "(I)I"⟩, 14), (⟨"WellGivesOther", "nearest", "()I"⟩, 14), (⟨"WellGivesOther", "likeTwos", "()I"⟩, 14), (⟨"WellGivesOther", "fittingTexts", "(LWellGivesOther$Sheet;LWellGivesOther$Visit;)I"⟩, 14), (⟨"WellGivesOther", "fittingAskers", "(LWellGivesOther$Sheet;)I"⟩, 14), (⟨"WellGivesOtherModel", "spell", "(IIIIIIIII)V"⟩, 46), (⟨"WellGivesOtherModel", "isOne", "(I)Z"⟩, 46), (⟨"WellGivesOtherModel", "neverOf", "(I)I"⟩, 46), (⟨"WellGivesOtherModel", "given", "(II)I"⟩, 46), (⟨"WellGivesOtherModel", "openTo", "(II)I"⟩, 46), (⟨"WellGivesOtherModel", "likeFew", "(I)I"⟩, 46), (⟨"WellGivesOtherModel", "likeAny", "(I)I"⟩, 46)]
theorem lw_r3 : ∀ q ∈ lw_privs_3, lw_okq q := List.forall_mem_cons.mpr ⟨lw_p32, List.forall_mem_cons.mpr ⟨lw_p33, List.forall_mem_cons.mpr ⟨lw_p34, List.forall_mem_cons.mpr ⟨lw_p35, List.forall_mem_cons.mpr ⟨lw_p36, List.forall_mem_cons.mpr ⟨lw_p37, List.forall_mem_cons.mpr ⟨lw_p38, List.forall_mem_cons.mpr ⟨lw_p39, List.forall_mem_cons.mpr ⟨lw_p40, List.forall_mem_cons.mpr ⟨lw_p41, List.forall_mem_cons.mpr ⟨lw_p42, List.forall_mem_cons.mpr ⟨lw_p43, List.forall_mem_cons.mpr ⟨lw_p44, List.forall_mem_cons.mpr ⟨lw_p45, List.forall_mem_cons.mpr ⟨lw_p46, List.forall_mem_cons.mpr ⟨lw_p47, fun _ h => absurd h List.not_mem_nil⟩⟩⟩⟩⟩⟩⟩⟩⟩⟩⟩⟩⟩⟩⟩⟩
theorem lw_p48 : lw_okq (⟨"WellGivesOtherModel", "nextHad", "(I)I"⟩, 46) := ⟨⟨by decide +kernel, by decide +kernel⟩, List.mem_of_getElem? (i := 866) (by decide +kernel), List.mem_of_getElem? (i := 1066) (by decide +kernel), List.mem_of_getElem? (i := 1067) (by decide +kernel)⟩
theorem lw_p49 : lw_okq (⟨"WellGivesOtherModel", "says", "(IIIII)I"⟩, 46) := ⟨⟨by decide +kernel, by decide +kernel⟩, List.mem_of_getElem? (i := 866) (by decide +kernel), List.mem_of_getElem? (i := 1070) (by decide +kernel), List.mem_of_getElem? (i := 1071) (by decide +kernel)⟩
theorem lw_p50 : lw_okq (⟨"WellGivesOtherModel", "read", "(II)I"⟩, 46) := ⟨⟨by decide +kernel, by decide +kernel⟩, List.mem_of_getElem? (i := 866) (by decide +kernel), List.mem_of_getElem? (i := 1074) (by decide +kernel), List.mem_of_getElem? (i := 1075) (by decide +kernel)⟩
theorem lw_p51 : lw_okq (⟨"WellGivesOtherModel", "next", "()V"⟩, 46) := ⟨⟨by decide +kernel, by decide +kernel⟩, List.mem_of_getElem? (i := 866) (by decide +kernel), List.mem_of_getElem? (i := 1078) (by decide +kernel), List.mem_of_getElem? (i := 1079) (by decide +kernel)⟩
theorem lw_p52 : lw_okq (⟨"WellGivesOtherModel", "byteAt", "(I)I"⟩, 46) := ⟨⟨by decide +kernel, by decide +kernel⟩, List.mem_of_getElem? (i := 866) (by decide +kernel), List.mem_of_getElem? (i := 1082) (by decide +kernel), List.mem_of_getElem? (i := 1083) (by decide +kernel)⟩
theorem lw_p53 : lw_okq (⟨"WellGivesOtherModel", "isWord", "(IIIIIIII)Z"⟩, 46) := ⟨⟨by decide +kernel, by decide +kernel⟩, List.mem_of_getElem? (i := 866) (by decide +kernel), List.mem_of_getElem? (i := 1091) (by decide +kernel), List.mem_of_getElem? (i := 1092) (by decide +kernel)⟩
theorem lw_p54 : lw_okq (⟨"WellGivesOtherModel", "isLetter", "(II)Z"⟩, 46) := ⟨⟨by decide +kernel, by decide +kernel⟩, List.mem_of_getElem? (i := 866) (by decide +kernel), List.mem_of_getElem? (i := 1095) (by decide +kernel), List.mem_of_getElem? (i := 1096) (by decide +kernel)⟩
theorem lw_p55 : lw_okq (⟨"WellGivesOtherModel", "part", "(Z)I"⟩, 46) := ⟨⟨by decide +kernel, by decide +kernel⟩, List.mem_of_getElem? (i := 866) (by decide +kernel), List.mem_of_getElem? (i := 1099) (by decide +kernel), List.mem_of_getElem? (i := 1100) (by decide +kernel)⟩
theorem lw_p56 : lw_okq (⟨"WellGivesOtherModel", "fail", "()V"⟩, 46) := ⟨⟨by decide +kernel, by decide +kernel⟩, List.mem_of_getElem? (i := 866) (by decide +kernel), List.mem_of_getElem? (i := 1103) (by decide +kernel), List.mem_of_getElem? (i := 1104) (by decide +kernel)⟩
theorem lw_p57 : lw_okq (⟨"WellGivesOtherModel", "either0", "()I"⟩, 46) := ⟨⟨by decide +kernel, by decide +kernel⟩, List.mem_of_getElem? (i := 866) (by decide +kernel), List.mem_of_getElem? (i := 1107) (by decide +kernel), List.mem_of_getElem? (i := 1108) (by decide +kernel)⟩
theorem lw_p58 : lw_okq (⟨"WellGivesOtherModel", "both0", "()I"⟩, 46) := ⟨⟨by decide +kernel, by decide +kernel⟩, List.mem_of_getElem? (i := 866) (by decide +kernel), List.mem_of_getElem? (i := 1111) (by decide +kernel), List.mem_of_getElem? (i := 1112) (by decide +kernel)⟩
theorem lw_p59 : lw_okq (⟨"WellGivesOtherModel", "not0", "()I"⟩, 46) := ⟨⟨by decide +kernel, by decide +kernel⟩, List.mem_of_getElem? (i := 866) (by decide +kernel), List.mem_of_getElem? (i := 1115) (by decide +kernel), List.mem_of_getElem? (i := 1116) (by decide +kernel)⟩
theorem lw_p60 : lw_okq (⟨"WellGivesOtherModel", "opens", "()Z"⟩, 46) := ⟨⟨by decide +kernel, by decide +kernel⟩, List.mem_of_getElem? (i := 866) (by decide +kernel), List.mem_of_getElem? (i := 1119) (by decide +kernel), List.mem_of_getElem? (i := 1120) (by decide +kernel)⟩
theorem lw_p61 : lw_okq (⟨"WellGivesOtherModel", "not1", "()I"⟩, 46) := ⟨⟨by decide +kernel, by decide +kernel⟩, List.mem_of_getElem? (i := 866) (by decide +kernel), List.mem_of_getElem? (i := 1123) (by decide +kernel), List.mem_of_getElem? (i := 1124) (by decide +kernel)⟩
theorem lw_p62 : lw_okq (⟨"WellGivesOtherModel", "not2", "()I"⟩, 46) := ⟨⟨by decide +kernel, by decide +kernel⟩, List.mem_of_getElem? (i := 866) (by decide +kernel), List.mem_of_getElem? (i := 1127) (by decide +kernel), List.mem_of_getElem? (i := 1128) (by decide +kernel)⟩
theorem lw_p63 : lw_okq (⟨"WellGivesOtherModel", "not3", "()I"⟩, 46) := ⟨⟨by decide +kernel, by decide +kernel⟩, List.mem_of_getElem? (i := 866) (by decide +kernel), List.mem_of_getElem? (i := 1131) (by decide +kernel), List.mem_of_getElem? (i := 1132) (by decide +kernel)⟩
def lw_privs_4 : List (MethodName × Nat) := [(⟨"WellGivesOtherModel", "nextHad", "(I)I"⟩, 46), (⟨"WellGivesOtherModel", "says", "(IIIII)I"⟩, 46), (⟨"WellGivesOtherModel", "read", "(II)I"⟩, 46), (⟨"WellGivesOtherModel", "next", "()V"⟩, 46), (⟨"WellGivesOtherModel", "byteAt", "(I)I"⟩, 46), (⟨"WellGivesOtherModel", "isWord", "(IIIIIIII)Z"⟩, 46), (⟨"WellGivesOtherModel", "isLetter", "(II)Z"⟩, 46), (⟨"WellGivesOtherModel", "part", "(Z)I"⟩, 46), (⟨"WellGivesOtherModel", "fail", "()V"⟩, 46), (⟨"WellGivesOtherModel", "either0", "()I"⟩, 46), (⟨"WellGivesOtherModel", "both0", "()I"⟩, 46), (⟨"WellGivesOtherModel", "not0", "()I"⟩, 46), (⟨"WellGivesOtherModel", "opens", "()Z"⟩, 46), (⟨"WellGivesOtherModel", "not1", "()I"⟩, 46), (⟨"WellGivesOtherModel", "not2", "()I"⟩, 46), (⟨"WellGivesOtherModel", "not3", "()I"⟩, 46)]
theorem lw_r4 : ∀ q ∈ lw_privs_4, lw_okq q := List.forall_mem_cons.mpr ⟨lw_p48, List.forall_mem_cons.mpr ⟨lw_p49, List.forall_mem_cons.mpr ⟨lw_p50, List.forall_mem_cons.mpr ⟨lw_p51, List.forall_mem_cons.mpr ⟨lw_p52, List.forall_mem_cons.mpr ⟨lw_p53, List.forall_mem_cons.mpr ⟨lw_p54, List.forall_mem_cons.mpr ⟨lw_p55, List.forall_mem_cons.mpr ⟨lw_p56, List.forall_mem_cons.mpr ⟨lw_p57, List.forall_mem_cons.mpr ⟨lw_p58, List.forall_mem_cons.mpr ⟨lw_p59, List.forall_mem_cons.mpr ⟨lw_p60, List.forall_mem_cons.mpr ⟨lw_p61, List.forall_mem_cons.mpr ⟨lw_p62, List.forall_mem_cons.mpr ⟨lw_p63, fun _ h => absurd h List.not_mem_nil⟩⟩⟩⟩⟩⟩⟩⟩⟩⟩⟩⟩⟩⟩⟩⟩
theorem lw_p64 : lw_okq (⟨"WellGivesOtherModel", "not4", "()I"⟩, 46) := ⟨⟨by decide +kernel, by decide +kernel⟩, List.mem_of_getElem? (i := 866) (by decide +kernel), List.mem_of_getElem? (i := 1135) (by decide +kernel), List.mem_of_getElem? (i := 1136) (by decide +kernel)⟩
theorem lw_p65 : lw_okq (⟨"WellGivesOtherModel", "not5", "()I"⟩, 46) := ⟨⟨by decide +kernel, by decide +kernel⟩, List.mem_of_getElem? (i := 866) (by decide +kernel), List.mem_of_getElem? (i := 1139) (by decide +kernel), List.mem_of_getElem? (i := 1140) (by decide +kernel)⟩
theorem lw_p66 : lw_okq (⟨"WellGivesOtherModel", "added5", "()I"⟩, 46) := ⟨⟨by decide +kernel, by decide +kernel⟩, List.mem_of_getElem? (i := 866) (by decide +kernel), List.mem_of_getElem? (i := 1143) (by decide +kernel), List.mem_of_getElem? (i := 1144) (by decide +kernel)⟩
theorem lw_p67 : lw_okq (⟨"WellGivesOtherModel", "term5", "()I"⟩, 46) := ⟨⟨by decide +kernel, by decide +kernel⟩, List.mem_of_getElem? (i := 866) (by decide +kernel), List.mem_of_getElem? (i := 1147) (by decide +kernel), List.mem_of_getElem? (i := 1148) (by decide +kernel)⟩
theorem lw_p68 : lw_okq (⟨"WellGivesOtherModel", "atom5", "()I"⟩, 46) := ⟨⟨by decide +kernel, by decide +kernel⟩, List.mem_of_getElem? (i := 866) (by decide +kernel), List.mem_of_getElem? (i := 1151) (by decide +kernel), List.mem_of_getElem? (i := 1152) (by decide +kernel)⟩
theorem lw_p69 : lw_okq (⟨"WellGivesOtherModel", "isSign", "(I)Z"⟩, 46) := ⟨⟨by decide +kernel, by decide +kernel⟩, List.mem_of_getElem? (i := 866) (by decide +kernel), List.mem_of_getElem? (i := 1155) (by decide +kernel), List.mem_of_getElem? (i := 1156) (by decide +kernel)⟩
theorem lw_p70 : lw_okq (⟨"WellGivesOtherModel", "name", "()I"⟩, 46) := ⟨⟨by decide +kernel, by decide +kernel⟩, List.mem_of_getElem? (i := 866) (by decide +kernel), List.mem_of_getElem? (i := 1159) (by decide +kernel), List.mem_of_getElem? (i := 1160) (by decide +kernel)⟩
theorem lw_p71 : lw_okq (⟨"WellGivesOtherModel", "added4", "()I"⟩, 46) := ⟨⟨by decide +kernel, by decide +kernel⟩, List.mem_of_getElem? (i := 866) (by decide +kernel), List.mem_of_getElem? (i := 1165) (by decide +kernel), List.mem_of_getElem? (i := 1166) (by decide +kernel)⟩
theorem lw_p72 : lw_okq (⟨"WellGivesOtherModel", "term4", "()I"⟩, 46) := ⟨⟨by decide +kernel, by decide +kernel⟩, List.mem_of_getElem? (i := 866) (by decide +kernel), List.mem_of_getElem? (i := 1169) (by decide +kernel), List.mem_of_getElem? (i := 1170) (by decide +kernel)⟩
theorem lw_p73 : lw_okq (⟨"WellGivesOtherModel", "atom4", "()I"⟩, 46) := ⟨⟨by decide +kernel, by decide +kernel⟩, List.mem_of_getElem? (i := 866) (by decide +kernel), List.mem_of_getElem? (i := 1173) (by decide +kernel), List.mem_of_getElem? (i := 1174) (by decide +kernel)⟩
theorem lw_p74 : lw_okq (⟨"WellGivesOtherModel", "either5", "()I"⟩, 46) := ⟨⟨by decide +kernel, by decide +kernel⟩, List.mem_of_getElem? (i := 866) (by decide +kernel), List.mem_of_getElem? (i := 1177) (by decide +kernel), List.mem_of_getElem? (i := 1178) (by decide +kernel)⟩
theorem lw_p75 : lw_okq (⟨"WellGivesOtherModel", "both5", "()I"⟩, 46) := ⟨⟨by decide +kernel, by decide +kernel⟩, List.mem_of_getElem? (i := 866) (by decide +kernel), List.mem_of_getElem? (i := 1181) (by decide +kernel), List.mem_of_getElem? (i := 1182) (by decide +kernel)⟩
theorem lw_p76 : lw_okq (⟨"WellGivesOtherModel", "added3", "()I"⟩, 46) := ⟨⟨by decide +kernel, by decide +kernel⟩, List.mem_of_getElem? (i := 866) (by decide +kernel), List.mem_of_getElem? (i := 1185) (by decide +kernel), List.mem_of_getElem? (i := 1186) (by decide +kernel)⟩
theorem lw_p77 : lw_okq (⟨"WellGivesOtherModel", "term3", "()I"⟩, 46) := ⟨⟨by decide +kernel, by decide +kernel⟩, List.mem_of_getElem? (i := 866) (by decide +kernel), List.mem_of_getElem? (i := 1189) (by decide +kernel), List.mem_of_getElem? (i := 1190) (by decide +kernel)⟩
theorem lw_p78 : lw_okq (⟨"WellGivesOtherModel", "atom3", "()I"⟩, 46) := ⟨⟨by decide +kernel, by decide +kernel⟩, List.mem_of_getElem? (i := 866) (by decide +kernel), List.mem_of_getElem? (i := 1193) (by decide +kernel), List.mem_of_getElem? (i := 1194) (by decide +kernel)⟩
theorem lw_p79 : lw_okq (⟨"WellGivesOtherModel", "either4", "()I"⟩, 46) := ⟨⟨by decide +kernel, by decide +kernel⟩, List.mem_of_getElem? (i := 866) (by decide +kernel), List.mem_of_getElem? (i := 1197) (by decide +kernel), List.mem_of_getElem? (i := 1198) (by decide +kernel)⟩
def lw_privs_5 : List (MethodName × Nat) := [(⟨"WellGivesOtherModel", "not4", "()I"⟩, 46), (⟨"WellGivesOtherModel", "not5", "()I"⟩, 46), (⟨"WellGivesOtherModel", "added5", "()I"⟩, 46), (⟨"WellGivesOtherModel", "term5", "()I"⟩, 46), (⟨"WellGivesOtherModel", "atom5", "()I"⟩, 46), (⟨"WellGivesOtherModel", "isSign", "(I)Z"⟩, 46), (⟨"WellGivesOtherModel", "name", "()I"⟩, 46), (⟨"WellGivesOtherModel", "added4", "()I"⟩, 46), (⟨"WellGivesOtherModel", "term4", "()I"⟩, 46), (⟨"WellGivesOtherModel", "atom4", "()I"⟩, 46), (⟨"WellGivesOtherModel", "either5", "()I"⟩, 46), (⟨"WellGivesOtherModel", "both5", "()I"⟩, 46), (⟨"WellGivesOtherModel", "added3", "()I"⟩, 46), (⟨"WellGivesOtherModel", "term3", "()I"⟩, 46), (⟨"WellGivesOtherModel", "atom3", "()I"⟩, 46), (⟨"WellGivesOtherModel", "either4", "()I"⟩, 46)]
theorem lw_r5 : ∀ q ∈ lw_privs_5, lw_okq q := List.forall_mem_cons.mpr ⟨lw_p64, List.forall_mem_cons.mpr ⟨lw_p65, List.forall_mem_cons.mpr ⟨lw_p66, List.forall_mem_cons.mpr ⟨lw_p67, List.forall_mem_cons.mpr ⟨lw_p68, List.forall_mem_cons.mpr ⟨lw_p69, List.forall_mem_cons.mpr ⟨lw_p70, List.forall_mem_cons.mpr ⟨lw_p71, List.forall_mem_cons.mpr ⟨lw_p72, List.forall_mem_cons.mpr ⟨lw_p73, List.forall_mem_cons.mpr ⟨lw_p74, List.forall_mem_cons.mpr ⟨lw_p75, List.forall_mem_cons.mpr ⟨lw_p76, List.forall_mem_cons.mpr ⟨lw_p77, List.forall_mem_cons.mpr ⟨lw_p78, List.forall_mem_cons.mpr ⟨lw_p79, fun _ h => absurd h List.not_mem_nil⟩⟩⟩⟩⟩⟩⟩⟩⟩⟩⟩⟩⟩⟩⟩⟩
theorem lw_p80 : lw_okq (⟨"WellGivesOtherModel", "both4", "()I"⟩, 46) := ⟨⟨by decide +kernel, by decide +kernel⟩, List.mem_of_getElem? (i := 866) (by decide +kernel), List.mem_of_getElem? (i := 1201) (by decide +kernel), List.mem_of_getElem? (i := 1202) (by decide +kernel)⟩
theorem lw_p81 : lw_okq (⟨"WellGivesOtherModel", "added2", "()I"⟩, 46) := ⟨⟨by decide +kernel, by decide +kernel⟩, List.mem_of_getElem? (i := 866) (by decide +kernel), List.mem_of_getElem? (i := 1205) (by decide +kernel), List.mem_of_getElem? (i := 1206) (by decide +kernel)⟩
theorem lw_p82 : lw_okq (⟨"WellGivesOtherModel", "term2", "()I"⟩, 46) := ⟨⟨by decide +kernel, by decide +kernel⟩, List.mem_of_getElem? (i := 866) (by decide +kernel), List.mem_of_getElem? (i := 1209) (by decide +kernel), List.mem_of_getElem? (i := 1210) (by decide +kernel)⟩
theorem lw_p83 : lw_okq (⟨"WellGivesOtherModel", "atom2", "()I"⟩, 46) := ⟨⟨by decide +kernel, by decide +kernel⟩, List.mem_of_getElem? (i := 866) (by decide +kernel), List.mem_of_getElem? (i := 1213) (by decide +kernel), List.mem_of_getElem? (i := 1214) (by decide +kernel)⟩
theorem lw_p84 : lw_okq (⟨"WellGivesOtherModel", "either3", "()I"⟩, 46) := ⟨⟨by decide +kernel, by decide +kernel⟩, List.mem_of_getElem? (i := 866) (by decide +kernel), List.mem_of_getElem? (i := 1217) (by decide +kernel), List.mem_of_getElem? (i := 1218) (by decide +kernel)⟩
theorem lw_p85 : lw_okq (⟨"WellGivesOtherModel", "both3", "()I"⟩, 46) := ⟨⟨by decide +kernel, by decide +kernel⟩, List.mem_of_getElem? (i := 866) (by decide +kernel), List.mem_of_getElem? (i := 1221) (by decide +kernel), List.mem_of_getElem? (i := 1222) (by decide +kernel)⟩
theorem lw_p86 : lw_okq (⟨"WellGivesOtherModel", "added1", "()I"⟩, 46) := ⟨⟨by decide +kernel, by decide +kernel⟩, List.mem_of_getElem? (i := 866) (by decide +kernel), List.mem_of_getElem? (i := 1225) (by decide +kernel), List.mem_of_getElem? (i := 1226) (by decide +kernel)⟩
theorem lw_p87 : lw_okq (⟨"WellGivesOtherModel", "term1", "()I"⟩, 46) := ⟨⟨by decide +kernel, by decide +kernel⟩, List.mem_of_getElem? (i := 866) (by decide +kernel), List.mem_of_getElem? (i := 1229) (by decide +kernel), List.mem_of_getElem? (i := 1230) (by decide +kernel)⟩
theorem lw_p88 : lw_okq (⟨"WellGivesOtherModel", "atom1", "()I"⟩, 46) := ⟨⟨by decide +kernel, by decide +kernel⟩, List.mem_of_getElem? (i := 866) (by decide +kernel), List.mem_of_getElem? (i := 1233) (by decide +kernel), List.mem_of_getElem? (i := 1234) (by decide +kernel)⟩
theorem lw_p89 : lw_okq (⟨"WellGivesOtherModel", "either2", "()I"⟩, 46) := ⟨⟨by decide +kernel, by decide +kernel⟩, List.mem_of_getElem? (i := 866) (by decide +kernel), List.mem_of_getElem? (i := 1237) (by decide +kernel), List.mem_of_getElem? (i := 1238) (by decide +kernel)⟩
theorem lw_p90 : lw_okq (⟨"WellGivesOtherModel", "both2", "()I"⟩, 46) := ⟨⟨by decide +kernel, by decide +kernel⟩, List.mem_of_getElem? (i := 866) (by decide +kernel), List.mem_of_getElem? (i := 1241) (by decide +kernel), List.mem_of_getElem? (i := 1242) (by decide +kernel)⟩
theorem lw_p91 : lw_okq (⟨"WellGivesOtherModel", "added0", "()I"⟩, 46) := ⟨⟨by decide +kernel, by decide +kernel⟩, List.mem_of_getElem? (i := 866) (by decide +kernel), List.mem_of_getElem? (i := 1245) (by decide +kernel), List.mem_of_getElem? (i := 1246) (by decide +kernel)⟩
theorem lw_p92 : lw_okq (⟨"WellGivesOtherModel", "term0", "()I"⟩, 46) := ⟨⟨by decide +kernel, by decide +kernel⟩, List.mem_of_getElem? (i := 866) (by decide +kernel), List.mem_of_getElem? (i := 1249) (by decide +kernel), List.mem_of_getElem? (i := 1250) (by decide +kernel)⟩
theorem lw_p93 : lw_okq (⟨"WellGivesOtherModel", "atom0", "()I"⟩, 46) := ⟨⟨by decide +kernel, by decide +kernel⟩, List.mem_of_getElem? (i := 866) (by decide +kernel), List.mem_of_getElem? (i := 1253) (by decide +kernel), List.mem_of_getElem? (i := 1254) (by decide +kernel)⟩
theorem lw_p94 : lw_okq (⟨"WellGivesOtherModel", "either1", "()I"⟩, 46) := ⟨⟨by decide +kernel, by decide +kernel⟩, List.mem_of_getElem? (i := 866) (by decide +kernel), List.mem_of_getElem? (i := 1257) (by decide +kernel), List.mem_of_getElem? (i := 1258) (by decide +kernel)⟩
theorem lw_p95 : lw_okq (⟨"WellGivesOtherModel", "both1", "()I"⟩, 46) := ⟨⟨by decide +kernel, by decide +kernel⟩, List.mem_of_getElem? (i := 866) (by decide +kernel), List.mem_of_getElem? (i := 1261) (by decide +kernel), List.mem_of_getElem? (i := 1262) (by decide +kernel)⟩
def lw_privs_6 : List (MethodName × Nat) := [(⟨"WellGivesOtherModel", "both4", "()I"⟩, 46), (⟨"WellGivesOtherModel", "added2", "()I"⟩, 46), (⟨"WellGivesOtherModel", "term2", "()I"⟩, 46), (⟨"WellGivesOtherModel", "atom2", "()I"⟩, 46), (⟨"WellGivesOtherModel", "either3", "()I"⟩, 46), (⟨"WellGivesOtherModel", "both3", "()I"⟩, 46), (⟨"WellGivesOtherModel", "added1", "()I"⟩, 46), (⟨"WellGivesOtherModel", "term1", "()I"⟩, 46), (⟨"WellGivesOtherModel", "atom1", "()I"⟩, 46), (⟨"WellGivesOtherModel", "either2", "()I"⟩, 46), (⟨"WellGivesOtherModel", "both2", "()I"⟩, 46), (⟨"WellGivesOtherModel", "added0", "()I"⟩, 46), (⟨"WellGivesOtherModel", "term0", "()I"⟩, 46), (⟨"WellGivesOtherModel", "atom0", "()I"⟩, 46), (⟨"WellGivesOtherModel", "either1", "()I"⟩, 46), (⟨"WellGivesOtherModel", "both1", "()I"⟩, 46)]
theorem lw_r6 : ∀ q ∈ lw_privs_6, lw_okq q := List.forall_mem_cons.mpr ⟨lw_p80, List.forall_mem_cons.mpr ⟨lw_p81, List.forall_mem_cons.mpr ⟨lw_p82, List.forall_mem_cons.mpr ⟨lw_p83, List.forall_mem_cons.mpr ⟨lw_p84, List.forall_mem_cons.mpr ⟨lw_p85, List.forall_mem_cons.mpr ⟨lw_p86, List.forall_mem_cons.mpr ⟨lw_p87, List.forall_mem_cons.mpr ⟨lw_p88, List.forall_mem_cons.mpr ⟨lw_p89, List.forall_mem_cons.mpr ⟨lw_p90, List.forall_mem_cons.mpr ⟨lw_p91, List.forall_mem_cons.mpr ⟨lw_p92, List.forall_mem_cons.mpr ⟨lw_p93, List.forall_mem_cons.mpr ⟨lw_p94, List.forall_mem_cons.mpr ⟨lw_p95, fun _ h => absurd h List.not_mem_nil⟩⟩⟩⟩⟩⟩⟩⟩⟩⟩⟩⟩⟩⟩⟩⟩
theorem lw_p96 : lw_okq (⟨"WellGivesOtherModel", "lays", "(III)V"⟩, 46) := ⟨⟨by decide +kernel, by decide +kernel⟩, List.mem_of_getElem? (i := 866) (by decide +kernel), List.mem_of_getElem? (i := 1271) (by decide +kernel), List.mem_of_getElem? (i := 1272) (by decide +kernel)⟩
theorem lw_p97 : lw_okq (⟨"WellGivesOtherModel", "shutsBy", "(II)I"⟩, 46) := ⟨⟨by decide +kernel, by decide +kernel⟩, List.mem_of_getElem? (i := 866) (by decide +kernel), List.mem_of_getElem? (i := 1301) (by decide +kernel), List.mem_of_getElem? (i := 1302) (by decide +kernel)⟩
theorem lw_p98 : lw_okq (⟨"WellGivesOtherModel", "costsOf", "(II)I"⟩, 46) := ⟨⟨by decide +kernel, by decide +kernel⟩, List.mem_of_getElem? (i := 866) (by decide +kernel), List.mem_of_getElem? (i := 1305) (by decide +kernel), List.mem_of_getElem? (i := 1306) (by decide +kernel)⟩
theorem lw_p99 : lw_okq (⟨"WellGivesOtherModel", "gladOf", "(II)I"⟩, 46) := ⟨⟨by decide +kernel, by decide +kernel⟩, List.mem_of_getElem? (i := 866) (by decide +kernel), List.mem_of_getElem? (i := 1313) (by decide +kernel), List.mem_of_getElem? (i := 1314) (by decide +kernel)⟩
theorem lw_p100 : lw_okq (⟨"WellGivesOtherModel", "asked", "(II)I"⟩, 46) := ⟨⟨by decide +kernel, by decide +kernel⟩, List.mem_of_getElem? (i := 866) (by decide +kernel), List.mem_of_getElem? (i := 1321) (by decide +kernel), List.mem_of_getElem? (i := 1322) (by decide +kernel)⟩
theorem lw_p101 : lw_okq (⟨"WellGivesOtherModel", "rowBad", "(I)I"⟩, 46) := ⟨⟨by decide +kernel, by decide +kernel⟩, List.mem_of_getElem? (i := 866) (by decide +kernel), List.mem_of_getElem? (i := 1336) (by decide +kernel), List.mem_of_getElem? (i := 1337) (by decide +kernel)⟩
theorem lw_p102 : lw_okq (⟨"WellGivesOtherModel", "laysAside", "()V"⟩, 46) := ⟨⟨by decide +kernel, by decide +kernel⟩, List.mem_of_getElem? (i := 866) (by decide +kernel), List.mem_of_getElem? (i := 1340) (by decide +kernel), List.mem_of_getElem? (i := 1341) (by decide +kernel)⟩
theorem lw_p103 : lw_okq (⟨"WellGivesOtherModel", "askAll", "(II)V"⟩, 46) := ⟨⟨by decide +kernel, by decide +kernel⟩, List.mem_of_getElem? (i := 866) (by decide +kernel), List.mem_of_getElem? (i := 1344) (by decide +kernel), List.mem_of_getElem? (i := 1345) (by decide +kernel)⟩
theorem lw_p104 : lw_okq (⟨"WellGivesOtherModel", "laysBack", "()V"⟩, 46) := ⟨⟨by decide +kernel, by decide +kernel⟩, List.mem_of_getElem? (i := 866) (by decide +kernel), List.mem_of_getElem? (i := 1348) (by decide +kernel), List.mem_of_getElem? (i := 1349) (by decide +kernel)⟩
theorem lw_p105 : lw_okq (⟨"WellGivesOtherModel", "cliques", "()I"⟩, 46) := ⟨⟨by decide +kernel, by decide +kernel⟩, List.mem_of_getElem? (i := 866) (by decide +kernel), List.mem_of_getElem? (i := 1376) (by decide +kernel), List.mem_of_getElem? (i := 1377) (by decide +kernel)⟩
theorem lw_p106 : lw_okq (⟨"WellGivesOtherModel", "likeTwos", "()I"⟩, 46) := ⟨⟨by decide +kernel, by decide +kernel⟩, List.mem_of_getElem? (i := 866) (by decide +kernel), List.mem_of_getElem? (i := 1380) (by decide +kernel), List.mem_of_getElem? (i := 1381) (by decide +kernel)⟩
theorem lw_p107 : lw_okq (⟨"WellGivesOtherModel", "firstOther", "(II)I"⟩, 46) := ⟨⟨by decide +kernel, by decide +kernel⟩, List.mem_of_getElem? (i := 866) (by decide +kernel), List.mem_of_getElem? (i := 1397) (by decide +kernel), List.mem_of_getElem? (i := 1398) (by decide +kernel)⟩
theorem lw_p108 : lw_okq (⟨"WellGivesOtherModel", "likeSet", "(I)I"⟩, 46) := ⟨⟨by decide +kernel, by decide +kernel⟩, List.mem_of_getElem? (i := 866) (by decide +kernel), List.mem_of_getElem? (i := 1401) (by decide +kernel), List.mem_of_getElem? (i := 1402) (by decide +kernel)⟩
theorem lw_p109 : lw_okq (⟨"WellGivesOtherModel", "turnedSet", "(II)I"⟩, 46) := ⟨⟨by decide +kernel, by decide +kernel⟩, List.mem_of_getElem? (i := 866) (by decide +kernel), List.mem_of_getElem? (i := 1405) (by decide +kernel), List.mem_of_getElem? (i := 1406) (by decide +kernel)⟩
theorem lw_p110 : lw_okq (⟨"WellGivesOtherModel", "hadDrawn", "(III)I"⟩, 46) := ⟨⟨by decide +kernel, by decide +kernel⟩, List.mem_of_getElem? (i := 866) (by decide +kernel), List.mem_of_getElem? (i := 1424) (by decide +kernel), List.mem_of_getElem? (i := 1425) (by decide +kernel)⟩
def lw_privs_7 : List (MethodName × Nat) := [(⟨"WellGivesOtherModel", "lays", "(III)V"⟩, 46), (⟨"WellGivesOtherModel", "shutsBy", "(II)I"⟩, 46), (⟨"WellGivesOtherModel", "costsOf", "(II)I"⟩, 46), (⟨"WellGivesOtherModel", "gladOf", "(II)I"⟩, 46), (⟨"WellGivesOtherModel", "asked", "(II)I"⟩, 46), (⟨"WellGivesOtherModel", "rowBad", "(I)I"⟩, 46), (⟨"WellGivesOtherModel", "laysAside", "()V"⟩, 46), (⟨"WellGivesOtherModel", "askAll", "(II)V"⟩, 46), (⟨"WellGivesOtherModel", "laysBack", "()V"⟩, 46), (⟨"WellGivesOtherModel", "cliques", "()I"⟩, 46), (⟨"WellGivesOtherModel", "likeTwos", "()I"⟩, 46), (⟨"WellGivesOtherModel", "firstOther", "(II)I"⟩, 46), (⟨"WellGivesOtherModel", "likeSet", "(I)I"⟩, 46), (⟨"WellGivesOtherModel", "turnedSet", "(II)I"⟩, 46), (⟨"WellGivesOtherModel", "hadDrawn", "(III)I"⟩, 46)]
theorem lw_r7 : ∀ q ∈ lw_privs_7, lw_okq q := List.forall_mem_cons.mpr ⟨lw_p96, List.forall_mem_cons.mpr ⟨lw_p97, List.forall_mem_cons.mpr ⟨lw_p98, List.forall_mem_cons.mpr ⟨lw_p99, List.forall_mem_cons.mpr ⟨lw_p100, List.forall_mem_cons.mpr ⟨lw_p101, List.forall_mem_cons.mpr ⟨lw_p102, List.forall_mem_cons.mpr ⟨lw_p103, List.forall_mem_cons.mpr ⟨lw_p104, List.forall_mem_cons.mpr ⟨lw_p105, List.forall_mem_cons.mpr ⟨lw_p106, List.forall_mem_cons.mpr ⟨lw_p107, List.forall_mem_cons.mpr ⟨lw_p108, List.forall_mem_cons.mpr ⟨lw_p109, List.forall_mem_cons.mpr ⟨lw_p110, fun _ h => absurd h List.not_mem_nil⟩⟩⟩⟩⟩⟩⟩⟩⟩⟩⟩⟩⟩⟩⟩
def lw_privs : List (MethodName × Nat) := lw_privs_1 ++ (lw_privs_2 ++ (lw_privs_3 ++ (lw_privs_4 ++ (lw_privs_5 ++ (lw_privs_6 ++ (lw_privs_7))))))
def lw_tbl : List Cond := k2_sels lw_privs ++ tables_1
theorem lw_privs_ok : ∀ q ∈ lw_privs, lw_okq q := by
  show ∀ q ∈ lw_privs_1 ++ (lw_privs_2 ++ (lw_privs_3 ++ (lw_privs_4 ++ (lw_privs_5 ++ (lw_privs_6 ++ (lw_privs_7)))))), lw_okq q
  exact List.forall_mem_append.mpr ⟨lw_r1, List.forall_mem_append.mpr ⟨lw_r2, List.forall_mem_append.mpr ⟨lw_r3, List.forall_mem_append.mpr ⟨lw_r4, List.forall_mem_append.mpr ⟨lw_r5, List.forall_mem_append.mpr ⟨lw_r6, lw_r7⟩⟩⟩⟩⟩⟩
/-! ===== BEGIN words of one list among another's, by their places ===== -/
theorem goodIn_r {big : List Cond} (ws : List Cond) (ps : List Nat) (hp : ws = ps.filterMap (fun i => big[i]?)) (h : ws.all goodWord = true) : GoodIn big ws := by
  intro w hw
  have h1 := List.all_eq_true.mp h w hw
  rw [hp] at hw
  obtain ⟨i, -, hi⟩ := List.mem_filterMap.mp hw
  have hm : w ∈ big := by first | exact List.mem_of_getElem? hi | exact List.getElem?_mem hi
  exact ⟨hm, good_of_word h1⟩
theorem goodIn_app {big a b : List Cond} (ha : GoodIn big a) (hb : GoodIn big b) : GoodIn big (a ++ b) := fun w h => (List.mem_append.mp h).elim (ha w) (hb w)
theorem goodIn_ca {big a b : List Cond} {c : Cond} (ha : GoodIn big (c :: a)) (hb : GoodIn big b) : GoodIn big (c :: (a ++ b)) := fun w h => (List.mem_cons.mp h).elim (fun e => ha w (List.mem_cons.mpr (Or.inl e))) (fun h => (List.mem_append.mp h).elim (fun h => ha w (List.mem_cons.mpr (Or.inr h))) (hb w))
theorem goodIn_sub {big ws : List Cond} (hm : ∀ w ∈ ws, w ∈ big) (h : ws.all goodWord = true) : GoodIn big ws := fun w hw => ⟨hm w hw, good_of_word (List.all_eq_true.mp h w hw)⟩
/-! ===== END ===== -/

/-! ===== BEGIN printed: names, fields, word lists, decode rows ===== -/
def RX0 : String := "WellGivesOther$Asker"
def TX0 : u_T := fun k => match k with
  | 0 => ("WellGivesOther$Asker", "kind", "I", false)
  | 1 => ("WellGivesOther$Asker", "number", "I", false)
  | 2 => ("WellGivesOther$Asker", "shut", "I", false)
  | 3 => ("WellGivesOther$Asker", "had", "I", false)
  | _ => ("WellGivesOther$Asker", "spent", "I", false)
def tyX0 : Nat → FieldType := fun k => match k with
  | 0 => .int
  | 1 => .int
  | 2 => .int
  | 3 => .int
  | _ => .int
abbrev wsX00 : List Cond := u_ws RX0 TX0 5
theorem nmX0 : ∀ a, a < 5 → ∀ b, b < 5 → a ≠ b → (TX0 a).2.1 ≠ (TX0 b).2.1 := by decide +kernel
theorem tyX0_ok : ∀ k, k < 5 → parseFieldDescriptor (TX0 k).2.2.1 = some (tyX0 k) := by decide +kernel
abbrev cX0_init : ByteArray := prog_2_method_1_code
def yX0_init : MethodName := ⟨RX0, "<init>", "()V"⟩
abbrev cX0_come : ByteArray := prog_2_method_2_code
def yX0_come : MethodName := ⟨RX0, "come", "(II)V"⟩
abbrev cX0_becomeLike : ByteArray := prog_2_method_3_code
def yX0_becomeLike : MethodName := ⟨RX0, "becomeLike", "(LWellGivesOther$Asker;)V"⟩
abbrev cX0_tell : ByteArray := prog_2_method_4_code
def yX0_tell : MethodName := ⟨RX0, "tell", "(I)I"⟩
abbrev cX0_change : ByteArray := prog_2_method_5_code
def yX0_change : MethodName := ⟨RX0, "change", "(II)V"⟩
def RX1 : String := "WellGivesOther$Picture"
def TX1 : u_T := fun k => match k with
  | 0 => ("WellGivesOther$Picture", "keptLikes", "[I", true)
  | 1 => ("WellGivesOther$Picture", "keptAskers", "[LWellGivesOther$Asker;", true)
  | 2 => ("WellGivesOther$Picture", "today", "I", false)
  | 3 => ("WellGivesOther$Picture", "rule", "I", false)
  | _ => ("WellGivesOther$Picture", "askerCount", "I", false)
def tyX1 : Nat → FieldType := fun k => match k with
  | 0 => .array .int
  | 1 => .array (.object "WellGivesOther$Asker")
  | 2 => .int
  | 3 => .int
  | _ => .int
abbrev wsX10 : List Cond := u_ws RX1 TX1 5
theorem nmX1 : ∀ a, a < 5 → ∀ b, b < 5 → a ≠ b → (TX1 a).2.1 ≠ (TX1 b).2.1 := by decide +kernel
theorem tyX1_ok : ∀ k, k < 5 → parseFieldDescriptor (TX1 k).2.2.1 = some (tyX1 k) := by decide +kernel
abbrev cX1_init : ByteArray := prog_3_method_1_code
def yX1_init : MethodName := ⟨RX1, "<init>", "()V"⟩
abbrev cX1_keep : ByteArray := prog_3_method_2_code
def yX1_keep : MethodName := ⟨RX1, "keep", "([I[LWellGivesOther$Asker;I)V"⟩
abbrev cX1_layBack : ByteArray := prog_3_method_3_code
def yX1_layBack : MethodName := ⟨RX1, "layBack", "([I[LWellGivesOther$Asker;)V"⟩
abbrev cX1_copyLikes : ByteArray := prog_3_method_4_code
def yX1_copyLikes : MethodName := ⟨RX1, "copyLikes", "([I[I)V"⟩
abbrev cX1_copyAskers : ByteArray := prog_3_method_5_code
def yX1_copyAskers : MethodName := ⟨RX1, "copyAskers", "([LWellGivesOther$Asker;[LWellGivesOther$Asker;)V"⟩
def RX2 : String := "WellGivesOther$Reader"
def TX2 : u_T := fun k => match k with
  | 0 => ("WellGivesOther$Reader", "tokens", "LWellGivesOther$Tokens;", true)
  | 1 => ("WellGivesOther$Reader", "text", "LWellGivesOther$Text;", false)
  | 2 => ("WellGivesOther$Reader", "at", "I", false)
  | 3 => ("WellGivesOther$Reader", "token", "I", false)
  | _ => ("WellGivesOther$Reader", "fault", "I", false)
def tyX2 : Nat → FieldType := fun k => match k with
  | 0 => .object "WellGivesOther$Tokens"
  | 1 => .object "WellGivesOther$Text"
  | 2 => .int
  | 3 => .int
  | _ => .int
abbrev wsX20 : List Cond := u_ws RX2 TX2 5
theorem nmX2 : ∀ a, a < 5 → ∀ b, b < 5 → a ≠ b → (TX2 a).2.1 ≠ (TX2 b).2.1 := by decide +kernel
theorem tyX2_ok : ∀ k, k < 5 → parseFieldDescriptor (TX2 k).2.2.1 = some (tyX2 k) := by decide +kernel
abbrev cX2_init : ByteArray := prog_4_method_1_code
def yX2_init : MethodName := ⟨RX2, "<init>", "([I)V"⟩
abbrev cX2_read : ByteArray := prog_4_method_2_code
def yX2_read : MethodName := ⟨RX2, "read", "(ILWellGivesOther$Text;)I"⟩
abbrev cX2_readPart : ByteArray := prog_4_method_3_code
def yX2_readPart : MethodName := ⟨RX2, "readPart", "(I)V"⟩
abbrev cX2_readEither : ByteArray := prog_4_method_4_code
def yX2_readEither : MethodName := ⟨RX2, "readEither", "(I)V"⟩
abbrev cX2_readBoth : ByteArray := prog_4_method_5_code
def yX2_readBoth : MethodName := ⟨RX2, "readBoth", "(I)V"⟩
abbrev cX2_readNot : ByteArray := prog_4_method_6_code
def yX2_readNot : MethodName := ⟨RX2, "readNot", "(I)V"⟩
abbrev cX2_readSum : ByteArray := prog_4_method_7_code
def yX2_readSum : MethodName := ⟨RX2, "readSum", "(I)V"⟩
abbrev cX2_readTerm : ByteArray := prog_4_method_8_code
def yX2_readTerm : MethodName := ⟨RX2, "readTerm", "(I)V"⟩
abbrev cX2_readOne : ByteArray := prog_4_method_9_code
def yX2_readOne : MethodName := ⟨RX2, "readOne", "(I)V"⟩
abbrev cX2_mayOpen : ByteArray := prog_4_method_10_code
def yX2_mayOpen : MethodName := ⟨RX2, "mayOpen", "(I)Z"⟩
abbrev cX2_expect : ByteArray := prog_4_method_11_code
def yX2_expect : MethodName := ⟨RX2, "expect", "(I)V"⟩
abbrev cX2_fail : ByteArray := prog_4_method_12_code
def yX2_fail : MethodName := ⟨RX2, "fail", "()V"⟩
abbrev cX2_add : ByteArray := prog_4_method_13_code
def yX2_add : MethodName := ⟨RX2, "add", "(I)V"⟩
abbrev cX2_advance : ByteArray := prog_4_method_14_code
def yX2_advance : MethodName := ⟨RX2, "advance", "()V"⟩
def RX3 : String := "WellGivesOther$Sheet"
def TX3 : u_T := fun k => match k with
  | 0 => ("WellGivesOther$Sheet", "cells", "[I", true)
  | 1 => ("WellGivesOther$Sheet", "sort", "I", false)
  | _ => ("WellGivesOther$Sheet", "size", "I", false)
def tyX3 : Nat → FieldType := fun k => match k with
  | 0 => .array .int
  | 1 => .int
  | _ => .int
abbrev wsX30 : List Cond := u_ws RX3 TX3 3
theorem nmX3 : ∀ a, a < 3 → ∀ b, b < 3 → a ≠ b → (TX3 a).2.1 ≠ (TX3 b).2.1 := by decide +kernel
theorem tyX3_ok : ∀ k, k < 3 → parseFieldDescriptor (TX3 k).2.2.1 = some (tyX3 k) := by decide +kernel
abbrev cX3_init : ByteArray := prog_5_method_1_code
def yX3_init : MethodName := ⟨RX3, "<init>", "()V"⟩
abbrev cX3_become : ByteArray := prog_5_method_2_code
def yX3_become : MethodName := ⟨RX3, "become", "(II)V"⟩
abbrev cX3_isMissing : ByteArray := prog_5_method_3_code
def yX3_isMissing : MethodName := ⟨RX3, "isMissing", "()Z"⟩
abbrev cX3_holds : ByteArray := prog_5_method_4_code
def yX3_holds : MethodName := ⟨RX3, "holds", "(II)Z"⟩
abbrev cX3_at : ByteArray := prog_5_method_5_code
def yX3_at : MethodName := ⟨RX3, "at", "(I)I"⟩
abbrev cX3_put : ByteArray := prog_5_method_6_code
def yX3_put : MethodName := ⟨RX3, "put", "(II)V"⟩
def RX4 : String := "WellGivesOther$Text"
def TX4 : u_T := fun k => match k with
  | 0 => ("WellGivesOther$Text", "codes", "[I", true)
  | 1 => ("WellGivesOther$Text", "ends", "[I", true)
  | 2 => ("WellGivesOther$Text", "stack", "[I", true)
  | 3 => ("WellGivesOther$Text", "size", "I", false)
  | 4 => ("WellGivesOther$Text", "parts", "I", false)
  | _ => ("WellGivesOther$Text", "top", "I", false)
def tyX4 : Nat → FieldType := fun k => match k with
  | 0 => .array .int
  | 1 => .array .int
  | 2 => .array .int
  | 3 => .int
  | 4 => .int
  | _ => .int
abbrev wsX40 : List Cond := u_ws RX4 TX4 6
theorem nmX4 : ∀ a, a < 6 → ∀ b, b < 6 → a ≠ b → (TX4 a).2.1 ≠ (TX4 b).2.1 := by decide +kernel
theorem tyX4_ok : ∀ k, k < 6 → parseFieldDescriptor (TX4 k).2.2.1 = some (tyX4 k) := by decide +kernel
abbrev cX4_init : ByteArray := prog_6_method_1_code
def yX4_init : MethodName := ⟨RX4, "<init>", "()V"⟩
abbrev cX4_placeOf : ByteArray := prog_6_method_2_code
def yX4_placeOf : MethodName := ⟨RX4, "placeOf", "(I)I"⟩
abbrev cX4_isName : ByteArray := prog_6_method_3_code
def yX4_isName : MethodName := ⟨RX4, "isName", "(I)Z"⟩
abbrev cX4_clear : ByteArray := prog_6_method_4_code
def yX4_clear : MethodName := ⟨RX4, "clear", "()V"⟩
abbrev cX4_add : ByteArray := prog_6_method_5_code
def yX4_add : MethodName := ⟨RX4, "add", "(I)V"⟩
abbrev cX4_endPart : ByteArray := prog_6_method_6_code
def yX4_endPart : MethodName := ⟨RX4, "endPart", "()V"⟩
abbrev cX4_becomeFirst : ByteArray := prog_6_method_7_code
def yX4_becomeFirst : MethodName := ⟨RX4, "becomeFirst", "()V"⟩
abbrev cX4_valueOf : ByteArray := prog_6_method_8_code
def yX4_valueOf : MethodName := ⟨RX4, "valueOf", "(I[I)I"⟩
abbrev cX4_push : ByteArray := prog_6_method_9_code
def yX4_push : MethodName := ⟨RX4, "push", "(I)V"⟩
abbrev cX4_workOnOne : ByteArray := prog_6_method_10_code
def yX4_workOnOne : MethodName := ⟨RX4, "workOnOne", "(I)V"⟩
abbrev cX4_workOnTwo : ByteArray := prog_6_method_11_code
def yX4_workOnTwo : MethodName := ⟨RX4, "workOnTwo", "(I)V"⟩
def RX5 : String := "WellGivesOther$Tokens"
def TX5 : u_T := fun k => match k with
  | 0 => ("WellGivesOther$Tokens", "bytes", "[I", true)
  | 1 => ("WellGivesOther$Tokens", "sorts", "[I", true)
  | 2 => ("WellGivesOther$Tokens", "starts", "[I", true)
  | 3 => ("WellGivesOther$Tokens", "values", "[I", true)
  | 4 => ("WellGivesOther$Tokens", "size", "I", false)
  | 5 => ("WellGivesOther$Tokens", "start", "I", false)
  | 6 => ("WellGivesOther$Tokens", "end", "I", false)
  | _ => ("WellGivesOther$Tokens", "value", "I", false)
def tyX5 : Nat → FieldType := fun k => match k with
  | 0 => .array .int
  | 1 => .array .int
  | 2 => .array .int
  | 3 => .array .int
  | 4 => .int
  | 5 => .int
  | 6 => .int
  | _ => .int
abbrev wsX50 : List Cond := u_ws RX5 TX5 8
theorem nmX5 : ∀ a, a < 8 → ∀ b, b < 8 → a ≠ b → (TX5 a).2.1 ≠ (TX5 b).2.1 := by decide +kernel
theorem tyX5_ok : ∀ k, k < 8 → parseFieldDescriptor (TX5 k).2.2.1 = some (tyX5 k) := by decide +kernel
abbrev cX5_init : ByteArray := prog_7_method_1_code
def yX5_init : MethodName := ⟨RX5, "<init>", "([I)V"⟩
abbrev cX5_sortOf : ByteArray := prog_7_method_2_code
def yX5_sortOf : MethodName := ⟨RX5, "sortOf", "(I)I"⟩
abbrev cX5_startOf : ByteArray := prog_7_method_3_code
def yX5_startOf : MethodName := ⟨RX5, "startOf", "(I)I"⟩
abbrev cX5_valueOf : ByteArray := prog_7_method_4_code
def yX5_valueOf : MethodName := ⟨RX5, "valueOf", "(I)I"⟩
abbrev cX5_scan : ByteArray := prog_7_method_5_code
def yX5_scan : MethodName := ⟨RX5, "scan", "(I)V"⟩
abbrev cX5_scanOne : ByteArray := prog_7_method_6_code
def yX5_scanOne : MethodName := ⟨RX5, "scanOne", "()I"⟩
abbrev cX5_byteAt : ByteArray := prog_7_method_7_code
def yX5_byteAt : MethodName := ⟨RX5, "byteAt", "(I)I"⟩
abbrev cX5_isBlank : ByteArray := prog_7_method_8_code
def yX5_isBlank : MethodName := ⟨RX5, "isBlank", "(I)Z"⟩
abbrev cX5_isLetter : ByteArray := prog_7_method_9_code
def yX5_isLetter : MethodName := ⟨RX5, "isLetter", "(I)Z"⟩
abbrev cX5_isDigit : ByteArray := prog_7_method_10_code
def yX5_isDigit : MethodName := ⟨RX5, "isDigit", "(I)Z"⟩
abbrev cX5_isSign : ByteArray := prog_7_method_11_code
def yX5_isSign : MethodName := ⟨RX5, "isSign", "(I)Z"⟩
abbrev cX5_scanNumber : ByteArray := prog_7_method_12_code
def yX5_scanNumber : MethodName := ⟨RX5, "scanNumber", "()I"⟩
abbrev cX5_scanWord : ByteArray := prog_7_method_13_code
def yX5_scanWord : MethodName := ⟨RX5, "scanWord", "()I"⟩
abbrev cX5_isWord : ByteArray := prog_7_method_14_code
def yX5_isWord : MethodName := ⟨RX5, "isWord", "(Ljava/lang/String;)Z"⟩
def RX6 : String := "WellGivesOther$Visit"
def TX6 : u_T := fun k => match k with
  | 0 => ("WellGivesOther$Visit", "likes", "[I", true)
  | 1 => ("WellGivesOther$Visit", "names", "[I", true)
  | 2 => ("WellGivesOther$Visit", "rule", "LWellGivesOther$Text;", false)
  | 3 => ("WellGivesOther$Visit", "kind", "I", false)
  | 4 => ("WellGivesOther$Visit", "number", "I", false)
  | 5 => ("WellGivesOther$Visit", "shut", "I", false)
  | 6 => ("WellGivesOther$Visit", "had", "I", false)
  | 7 => ("WellGivesOther$Visit", "spent", "I", false)
  | 8 => ("WellGivesOther$Visit", "nextHad", "I", false)
  | 9 => ("WellGivesOther$Visit", "day", "I", false)
  | 10 => ("WellGivesOther$Visit", "last", "I", false)
  | 11 => ("WellGivesOther$Visit", "gifts", "I", false)
  | 12 => ("WellGivesOther$Visit", "misses", "I", false)
  | 13 => ("WellGivesOther$Visit", "joy", "I", false)
  | _ => ("WellGivesOther$Visit", "paid", "I", false)
def tyX6 : Nat → FieldType := fun k => match k with
  | 0 => .array .int
  | 1 => .array .int
  | 2 => .object "WellGivesOther$Text"
  | 3 => .int
  | 4 => .int
  | 5 => .int
  | 6 => .int
  | 7 => .int
  | 8 => .int
  | 9 => .int
  | 10 => .int
  | 11 => .int
  | 12 => .int
  | 13 => .int
  | _ => .int
abbrev wsX60 : List Cond := u_ws RX6 TX6 15
theorem nmX6 : ∀ a, a < 15 → ∀ b, b < 15 → a ≠ b → (TX6 a).2.1 ≠ (TX6 b).2.1 := by decide +kernel
theorem tyX6_ok : ∀ k, k < 15 → parseFieldDescriptor (TX6 k).2.2.1 = some (tyX6 k) := by decide +kernel
abbrev cX6_init : ByteArray := prog_8_method_1_code
def yX6_init : MethodName := ⟨RX6, "<init>", "([I)V"⟩
abbrev cX6_begin : ByteArray := prog_8_method_2_code
def yX6_begin : MethodName := ⟨RX6, "begin", "(LWellGivesOther$Asker;IILWellGivesOther$Text;)V"⟩
abbrev cX6_leaveTo : ByteArray := prog_8_method_3_code
def yX6_leaveTo : MethodName := ⟨RX6, "leaveTo", "(LWellGivesOther$Asker;)V"⟩
abbrev cX6_openBy : ByteArray := prog_8_method_4_code
def yX6_openBy : MethodName := ⟨RX6, "openBy", "(I)I"⟩
abbrev cX6_openToGreedy : ByteArray := prog_8_method_5_code
def yX6_openToGreedy : MethodName := ⟨RX6, "openToGreedy", "(II)I"⟩
abbrev cX6_likeAnyOf : ByteArray := prog_8_method_6_code
def yX6_likeAnyOf : MethodName := ⟨RX6, "likeAnyOf", "(I)I"⟩
abbrev cX6_likeTwoOf : ByteArray := prog_8_method_7_code
def yX6_likeTwoOf : MethodName := ⟨RX6, "likeTwoOf", "(I)I"⟩
abbrev cX6_givenBy : ByteArray := prog_8_method_8_code
def yX6_givenBy : MethodName := ⟨RX6, "givenBy", "(I)I"⟩
abbrev cX6_pickOf : ByteArray := prog_8_method_9_code
def yX6_pickOf : MethodName := ⟨RX6, "pickOf", "(II)I"⟩
abbrev cX6_bitAt : ByteArray := prog_8_method_10_code
def yX6_bitAt : MethodName := ⟨RX6, "bitAt", "(II)I"⟩
abbrev cX6_shutBy : ByteArray := prog_8_method_11_code
def yX6_shutBy : MethodName := ⟨RX6, "shutBy", "(I)I"⟩
abbrev cX6_costOf : ByteArray := prog_8_method_12_code
def yX6_costOf : MethodName := ⟨RX6, "costOf", "(I)I"⟩
abbrev cX6_gladOf : ByteArray := prog_8_method_13_code
def yX6_gladOf : MethodName := ⟨RX6, "gladOf", "(I)I"⟩
abbrev cX6_gladAsTwin : ByteArray := prog_8_method_14_code
def yX6_gladAsTwin : MethodName := ⟨RX6, "gladAsTwin", "(II)I"⟩
abbrev cX6_bounded : ByteArray := prog_8_method_15_code
def yX6_bounded : MethodName := ⟨RX6, "bounded", "(I)I"⟩
abbrev cX6_tellBy : ByteArray := prog_8_method_16_code
def yX6_tellBy : MethodName := ⟨RX6, "tellBy", "(IIII)I"⟩
abbrev cX6_put : ByteArray := prog_8_method_17_code
def yX6_put : MethodName := ⟨RX6, "put", "(II)V"⟩
abbrev cX6_askFor : ByteArray := prog_8_method_18_code
def yX6_askFor : MethodName := ⟨RX6, "askFor", "(I)I"⟩
def RX7 : String := "WellGivesOther"
def TX7 : u_T := fun k => match k with
  | 0 => ("WellGivesOther", "likes", "[I", true)
  | 1 => ("WellGivesOther", "fewSets", "[I", true)
  | 2 => ("WellGivesOther", "tape", "[I", true)
  | 3 => ("WellGivesOther", "seats", "[LWellGivesOther$Asker;", true)
  | 4 => ("WellGivesOther", "texts", "[LWellGivesOther$Text;", true)
  | 5 => ("WellGivesOther", "sheets", "[LWellGivesOther$Sheet;", true)
  | 6 => ("WellGivesOther", "thought", "LWellGivesOther$Visit;", true)
  | 7 => ("WellGivesOther", "reader", "LWellGivesOther$Reader;", true)
  | 8 => ("WellGivesOther", "picture", "LWellGivesOther$Picture;", true)
  | 9 => ("WellGivesOther", "today", "I", false)
  | 10 => ("WellGivesOther", "askerCount", "I", false)
  | 11 => ("WellGivesOther", "textCount", "I", false)
  | 12 => ("WellGivesOther", "rule", "I", false)
  | _ => ("WellGivesOther", "tapeSize", "I", false)
def tyX7 : Nat → FieldType := fun k => match k with
  | 0 => .array .int
  | 1 => .array .int
  | 2 => .array .int
  | 3 => .array (.object "WellGivesOther$Asker")
  | 4 => .array (.object "WellGivesOther$Text")
  | 5 => .array (.object "WellGivesOther$Sheet")
  | 6 => .object "WellGivesOther$Visit"
  | 7 => .object "WellGivesOther$Reader"
  | 8 => .object "WellGivesOther$Picture"
  | 9 => .int
  | 10 => .int
  | 11 => .int
  | 12 => .int
  | _ => .int
abbrev wsX70 : List Cond := u_ws RX7 TX7 14
theorem nmX7 : ∀ a, a < 14 → ∀ b, b < 14 → a ≠ b → (TX7 a).2.1 ≠ (TX7 b).2.1 := by decide +kernel
theorem tyX7_ok : ∀ k, k < 14 → parseFieldDescriptor (TX7 k).2.2.1 = some (tyX7 k) := by decide +kernel
abbrev cX7_init : ByteArray := prog_1_method_1_code
def yX7_init : MethodName := ⟨RX7, "<init>", "()V"⟩
abbrev cX7_like : ByteArray := prog_1_method_2_code
def yX7_like : MethodName := ⟨RX7, "like", "(III)I"⟩
abbrev cX7_set : ByteArray := prog_1_method_3_code
def yX7_set : MethodName := ⟨RX7, "set", "(III)I"⟩
abbrev cX7_asker : ByteArray := prog_1_method_4_code
def yX7_asker : MethodName := ⟨RX7, "asker", "(II)I"⟩
abbrev cX7_told : ByteArray := prog_1_method_5_code
def yX7_told : MethodName := ⟨RX7, "told", "(II)I"⟩
abbrev cX7_asks : ByteArray := prog_1_method_6_code
def yX7_asks : MethodName := ⟨RX7, "asks", "(III)I"⟩
abbrev cX7_glad : ByteArray := prog_1_method_7_code
def yX7_glad : MethodName := ⟨RX7, "glad", "(II)I"⟩
abbrev cX7_feed : ByteArray := prog_1_method_8_code
def yX7_feed : MethodName := ⟨RX7, "feed", "(I)I"⟩
abbrev cX7_text : ByteArray := prog_1_method_9_code
def yX7_text : MethodName := ⟨RX7, "text", "()I"⟩
abbrev cX7_force : ByteArray := prog_1_method_10_code
def yX7_force : MethodName := ⟨RX7, "force", "(I)I"⟩
abbrev cX7_ask : ByteArray := prog_1_method_11_code
def yX7_ask : MethodName := ⟨RX7, "ask", "(II)I"⟩
abbrev cX7_day : ByteArray := prog_1_method_12_code
def yX7_day : MethodName := ⟨RX7, "day", "()I"⟩
abbrev cX7_row : ByteArray := prog_1_method_13_code
def yX7_row : MethodName := ⟨RX7, "row", "(III)I"⟩
abbrev cX7_rows : ByteArray := prog_1_method_14_code
def yX7_rows : MethodName := ⟨RX7, "rows", "(II)I"⟩
abbrev cX7_leave : ByteArray := prog_1_method_15_code
def yX7_leave : MethodName := ⟨RX7, "leave", "(III)I"⟩
abbrev cX7_gladdest : ByteArray := prog_1_method_16_code
def yX7_gladdest : MethodName := ⟨RX7, "gladdest", "(II)I"⟩
abbrev cX7_get : ByteArray := prog_1_method_17_code
def yX7_get : MethodName := ⟨RX7, "get", "(III)I"⟩
abbrev cX7_map : ByteArray := prog_1_method_18_code
def yX7_map : MethodName := ⟨RX7, "map", "(I)I"⟩
abbrev cX7_net : ByteArray := prog_1_method_19_code
def yX7_net : MethodName := ⟨RX7, "net", "(I)I"⟩
abbrev cX7_share : ByteArray := prog_1_method_20_code
def yX7_share : MethodName := ⟨RX7, "share", "(II)J"⟩
abbrev cX7_tells : ByteArray := prog_1_method_21_code
def yX7_tells : MethodName := ⟨RX7, "tells", "(III)I"⟩
abbrev cX7_film : ByteArray := prog_1_method_22_code
def yX7_film : MethodName := ⟨RX7, "film", "(II)I"⟩
abbrev cX7_drawn : ByteArray := prog_1_method_23_code
def yX7_drawn : MethodName := ⟨RX7, "drawn", "(III)I"⟩
abbrev cX7_chance : ByteArray := prog_1_method_24_code
def yX7_chance : MethodName := ⟨RX7, "chance", "(IIIII)J"⟩
abbrev cX7_image : ByteArray := prog_1_method_25_code
def yX7_image : MethodName := ⟨RX7, "image", "()I"⟩
abbrev cX7_back : ByteArray := prog_1_method_26_code
def yX7_back : MethodName := ⟨RX7, "back", "()I"⟩
abbrev cX7_count : ByteArray := prog_1_method_27_code
def yX7_count : MethodName := ⟨RX7, "count", "(I)I"⟩
abbrev cX7_sheet : ByteArray := prog_1_method_28_code
def yX7_sheet : MethodName := ⟨RX7, "sheet", "(III)I"⟩
abbrev cX7_cell : ByteArray := prog_1_method_29_code
def yX7_cell : MethodName := ⟨RX7, "cell", "(III)I"⟩
abbrev cX7_copy : ByteArray := prog_1_method_30_code
def yX7_copy : MethodName := ⟨RX7, "copy", "(IIIII)I"⟩
abbrev cX7_askers : ByteArray := prog_1_method_31_code
def yX7_askers : MethodName := ⟨RX7, "askers", "(IIII)I"⟩
abbrev cX7_taken : ByteArray := prog_1_method_32_code
def yX7_taken : MethodName := ⟨RX7, "taken", "(II)I"⟩
abbrev cX7_isThing : ByteArray := prog_1_method_33_code
def yX7_isThing : MethodName := ⟨RX7, "isThing", "(I)Z"⟩
abbrev cX7_isAsked : ByteArray := prog_1_method_34_code
def yX7_isAsked : MethodName := ⟨RX7, "isAsked", "(I)Z"⟩
abbrev cX7_mostOf : ByteArray := prog_1_method_35_code
def yX7_mostOf : MethodName := ⟨RX7, "mostOf", "(I)I"⟩
abbrev cX7_likesOf : ByteArray := prog_1_method_36_code
def yX7_likesOf : MethodName := ⟨RX7, "likesOf", "(I)I"⟩
abbrev cX7_seat : ByteArray := prog_1_method_37_code
def yX7_seat : MethodName := ⟨RX7, "seat", "(I)LWellGivesOther$Asker;"⟩
abbrev cX7_sheetAt : ByteArray := prog_1_method_38_code
def yX7_sheetAt : MethodName := ⟨RX7, "sheetAt", "(I)LWellGivesOther$Sheet;"⟩
abbrev cX7_textAt : ByteArray := prog_1_method_39_code
def yX7_textAt : MethodName := ⟨RX7, "textAt", "(I)LWellGivesOther$Text;"⟩
abbrev cX7_visitOf : ByteArray := prog_1_method_40_code
def yX7_visitOf : MethodName := ⟨RX7, "visitOf", "(I)LWellGivesOther$Visit;"⟩
abbrev cX7_fillFewSets : ByteArray := prog_1_method_41_code
def yX7_fillFewSets : MethodName := ⟨RX7, "fillFewSets", "()V"⟩
abbrev cX7_neverGiven : ByteArray := prog_1_method_42_code
def yX7_neverGiven : MethodName := ⟨RX7, "neverGiven", "(I)I"⟩
abbrev cX7_rowRefusal : ByteArray := prog_1_method_43_code
def yX7_rowRefusal : MethodName := ⟨RX7, "rowRefusal", "(LWellGivesOther$Sheet;)I"⟩
abbrev cX7_askInRow : ByteArray := prog_1_method_44_code
def yX7_askInRow : MethodName := ⟨RX7, "askInRow", "(LWellGivesOther$Visit;LWellGivesOther$Sheet;)V"⟩
abbrev cX7_fewestLeaving : ByteArray := prog_1_method_45_code
def yX7_fewestLeaving : MethodName := ⟨RX7, "fewestLeaving", "(LWellGivesOther$Visit;I)I"⟩
abbrev cX7_gladdestSet : ByteArray := prog_1_method_46_code
def yX7_gladdestSet : MethodName := ⟨RX7, "gladdestSet", "(LWellGivesOther$Visit;)I"⟩
abbrev cX7_cheapestSet : ByteArray := prog_1_method_47_code
def yX7_cheapestSet : MethodName := ⟨RX7, "cheapestSet", "(LWellGivesOther$Visit;I)I"⟩
abbrev cX7_tellsSetsAndThings : ByteArray := prog_1_method_48_code
def yX7_tellsSetsAndThings : MethodName := ⟨RX7, "tellsSetsAndThings", "(LWellGivesOther$Sheet;)Z"⟩
abbrev cX7_isRuledOut : ByteArray := prog_1_method_49_code
def yX7_isRuledOut : MethodName := ⟨RX7, "isRuledOut", "(LWellGivesOther$Sheet;II)Z"⟩
abbrev cX7_cliques : ByteArray := prog_1_method_50_code
def yX7_cliques : MethodName := ⟨RX7, "cliques", "()I"⟩
abbrev cX7_nearest : ByteArray := prog_1_method_51_code
def yX7_nearest : MethodName := ⟨RX7, "nearest", "()I"⟩
abbrev cX7_likeTwos : ByteArray := prog_1_method_52_code
def yX7_likeTwos : MethodName := ⟨RX7, "likeTwos", "()I"⟩
abbrev cX7_lowest : ByteArray := prog_1_method_53_code
def yX7_lowest : MethodName := ⟨RX7, "lowest", "(III)J"⟩
abbrev cX7_firstOther : ByteArray := prog_1_method_54_code
def yX7_firstOther : MethodName := ⟨RX7, "firstOther", "(LWellGivesOther$Sheet;LWellGivesOther$Visit;)I"⟩
abbrev cX7_fittingKinds : ByteArray := prog_1_method_55_code
def yX7_fittingKinds : MethodName := ⟨RX7, "fittingKinds", "(LWellGivesOther$Sheet;LWellGivesOther$Visit;)I"⟩
abbrev cX7_fittingNumbers : ByteArray := prog_1_method_56_code
def yX7_fittingNumbers : MethodName := ⟨RX7, "fittingNumbers", "(LWellGivesOther$Sheet;LWellGivesOther$Visit;)I"⟩
abbrev cX7_fittingDays : ByteArray := prog_1_method_57_code
def yX7_fittingDays : MethodName := ⟨RX7, "fittingDays", "(LWellGivesOther$Sheet;LWellGivesOther$Visit;)I"⟩
abbrev cX7_firstFittingDay : ByteArray := prog_1_method_58_code
def yX7_firstFittingDay : MethodName := ⟨RX7, "firstFittingDay", "(LWellGivesOther$Sheet;LWellGivesOther$Visit;)I"⟩
abbrev cX7_fittingThings : ByteArray := prog_1_method_59_code
def yX7_fittingThings : MethodName := ⟨RX7, "fittingThings", "(LWellGivesOther$Sheet;LWellGivesOther$Visit;)I"⟩
abbrev cX7_fittingTexts : ByteArray := prog_1_method_60_code
def yX7_fittingTexts : MethodName := ⟨RX7, "fittingTexts", "(LWellGivesOther$Sheet;LWellGivesOther$Visit;)I"⟩
abbrev cX7_fittingAskers : ByteArray := prog_1_method_61_code
def yX7_fittingAskers : MethodName := ⟨RX7, "fittingAskers", "(LWellGivesOther$Sheet;)I"⟩
abbrev cX7_hadByDrawing : ByteArray := prog_1_method_62_code
def yX7_hadByDrawing : MethodName := ⟨RX7, "hadByDrawing", "(LWellGivesOther$Visit;II)I"⟩
def RX8 : String := "WellGivesOtherModel"
def TX8 : u_T := fun k => match k with
  | 0 => ("WellGivesOtherModel", "thrown", "I", false)
  | 1 => ("WellGivesOtherModel", "texts", "[I", true)
  | 2 => ("WellGivesOtherModel", "textSize", "[I", true)
  | 3 => ("WellGivesOtherModel", "textCount", "I", false)
  | 4 => ("WellGivesOtherModel", "rule", "I", false)
  | 5 => ("WellGivesOtherModel", "tape", "[I", true)
  | 6 => ("WellGivesOtherModel", "taped", "I", false)
  | 7 => ("WellGivesOtherModel", "dayNow", "I", false)
  | 8 => ("WellGivesOtherModel", "likes", "[I", true)
  | 9 => ("WellGivesOtherModel", "kinds", "[I", true)
  | 10 => ("WellGivesOtherModel", "rows", "[I", true)
  | 11 => ("WellGivesOtherModel", "many", "I", false)
  | 12 => ("WellGivesOtherModel", "sets", "[I", true)
  | 13 => ("WellGivesOtherModel", "ofThing", "I", false)
  | 14 => ("WellGivesOtherModel", "ofWords", "I", false)
  | 15 => ("WellGivesOtherModel", "ofWays", "I", false)
  | 16 => ("WellGivesOtherModel", "ofNumber", "I", false)
  | 17 => ("WellGivesOtherModel", "ofDay", "I", false)
  | 18 => ("WellGivesOtherModel", "ofHad", "I", false)
  | 19 => ("WellGivesOtherModel", "from", "I", false)
  | 20 => ("WellGivesOtherModel", "size", "I", false)
  | 21 => ("WellGivesOtherModel", "here", "I", false)
  | 22 => ("WellGivesOtherModel", "token", "I", false)
  | 23 => ("WellGivesOtherModel", "tokenAt", "I", false)
  | 24 => ("WellGivesOtherModel", "tokenWorth", "J", false)
  | 25 => ("WellGivesOtherModel", "open", "I", false)
  | 26 => ("WellGivesOtherModel", "bad", "Z", false)
  | 27 => ("WellGivesOtherModel", "fault", "I", false)
  | 28 => ("WellGivesOtherModel", "gladNow", "I", false)
  | 29 => ("WellGivesOtherModel", "costNow", "I", false)
  | 30 => ("WellGivesOtherModel", "was", "[I", true)
  | 31 => ("WellGivesOtherModel", "dayWas", "I", false)
  | 32 => ("WellGivesOtherModel", "lastThing", "I", false)
  | 33 => ("WellGivesOtherModel", "nothings", "I", false)
  | 34 => ("WellGivesOtherModel", "glads", "I", false)
  | 35 => ("WellGivesOtherModel", "costs", "I", false)
  | 36 => ("WellGivesOtherModel", "apart", "[I", true)
  | 37 => ("WellGivesOtherModel", "likesKept", "[I", true)
  | 38 => ("WellGivesOtherModel", "rowsKept", "[I", true)
  | 39 => ("WellGivesOtherModel", "manyKept", "I", false)
  | 40 => ("WellGivesOtherModel", "dayKept", "I", false)
  | 41 => ("WellGivesOtherModel", "ruleKept", "I", false)
  | 42 => ("WellGivesOtherModel", "isThere", "[Z", true)
  | 43 => ("WellGivesOtherModel", "sorts", "[I", true)
  | 44 => ("WellGivesOtherModel", "sheetSize", "[I", true)
  | _ => ("WellGivesOtherModel", "items", "[I", true)
def tyX8 : Nat → FieldType := fun k => match k with
  | 0 => .int
  | 1 => .array .int
  | 2 => .array .int
  | 3 => .int
  | 4 => .int
  | 5 => .array .int
  | 6 => .int
  | 7 => .int
  | 8 => .array .int
  | 9 => .array .int
  | 10 => .array .int
  | 11 => .int
  | 12 => .array .int
  | 13 => .int
  | 14 => .int
  | 15 => .int
  | 16 => .int
  | 17 => .int
  | 18 => .int
  | 19 => .int
  | 20 => .int
  | 21 => .int
  | 22 => .int
  | 23 => .int
  | 24 => .long
  | 25 => .int
  | 26 => .boolean
  | 27 => .int
  | 28 => .int
  | 29 => .int
  | 30 => .array .int
  | 31 => .int
  | 32 => .int
  | 33 => .int
  | 34 => .int
  | 35 => .int
  | 36 => .array .int
  | 37 => .array .int
  | 38 => .array .int
  | 39 => .int
  | 40 => .int
  | 41 => .int
  | 42 => .array .boolean
  | 43 => .array .int
  | 44 => .array .int
  | _ => .array .int
abbrev wsX80 : List Cond := u_ws RX8 TX8 46
theorem nmX8 : ∀ a, a < 46 → ∀ b, b < 46 → a ≠ b → (TX8 a).2.1 ≠ (TX8 b).2.1 := by decide +kernel
theorem tyX8_ok : ∀ k, k < 46 → parseFieldDescriptor (TX8 k).2.2.1 = some (tyX8 k) := by decide +kernel
abbrev cX8_in : ByteArray := prog_10_method_2_code
def yX8_in : MethodName := ⟨RX8, "in", "(JJJ)Z"⟩
abbrev cX8_within : ByteArray := prog_10_method_3_code
def yX8_within : MethodName := ⟨RX8, "within", "(III)I"⟩
abbrev cX8_init : ByteArray := prog_10_method_4_code
def yX8_init : MethodName := ⟨RX8, "<init>", "()V"⟩
abbrev cX8_spell : ByteArray := prog_10_method_5_code
def yX8_spell : MethodName := ⟨RX8, "spell", "(IIIIIIIII)V"⟩
abbrev cX8_bitsOf : ByteArray := prog_10_method_6_code
def yX8_bitsOf : MethodName := ⟨RX8, "bitsOf", "(I)I"⟩
abbrev cX8_isOne : ByteArray := prog_10_method_7_code
def yX8_isOne : MethodName := ⟨RX8, "isOne", "(I)Z"⟩
abbrev cX8_isThing : ByteArray := prog_10_method_8_code
def yX8_isThing : MethodName := ⟨RX8, "isThing", "(I)Z"⟩
abbrev cX8_like : ByteArray := prog_10_method_9_code
def yX8_like : MethodName := ⟨RX8, "like", "(III)I"⟩
abbrev cX8_mostOf : ByteArray := prog_10_method_10_code
def yX8_mostOf : MethodName := ⟨RX8, "mostOf", "(I)I"⟩
abbrev cX8_set : ByteArray := prog_10_method_11_code
def yX8_set : MethodName := ⟨RX8, "set", "(III)I"⟩
abbrev cX8_lays : ByteArray := prog_10_method_12_code
def yX8_lays : MethodName := ⟨RX8, "lays", "(III)V"⟩
abbrev cX8_asker : ByteArray := prog_10_method_13_code
def yX8_asker : MethodName := ⟨RX8, "asker", "(II)I"⟩
abbrev cX8_told : ByteArray := prog_10_method_14_code
def yX8_told : MethodName := ⟨RX8, "told", "(II)I"⟩
abbrev cX8_feed : ByteArray := prog_10_method_15_code
def yX8_feed : MethodName := ⟨RX8, "feed", "(I)I"⟩
abbrev cX8_byteAt : ByteArray := prog_10_method_16_code
def yX8_byteAt : MethodName := ⟨RX8, "byteAt", "(I)I"⟩
abbrev cX8_next : ByteArray := prog_10_method_17_code
def yX8_next : MethodName := ⟨RX8, "next", "()V"⟩
abbrev cX8_fail : ByteArray := prog_10_method_18_code
def yX8_fail : MethodName := ⟨RX8, "fail", "()V"⟩
abbrev cX8_isLetter : ByteArray := prog_10_method_19_code
def yX8_isLetter : MethodName := ⟨RX8, "isLetter", "(II)Z"⟩
abbrev cX8_isWord : ByteArray := prog_10_method_20_code
def yX8_isWord : MethodName := ⟨RX8, "isWord", "(IIIIIIII)Z"⟩
abbrev cX8_isSign : ByteArray := prog_10_method_21_code
def yX8_isSign : MethodName := ⟨RX8, "isSign", "(I)Z"⟩
abbrev cX8_opens : ByteArray := prog_10_method_22_code
def yX8_opens : MethodName := ⟨RX8, "opens", "()Z"⟩
abbrev cX8_name : ByteArray := prog_10_method_23_code
def yX8_name : MethodName := ⟨RX8, "name", "()I"⟩
abbrev cX8_atom5 : ByteArray := prog_10_method_24_code
def yX8_atom5 : MethodName := ⟨RX8, "atom5", "()I"⟩
abbrev cX8_term5 : ByteArray := prog_10_method_25_code
def yX8_term5 : MethodName := ⟨RX8, "term5", "()I"⟩
abbrev cX8_added5 : ByteArray := prog_10_method_26_code
def yX8_added5 : MethodName := ⟨RX8, "added5", "()I"⟩
abbrev cX8_not5 : ByteArray := prog_10_method_27_code
def yX8_not5 : MethodName := ⟨RX8, "not5", "()I"⟩
abbrev cX8_both5 : ByteArray := prog_10_method_28_code
def yX8_both5 : MethodName := ⟨RX8, "both5", "()I"⟩
abbrev cX8_either5 : ByteArray := prog_10_method_29_code
def yX8_either5 : MethodName := ⟨RX8, "either5", "()I"⟩
abbrev cX8_atom4 : ByteArray := prog_10_method_30_code
def yX8_atom4 : MethodName := ⟨RX8, "atom4", "()I"⟩
abbrev cX8_term4 : ByteArray := prog_10_method_31_code
def yX8_term4 : MethodName := ⟨RX8, "term4", "()I"⟩
abbrev cX8_added4 : ByteArray := prog_10_method_32_code
def yX8_added4 : MethodName := ⟨RX8, "added4", "()I"⟩
abbrev cX8_not4 : ByteArray := prog_10_method_33_code
def yX8_not4 : MethodName := ⟨RX8, "not4", "()I"⟩
abbrev cX8_both4 : ByteArray := prog_10_method_34_code
def yX8_both4 : MethodName := ⟨RX8, "both4", "()I"⟩
abbrev cX8_either4 : ByteArray := prog_10_method_35_code
def yX8_either4 : MethodName := ⟨RX8, "either4", "()I"⟩
abbrev cX8_atom3 : ByteArray := prog_10_method_36_code
def yX8_atom3 : MethodName := ⟨RX8, "atom3", "()I"⟩
abbrev cX8_term3 : ByteArray := prog_10_method_37_code
def yX8_term3 : MethodName := ⟨RX8, "term3", "()I"⟩
abbrev cX8_added3 : ByteArray := prog_10_method_38_code
def yX8_added3 : MethodName := ⟨RX8, "added3", "()I"⟩
abbrev cX8_not3 : ByteArray := prog_10_method_39_code
def yX8_not3 : MethodName := ⟨RX8, "not3", "()I"⟩
abbrev cX8_both3 : ByteArray := prog_10_method_40_code
def yX8_both3 : MethodName := ⟨RX8, "both3", "()I"⟩
abbrev cX8_either3 : ByteArray := prog_10_method_41_code
def yX8_either3 : MethodName := ⟨RX8, "either3", "()I"⟩
abbrev cX8_atom2 : ByteArray := prog_10_method_42_code
def yX8_atom2 : MethodName := ⟨RX8, "atom2", "()I"⟩
abbrev cX8_term2 : ByteArray := prog_10_method_43_code
def yX8_term2 : MethodName := ⟨RX8, "term2", "()I"⟩
abbrev cX8_added2 : ByteArray := prog_10_method_44_code
def yX8_added2 : MethodName := ⟨RX8, "added2", "()I"⟩
abbrev cX8_not2 : ByteArray := prog_10_method_45_code
def yX8_not2 : MethodName := ⟨RX8, "not2", "()I"⟩
abbrev cX8_both2 : ByteArray := prog_10_method_46_code
def yX8_both2 : MethodName := ⟨RX8, "both2", "()I"⟩
abbrev cX8_either2 : ByteArray := prog_10_method_47_code
def yX8_either2 : MethodName := ⟨RX8, "either2", "()I"⟩
abbrev cX8_atom1 : ByteArray := prog_10_method_48_code
def yX8_atom1 : MethodName := ⟨RX8, "atom1", "()I"⟩
abbrev cX8_term1 : ByteArray := prog_10_method_49_code
def yX8_term1 : MethodName := ⟨RX8, "term1", "()I"⟩
abbrev cX8_added1 : ByteArray := prog_10_method_50_code
def yX8_added1 : MethodName := ⟨RX8, "added1", "()I"⟩
abbrev cX8_not1 : ByteArray := prog_10_method_51_code
def yX8_not1 : MethodName := ⟨RX8, "not1", "()I"⟩
abbrev cX8_both1 : ByteArray := prog_10_method_52_code
def yX8_both1 : MethodName := ⟨RX8, "both1", "()I"⟩
abbrev cX8_either1 : ByteArray := prog_10_method_53_code
def yX8_either1 : MethodName := ⟨RX8, "either1", "()I"⟩
abbrev cX8_atom0 : ByteArray := prog_10_method_54_code
def yX8_atom0 : MethodName := ⟨RX8, "atom0", "()I"⟩
abbrev cX8_term0 : ByteArray := prog_10_method_55_code
def yX8_term0 : MethodName := ⟨RX8, "term0", "()I"⟩
abbrev cX8_added0 : ByteArray := prog_10_method_56_code
def yX8_added0 : MethodName := ⟨RX8, "added0", "()I"⟩
abbrev cX8_not0 : ByteArray := prog_10_method_57_code
def yX8_not0 : MethodName := ⟨RX8, "not0", "()I"⟩
abbrev cX8_both0 : ByteArray := prog_10_method_58_code
def yX8_both0 : MethodName := ⟨RX8, "both0", "()I"⟩
abbrev cX8_either0 : ByteArray := prog_10_method_59_code
def yX8_either0 : MethodName := ⟨RX8, "either0", "()I"⟩
abbrev cX8_part : ByteArray := prog_10_method_60_code
def yX8_part : MethodName := ⟨RX8, "part", "(Z)I"⟩
abbrev cX8_read : ByteArray := prog_10_method_61_code
def yX8_read : MethodName := ⟨RX8, "read", "(II)I"⟩
abbrev cX8_text : ByteArray := prog_10_method_62_code
def yX8_text : MethodName := ⟨RX8, "text", "()I"⟩
abbrev cX8_force : ByteArray := prog_10_method_63_code
def yX8_force : MethodName := ⟨RX8, "force", "(I)I"⟩
abbrev cX8_says : ByteArray := prog_10_method_64_code
def yX8_says : MethodName := ⟨RX8, "says", "(IIIII)I"⟩
abbrev cX8_likeAny : ByteArray := prog_10_method_65_code
def yX8_likeAny : MethodName := ⟨RX8, "likeAny", "(I)I"⟩
abbrev cX8_likeFew : ByteArray := prog_10_method_66_code
def yX8_likeFew : MethodName := ⟨RX8, "likeFew", "(I)I"⟩
abbrev cX8_nextHad : ByteArray := prog_10_method_67_code
def yX8_nextHad : MethodName := ⟨RX8, "nextHad", "(I)I"⟩
abbrev cX8_openTo : ByteArray := prog_10_method_68_code
def yX8_openTo : MethodName := ⟨RX8, "openTo", "(II)I"⟩
abbrev cX8_modulo : ByteArray := prog_10_method_69_code
def yX8_modulo : MethodName := ⟨RX8, "modulo", "(II)I"⟩
abbrev cX8_given : ByteArray := prog_10_method_70_code
def yX8_given : MethodName := ⟨RX8, "given", "(II)I"⟩
abbrev cX8_shutsBy : ByteArray := prog_10_method_71_code
def yX8_shutsBy : MethodName := ⟨RX8, "shutsBy", "(II)I"⟩
abbrev cX8_costsOf : ByteArray := prog_10_method_72_code
def yX8_costsOf : MethodName := ⟨RX8, "costsOf", "(II)I"⟩
abbrev cX8_gladOf : ByteArray := prog_10_method_73_code
def yX8_gladOf : MethodName := ⟨RX8, "gladOf", "(II)I"⟩
abbrev cX8_asks : ByteArray := prog_10_method_74_code
def yX8_asks : MethodName := ⟨RX8, "asks", "(III)I"⟩
abbrev cX8_glad : ByteArray := prog_10_method_75_code
def yX8_glad : MethodName := ⟨RX8, "glad", "(II)I"⟩
abbrev cX8_asked : ByteArray := prog_10_method_76_code
def yX8_asked : MethodName := ⟨RX8, "asked", "(II)I"⟩
abbrev cX8_ask : ByteArray := prog_10_method_77_code
def yX8_ask : MethodName := ⟨RX8, "ask", "(II)I"⟩
abbrev cX8_day : ByteArray := prog_10_method_78_code
def yX8_day : MethodName := ⟨RX8, "day", "()I"⟩
abbrev cX8_laysAside : ByteArray := prog_10_method_79_code
def yX8_laysAside : MethodName := ⟨RX8, "laysAside", "()V"⟩
abbrev cX8_laysBack : ByteArray := prog_10_method_80_code
def yX8_laysBack : MethodName := ⟨RX8, "laysBack", "()V"⟩
abbrev cX8_rowBad : ByteArray := prog_10_method_81_code
def yX8_rowBad : MethodName := ⟨RX8, "rowBad", "(I)I"⟩
abbrev cX8_askAll : ByteArray := prog_10_method_82_code
def yX8_askAll : MethodName := ⟨RX8, "askAll", "(II)V"⟩
abbrev cX8_row : ByteArray := prog_10_method_83_code
def yX8_row : MethodName := ⟨RX8, "row", "(III)I"⟩
abbrev cX8_rows : ByteArray := prog_10_method_84_code
def yX8_rows : MethodName := ⟨RX8, "rows", "(II)I"⟩
abbrev cX8_leave : ByteArray := prog_10_method_85_code
def yX8_leave : MethodName := ⟨RX8, "leave", "(III)I"⟩
abbrev cX8_gladdest : ByteArray := prog_10_method_86_code
def yX8_gladdest : MethodName := ⟨RX8, "gladdest", "(II)I"⟩
abbrev cX8_get : ByteArray := prog_10_method_87_code
def yX8_get : MethodName := ⟨RX8, "get", "(III)I"⟩
abbrev cX8_neverOf : ByteArray := prog_10_method_88_code
def yX8_neverOf : MethodName := ⟨RX8, "neverOf", "(I)I"⟩
abbrev cX8_map : ByteArray := prog_10_method_89_code
def yX8_map : MethodName := ⟨RX8, "map", "(I)I"⟩
abbrev cX8_likeTwos : ByteArray := prog_10_method_90_code
def yX8_likeTwos : MethodName := ⟨RX8, "likeTwos", "()I"⟩
abbrev cX8_cliques : ByteArray := prog_10_method_91_code
def yX8_cliques : MethodName := ⟨RX8, "cliques", "()I"⟩
abbrev cX8_net : ByteArray := prog_10_method_92_code
def yX8_net : MethodName := ⟨RX8, "net", "(I)I"⟩
abbrev cX8_lowest : ByteArray := prog_10_method_93_code
def yX8_lowest : MethodName := ⟨RX8, "lowest", "(JJI)J"⟩
abbrev cX8_share : ByteArray := prog_10_method_94_code
def yX8_share : MethodName := ⟨RX8, "share", "(II)J"⟩
abbrev cX8_firstOther : ByteArray := prog_10_method_95_code
def yX8_firstOther : MethodName := ⟨RX8, "firstOther", "(II)I"⟩
abbrev cX8_likeSet : ByteArray := prog_10_method_96_code
def yX8_likeSet : MethodName := ⟨RX8, "likeSet", "(I)I"⟩
abbrev cX8_turnedSet : ByteArray := prog_10_method_97_code
def yX8_turnedSet : MethodName := ⟨RX8, "turnedSet", "(II)I"⟩
abbrev cX8_tells : ByteArray := prog_10_method_98_code
def yX8_tells : MethodName := ⟨RX8, "tells", "(III)I"⟩
abbrev cX8_film : ByteArray := prog_10_method_99_code
def yX8_film : MethodName := ⟨RX8, "film", "(II)I"⟩
abbrev cX8_hadDrawn : ByteArray := prog_10_method_100_code
def yX8_hadDrawn : MethodName := ⟨RX8, "hadDrawn", "(III)I"⟩
abbrev cX8_drawn : ByteArray := prog_10_method_101_code
def yX8_drawn : MethodName := ⟨RX8, "drawn", "(III)I"⟩
abbrev cX8_chance : ByteArray := prog_10_method_102_code
def yX8_chance : MethodName := ⟨RX8, "chance", "(IIIII)J"⟩
abbrev cX8_image : ByteArray := prog_10_method_103_code
def yX8_image : MethodName := ⟨RX8, "image", "()I"⟩
abbrev cX8_back : ByteArray := prog_10_method_104_code
def yX8_back : MethodName := ⟨RX8, "back", "()I"⟩
abbrev cX8_count : ByteArray := prog_10_method_105_code
def yX8_count : MethodName := ⟨RX8, "count", "(I)I"⟩
abbrev cX8_isSheet : ByteArray := prog_10_method_106_code
def yX8_isSheet : MethodName := ⟨RX8, "isSheet", "(I)Z"⟩
abbrev cX8_sheet : ByteArray := prog_10_method_107_code
def yX8_sheet : MethodName := ⟨RX8, "sheet", "(III)I"⟩
abbrev cX8_cell : ByteArray := prog_10_method_108_code
def yX8_cell : MethodName := ⟨RX8, "cell", "(III)I"⟩
abbrev cX8_copy : ByteArray := prog_10_method_109_code
def yX8_copy : MethodName := ⟨RX8, "copy", "(IIIII)I"⟩
abbrev cX8_askers : ByteArray := prog_10_method_110_code
def yX8_askers : MethodName := ⟨RX8, "askers", "(IIII)I"⟩
abbrev cX8_over : ByteArray := prog_10_method_111_code
def yX8_over : MethodName := ⟨RX8, "over", "(I)I"⟩
abbrev cX8_taken : ByteArray := prog_10_method_112_code
def yX8_taken : MethodName := ⟨RX8, "taken", "(II)I"⟩
def RJ6 : String := "java/lang/Integer"
def TJ6 : u_T := fun k => match k with
  | _ => ("", "", "", false)
def tyJ6 : Nat → FieldType := fun k => match k with
  | _ => .int
abbrev wsJ60 : List Cond := u_ws RJ6 TJ6 0
theorem nmJ6 : ∀ a, a < 0 → ∀ b, b < 0 → a ≠ b → (TJ6 a).2.1 ≠ (TJ6 b).2.1 := by decide +kernel
theorem tyJ6_ok : ∀ k, k < 0 → parseFieldDescriptor (TJ6 k).2.2.1 = some (tyJ6 k) := by decide +kernel
abbrev cJ6_bitCount_0f7a4 : ByteArray := prog_11_method_49_code
def yJ6_bitCount_0f7a4 : MethodName := ⟨RJ6, "bitCount", "(I)I"⟩
def RJ9 : String := "java/lang/Math"
def TJ9 : u_T := fun k => match k with
  | _ => ("", "", "", false)
def tyJ9 : Nat → FieldType := fun k => match k with
  | _ => .int
abbrev wsJ90 : List Cond := u_ws RJ9 TJ9 0
theorem nmJ9 : ∀ a, a < 0 → ∀ b, b < 0 → a ≠ b → (TJ9 a).2.1 ≠ (TJ9 b).2.1 := by decide +kernel
theorem tyJ9_ok : ∀ k, k < 0 → parseFieldDescriptor (TJ9 k).2.2.1 = some (tyJ9 k) := by decide +kernel
abbrev cJ9_floorMod_7cf53 : ByteArray := prog_12_method_50_code
def yJ9_floorMod_7cf53 : MethodName := ⟨RJ9, "floorMod", "(II)I"⟩
abbrev cJ9_max_7cf53 : ByteArray := prog_12_method_65_code
def yJ9_max_7cf53 : MethodName := ⟨RJ9, "max", "(II)I"⟩
abbrev cJ9_min_7cf53 : ByteArray := prog_12_method_69_code
def yJ9_min_7cf53 : MethodName := ⟨RJ9, "min", "(II)I"⟩
def RJ0 : String := "java/lang/String"
def TJ0 : u_T := fun k => match k with
  | _ => ("", "", "", false)
def tyJ0 : Nat → FieldType := fun k => match k with
  | _ => .int
abbrev wsJ00 : List Cond := u_ws RJ0 TJ0 0
theorem nmJ0 : ∀ a, a < 0 → ∀ b, b < 0 → a ≠ b → (TJ0 a).2.1 ≠ (TJ0 b).2.1 := by decide +kernel
theorem tyJ0_ok : ∀ k, k < 0 → parseFieldDescriptor (TJ0 k).2.2.1 = some (tyJ0 k) := by decide +kernel
abbrev cJ0_length_8abf5 : ByteArray := prog_13_method_54_code
def yJ0_length_8abf5 : MethodName := ⟨RJ0, "length", "()I"⟩
abbrev cJ0_charAt_5068e : ByteArray := prog_13_method_56_code
def yJ0_charAt_5068e : MethodName := ⟨RJ0, "charAt", "(I)C"⟩
abbrev cJ0_coder_7d493 : ByteArray := prog_13_method_152_code
def yJ0_coder_7d493 : MethodName := ⟨RJ0, "coder", "()B"⟩
abbrev cJ0_isLatin1_aae02 : ByteArray := prog_13_method_154_code
def yJ0_isLatin1_aae02 : MethodName := ⟨RJ0, "isLatin1", "()Z"⟩
abbrev cJ0_checkIndex_df160 : ByteArray := prog_13_method_155_code
def yJ0_checkIndex_df160 : MethodName := ⟨RJ0, "checkIndex", "(II)V"⟩
def RJ1 : String := "java/lang/StringLatin1"
def TJ1 : u_T := fun k => match k with
  | _ => ("", "", "", false)
def tyJ1 : Nat → FieldType := fun k => match k with
  | _ => .int
abbrev wsJ10 : List Cond := u_ws RJ1 TJ1 0
theorem nmJ1 : ∀ a, a < 0 → ∀ b, b < 0 → a ≠ b → (TJ1 a).2.1 ≠ (TJ1 b).2.1 := by decide +kernel
theorem tyJ1_ok : ∀ k, k < 0 → parseFieldDescriptor (TJ1 k).2.2.1 = some (tyJ1 k) := by decide +kernel
abbrev cJ1_charAt_3b067 : ByteArray := prog_14_method_2_code
def yJ1_charAt_3b067 : MethodName := ⟨RJ1, "charAt", "([BI)C"⟩
def RJ2 : String := "java/lang/StringUTF16"
def TJ2 : u_T := fun k => match k with
  | _ => ("", "", "", false)
def tyJ2 : Nat → FieldType := fun k => match k with
  | _ => .int
abbrev wsJ20 : List Cond := u_ws RJ2 TJ2 0
theorem nmJ2 : ∀ a, a < 0 → ∀ b, b < 0 → a ≠ b → (TJ2 a).2.1 ≠ (TJ2 b).2.1 := by decide +kernel
theorem tyJ2_ok : ∀ k, k < 0 → parseFieldDescriptor (TJ2 k).2.2.1 = some (tyJ2 k) := by decide +kernel
abbrev cJ2_getChar_3b067 : ByteArray := prog_15_method_5_code
def yJ2_getChar_3b067 : MethodName := ⟨RJ2, "getChar", "([BI)C"⟩
abbrev cJ2_length_9d52b : ByteArray := prog_15_method_6_code
def yJ2_length_9d52b : MethodName := ⟨RJ2, "length", "([B)I"⟩
abbrev cJ2_charAt_3b067 : ByteArray := prog_15_method_83_code
def yJ2_charAt_3b067 : MethodName := ⟨RJ2, "charAt", "([BI)C"⟩
abbrev cJ2_checkIndex_2214a : ByteArray := prog_15_method_91_code
def yJ2_checkIndex_2214a : MethodName := ⟨RJ2, "checkIndex", "(I[B)V"⟩
def RJ10 : String := "java/lang/System"
def TJ10 : u_T := fun k => match k with
  | _ => ("", "", "", false)
def tyJ10 : Nat → FieldType := fun k => match k with
  | _ => .int
abbrev wsJ100 : List Cond := u_ws RJ10 TJ10 0
theorem nmJ10 : ∀ a, a < 0 → ∀ b, b < 0 → a ≠ b → (TJ10 a).2.1 ≠ (TJ10 b).2.1 := by decide +kernel
theorem tyJ10_ok : ∀ k, k < 0 → parseFieldDescriptor (TJ10 k).2.2.1 = some (tyJ10 k) := by decide +kernel
def RJ3 : String := "jdk/internal/util/Preconditions"
def TJ3 : u_T := fun k => match k with
  | _ => ("", "", "", false)
def tyJ3 : Nat → FieldType := fun k => match k with
  | _ => .int
abbrev wsJ30 : List Cond := u_ws RJ3 TJ3 0
theorem nmJ3 : ∀ a, a < 0 → ∀ b, b < 0 → a ≠ b → (TJ3 a).2.1 ≠ (TJ3 b).2.1 := by decide +kernel
theorem tyJ3_ok : ∀ k, k < 0 → parseFieldDescriptor (TJ3 k).2.2.1 = some (tyJ3 k) := by decide +kernel
abbrev cJ3_checkIndex_8e157 : ByteArray := prog_17_method_11_code
def yJ3_checkIndex_8e157 : MethodName := ⟨RJ3, "checkIndex", "(IILjava/util/function/BiFunction;)I"⟩
def RL : String := "WellGivesOtherLaw"
abbrev cL_law : ByteArray := code
def yL_law : MethodName := ⟨RL, "law", "([I)Z"⟩
def wsL_law_r1 : List Cond := [Cond.classLink RL 7 RX7, Cond.instantiable RX7 14, Cond.initialized RX7, Cond.classLink RL 10 RX8, Cond.instantiable RX8 46, Cond.initialized RX8, Cond.methodLink RL 9 yX7_init, Cond.instanceMethod yX7_init, Cond.code yX7_init cX7_init 2 none, Cond.methodLink RX7 1 objectInit, Cond.instanceMethod objectInit, Cond.code objectInit ⟨#[0xb1]⟩ 1 none, Cond.arrayClass .int, Cond.fieldLink RX7 9 "WellGivesOther" "likes" "[I", Cond.fieldLink RX7 13 "WellGivesOther" "fewSets" "[I", Cond.fieldLink RX7 16 "WellGivesOther" "tape" "[I", Cond.classLink RX7 19 RX0, Cond.fieldLink RX7 21 "WellGivesOther" "seats" "[LWellGivesOther$Asker;", Cond.classLink RX7 25 RX4, Cond.fieldLink RX7 27 "WellGivesOther" "texts" "[LWellGivesOther$Text;", Cond.classLink RX7 31 RX3, Cond.fieldLink RX7 33 "WellGivesOther" "sheets" "[LWellGivesOther$Sheet;", Cond.classLink RX7 37 RX6, Cond.instantiable RX6 15]
def wsL_law_r2 : List Cond := [Cond.initialized RX6, Cond.fieldLink RX7 42 "WellGivesOther" "thought" "LWellGivesOther$Visit;", Cond.classLink RX7 46 RX2, Cond.instantiable RX2 5, Cond.initialized RX2, Cond.fieldLink RX7 49 "WellGivesOther" "reader" "LWellGivesOther$Reader;", Cond.classLink RX7 53 RX1, Cond.instantiable RX1 5, Cond.initialized RX1, Cond.fieldLink RX7 56 "WellGivesOther" "picture" "LWellGivesOther$Picture;", Cond.fieldLink RX7 60 "WellGivesOther" "textCount" "I", Cond.instantiable RX0 5, Cond.initialized RX0, Cond.instantiable RX4 6, Cond.initialized RX4, Cond.instantiable RX3 3, Cond.initialized RX3, Cond.methodLink RX7 39 yX6_init, Cond.instanceMethod yX6_init, Cond.code yX6_init cX6_init 2 none, Cond.methodLink RX6 3 objectInit, Cond.fieldLink RX6 11 "WellGivesOther$Visit" "names" "[I", Cond.fieldLink RX6 17 "WellGivesOther$Visit" "likes" "[I", Cond.methodLink RX7 48 yX2_init]
def wsL_law_r3 : List Cond := [Cond.instanceMethod yX2_init, Cond.code yX2_init cX2_init 2 none, Cond.methodLink RX2 3 objectInit, Cond.classLink RX2 9 RX5, Cond.instantiable RX5 8, Cond.initialized RX5, Cond.fieldLink RX2 14 "WellGivesOther$Reader" "tokens" "LWellGivesOther$Tokens;", Cond.methodLink RX2 11 yX5_init, Cond.instanceMethod yX5_init, Cond.code yX5_init cX5_init 2 none, Cond.methodLink RX5 3 objectInit, Cond.fieldLink RX5 9 "WellGivesOther$Tokens" "sorts" "[I", Cond.fieldLink RX5 15 "WellGivesOther$Tokens" "starts" "[I", Cond.fieldLink RX5 18 "WellGivesOther$Tokens" "values" "[I", Cond.fieldLink RX5 21 "WellGivesOther$Tokens" "bytes" "[I", Cond.methodLink RX7 55 yX1_init, Cond.instanceMethod yX1_init, Cond.code yX1_init cX1_init 2 none, Cond.methodLink RX1 3 objectInit, Cond.fieldLink RX1 9 "WellGivesOther$Picture" "keptLikes" "[I", Cond.classLink RX1 15 RX0, Cond.fieldLink RX1 17 "WellGivesOther$Picture" "keptAskers" "[LWellGivesOther$Asker;", Cond.fieldLink RX1 21 "WellGivesOther$Picture" "askerCount" "I", Cond.instanceMethod yX0_init]
def wsL_law_r4 : List Cond := [Cond.code yX0_init cX0_init 1 none, Cond.methodLink RX0 1 objectInit, Cond.instanceMethod yX4_init, Cond.code yX4_init cX4_init 1 none, Cond.methodLink RX4 3 objectInit, Cond.fieldLink RX4 9 "WellGivesOther$Text" "codes" "[I", Cond.fieldLink RX4 15 "WellGivesOther$Text" "ends" "[I", Cond.fieldLink RX4 18 "WellGivesOther$Text" "stack" "[I", Cond.instanceMethod yX3_init, Cond.code yX3_init cX3_init 1 none, Cond.methodLink RX3 3 objectInit, Cond.fieldLink RX3 9 "WellGivesOther$Sheet" "cells" "[I", Cond.fieldLink RX3 15 "WellGivesOther$Sheet" "sort" "I", Cond.methodLink RX7 67 yX7_textAt, Cond.instanceMethod yX7_textAt, Cond.selects RX7 yX7_textAt yX7_textAt, Cond.code yX7_textAt cX7_textAt 2 (some (.object "WellGivesOther$Text")), Cond.methodLink RX7 71 yX4_becomeFirst, Cond.instanceMethod yX4_becomeFirst, Cond.selects RX4 yX4_becomeFirst yX4_becomeFirst, Cond.code yX4_becomeFirst cX4_becomeFirst 1 none, Cond.methodLink RX4 28 yX4_clear, Cond.instanceMethod yX4_clear, Cond.selects RX4 yX4_clear yX4_clear]
def wsL_law_r5 : List Cond := [Cond.code yX4_clear cX4_clear 1 none, Cond.fieldLink RX4 21 "WellGivesOther$Text" "size" "I", Cond.fieldLink RX4 25 "WellGivesOther$Text" "parts" "I", Cond.methodLink RX4 31 yX4_add, Cond.instanceMethod yX4_add, Cond.selects RX4 yX4_add yX4_add, Cond.code yX4_add cX4_add 2 none, Cond.methodLink RX4 35 yX4_endPart, Cond.instanceMethod yX4_endPart, Cond.selects RX4 yX4_endPart yX4_endPart, Cond.code yX4_endPart cX4_endPart 1 none, Cond.methodLink RX7 74 yX7_fillFewSets, Cond.instanceMethod yX7_fillFewSets, Cond.selects RX7 yX7_fillFewSets yX7_fillFewSets, Cond.code yX7_fillFewSets cX7_fillFewSets 4 none, Cond.methodLink RX7 184 yJ6_bitCount_0f7a4, Cond.static yJ6_bitCount_0f7a4, Cond.initialized RJ6, Cond.code yJ6_bitCount_0f7a4 cJ6_bitCount_0f7a4 1 (some .int), Cond.constant RJ6 265 (1431655765), Cond.constant RJ6 266 (858993459), Cond.constant RJ6 267 (252645135), Cond.methodLink RL 12 yX8_init, Cond.instanceMethod yX8_init]
def wsL_law_r6 : List Cond := [Cond.code yX8_init cX8_init 4 none, Cond.methodLink RX8 7 objectInit, Cond.fieldLink RX8 13 "WellGivesOtherModel" "texts" "[I", Cond.fieldLink RX8 17 "WellGivesOtherModel" "textSize" "[I", Cond.fieldLink RX8 20 "WellGivesOtherModel" "tape" "[I", Cond.fieldLink RX8 23 "WellGivesOtherModel" "likes" "[I", Cond.fieldLink RX8 26 "WellGivesOtherModel" "kinds" "[I", Cond.fieldLink RX8 29 "WellGivesOtherModel" "rows" "[I", Cond.fieldLink RX8 32 "WellGivesOtherModel" "sets" "[I", Cond.fieldLink RX8 35 "WellGivesOtherModel" "was" "[I", Cond.fieldLink RX8 38 "WellGivesOtherModel" "apart" "[I", Cond.fieldLink RX8 41 "WellGivesOtherModel" "likesKept" "[I", Cond.fieldLink RX8 44 "WellGivesOtherModel" "rowsKept" "[I", Cond.fieldLink RX8 47 "WellGivesOtherModel" "manyKept" "I", Cond.arrayClass .boolean, Cond.fieldLink RX8 50 "WellGivesOtherModel" "isThere" "[Z", Cond.fieldLink RX8 54 "WellGivesOtherModel" "sorts" "[I", Cond.fieldLink RX8 57 "WellGivesOtherModel" "sheetSize" "[I", Cond.fieldLink RX8 60 "WellGivesOtherModel" "items" "[I", Cond.fieldLink RX8 71 "WellGivesOtherModel" "textCount" "I", Cond.methodLink RX8 63 yX8_bitsOf, Cond.static yX8_bitsOf, Cond.code yX8_bitsOf cX8_bitsOf 3 (some .int), Cond.methodLink RX8 67 yX8_spell]
def wsL_law_r7 : List Cond := [Cond.instanceMethod yX8_spell, Cond.selects RX8 yX8_spell yX8_spell, Cond.code yX8_spell cX8_spell 10 none, Cond.methodLink RL 13 yX7_like, Cond.instanceMethod yX7_like, Cond.selects RX7 yX7_like yX7_like, Cond.code yX7_like cX7_like 5 (some .int), Cond.methodLink RX7 77 yX7_isThing, Cond.static yX7_isThing, Cond.code yX7_isThing cX7_isThing 1 (some .boolean), Cond.methodLink RL 17 yX8_like, Cond.instanceMethod yX8_like, Cond.selects RX8 yX8_like yX8_like, Cond.code yX8_like cX8_like 5 (some .int), Cond.methodLink RX8 83 yX8_isThing, Cond.static yX8_isThing, Cond.code yX8_isThing cX8_isThing 1 (some .boolean), Cond.constantLong RX8 81 (11), Cond.methodLink RX8 77 yX8_in, Cond.static yX8_in, Cond.code yX8_in cX8_in 6 (some .boolean), Cond.methodLink RL 18 yX7_set, Cond.instanceMethod yX7_set, Cond.selects RX7 yX7_set yX7_set]
def wsL_law_r8 : List Cond := [Cond.code yX7_set cX7_set 6 (some .int), Cond.fieldLink RX7 85 "WellGivesOther" "today" "I", Cond.methodLink RX7 81 yX7_mostOf, Cond.static yX7_mostOf, Cond.code yX7_mostOf cX7_mostOf 1 (some .int), Cond.methodLink RX7 88 yX7_seat, Cond.instanceMethod yX7_seat, Cond.selects RX7 yX7_seat yX7_seat, Cond.code yX7_seat cX7_seat 2 (some (.object "WellGivesOther$Asker")), Cond.fieldLink RX7 99 "WellGivesOther" "askerCount" "I", Cond.methodLink RX7 92 yX0_tell, Cond.instanceMethod yX0_tell, Cond.selects RX0 yX0_tell yX0_tell, Cond.code yX0_tell cX0_tell 2 (some .int), Cond.fieldLink RX0 13 "WellGivesOther$Asker" "number" "I", Cond.fieldLink RX0 16 "WellGivesOther$Asker" "shut" "I", Cond.fieldLink RX0 19 "WellGivesOther$Asker" "had" "I", Cond.fieldLink RX0 22 "WellGivesOther$Asker" "spent" "I", Cond.fieldLink RX0 7 "WellGivesOther$Asker" "kind" "I", Cond.methodLink RX7 95 yX0_change, Cond.instanceMethod yX0_change, Cond.selects RX0 yX0_change yX0_change, Cond.code yX0_change cX0_change 3 none, Cond.methodLink RL 21 yX8_set]
def wsL_law_r9 : List Cond := [Cond.instanceMethod yX8_set, Cond.selects RX8 yX8_set yX8_set, Cond.code yX8_set cX8_set 5 (some .int), Cond.constantLong RX8 87 (4), Cond.methodLink RX8 89 yX8_isOne, Cond.instanceMethod yX8_isOne, Cond.selects RX8 yX8_isOne yX8_isOne, Cond.code yX8_isOne cX8_isOne 2 (some .boolean), Cond.fieldLink RX8 74 "WellGivesOtherModel" "many" "I", Cond.methodLink RX8 92 yX8_mostOf, Cond.static yX8_mostOf, Cond.code yX8_mostOf cX8_mostOf 1 (some .int), Cond.methodLink RX8 95 yX8_told, Cond.instanceMethod yX8_told, Cond.selects RX8 yX8_told yX8_told, Cond.code yX8_told cX8_told 3 (some .int), Cond.constantLong RX8 113 (7), Cond.fieldLink RX8 103 "WellGivesOtherModel" "dayNow" "I", Cond.methodLink RX8 115 yX8_neverOf, Cond.instanceMethod yX8_neverOf, Cond.selects RX8 yX8_neverOf yX8_neverOf, Cond.code yX8_neverOf cX8_neverOf 5 (some .int), Cond.methodLink RX8 354 yX8_given, Cond.instanceMethod yX8_given]
def wsL_law_r10 : List Cond := [Cond.selects RX8 yX8_given yX8_given, Cond.code yX8_given cX8_given 10 (some .int), Cond.methodLink RX8 340 yX8_openTo, Cond.instanceMethod yX8_openTo, Cond.selects RX8 yX8_openTo yX8_openTo, Cond.code yX8_openTo cX8_openTo 5 (some .int), Cond.methodLink RX8 331 yX8_likeFew, Cond.instanceMethod yX8_likeFew, Cond.selects RX8 yX8_likeFew yX8_likeFew, Cond.code yX8_likeFew cX8_likeFew 4 (some .int), Cond.methodLink RX8 334 yX8_likeAny, Cond.instanceMethod yX8_likeAny, Cond.selects RX8 yX8_likeAny yX8_likeAny, Cond.code yX8_likeAny cX8_likeAny 4 (some .int), Cond.methodLink RX8 337 yX8_nextHad, Cond.instanceMethod yX8_nextHad, Cond.selects RX8 yX8_nextHad yX8_nextHad, Cond.code yX8_nextHad cX8_nextHad 2 (some .int), Cond.methodLink RX8 343 yX8_says, Cond.instanceMethod yX8_says, Cond.selects RX8 yX8_says yX8_says, Cond.code yX8_says cX8_says 6 (some .int), Cond.fieldLink RX8 179 "WellGivesOtherModel" "ofThing" "I", Cond.fieldLink RX8 182 "WellGivesOtherModel" "ofWords" "I"]
def wsL_law_r11 : List Cond := [Cond.fieldLink RX8 185 "WellGivesOtherModel" "ofWays" "I", Cond.fieldLink RX8 188 "WellGivesOtherModel" "ofNumber" "I", Cond.fieldLink RX8 191 "WellGivesOtherModel" "ofDay" "I", Cond.fieldLink RX8 194 "WellGivesOtherModel" "ofHad" "I", Cond.fieldLink RX8 106 "WellGivesOtherModel" "rule" "I", Cond.methodLink RX8 324 yX8_read, Cond.instanceMethod yX8_read, Cond.selects RX8 yX8_read yX8_read, Cond.code yX8_read cX8_read 6 (some .int), Cond.fieldLink RX8 126 "WellGivesOtherModel" "from" "I", Cond.fieldLink RX8 123 "WellGivesOtherModel" "size" "I", Cond.fieldLink RX8 129 "WellGivesOtherModel" "here" "I", Cond.fieldLink RX8 166 "WellGivesOtherModel" "open" "I", Cond.fieldLink RX8 155 "WellGivesOtherModel" "bad" "Z", Cond.fieldLink RX8 138 "WellGivesOtherModel" "token" "I", Cond.methodLink RX8 172 yX8_next, Cond.instanceMethod yX8_next, Cond.selects RX8 yX8_next yX8_next, Cond.code yX8_next cX8_next 3 none, Cond.fieldLink RX8 135 "WellGivesOtherModel" "tokenAt" "I", Cond.constantLong RX8 141 (97), Cond.constantLong RX8 143 (122), Cond.constantLong RX8 145 (48), Cond.constantLong RX8 147 (57)]
def wsL_law_r12 : List Cond := [Cond.fieldLink RX8 149 "WellGivesOtherModel" "tokenWorth" "J", Cond.constantLong RX8 153 (10), Cond.methodLink RX8 132 yX8_byteAt, Cond.instanceMethod yX8_byteAt, Cond.selects RX8 yX8_byteAt yX8_byteAt, Cond.code yX8_byteAt cX8_byteAt 2 (some .int), Cond.methodLink RX8 175 yX8_isWord, Cond.instanceMethod yX8_isWord, Cond.selects RX8 yX8_isWord yX8_isWord, Cond.code yX8_isWord cX8_isWord 9 (some .boolean), Cond.methodLink RX8 162 yX8_isLetter, Cond.instanceMethod yX8_isLetter, Cond.selects RX8 yX8_isLetter yX8_isLetter, Cond.code yX8_isLetter cX8_isLetter 3 (some .boolean), Cond.methodLink RX8 320 yX8_part, Cond.instanceMethod yX8_part, Cond.selects RX8 yX8_part yX8_part, Cond.code yX8_part cX8_part 3 (some .int), Cond.methodLink RX8 169 yX8_fail, Cond.instanceMethod yX8_fail, Cond.selects RX8 yX8_fail yX8_fail, Cond.code yX8_fail cX8_fail 1 none, Cond.fieldLink RX8 159 "WellGivesOtherModel" "fault" "I", Cond.methodLink RX8 317 yX8_either0]
def wsL_law_r13 : List Cond := [Cond.instanceMethod yX8_either0, Cond.selects RX8 yX8_either0 yX8_either0, Cond.code yX8_either0 cX8_either0 3 (some .int), Cond.methodLink RX8 314 yX8_both0, Cond.instanceMethod yX8_both0, Cond.selects RX8 yX8_both0 yX8_both0, Cond.code yX8_both0 cX8_both0 3 (some .int), Cond.methodLink RX8 311 yX8_not0, Cond.instanceMethod yX8_not0, Cond.selects RX8 yX8_not0 yX8_not0, Cond.code yX8_not0 cX8_not0 4 (some .int), Cond.constantLong RX8 219 (60), Cond.methodLink RX8 200 yX8_opens, Cond.instanceMethod yX8_opens, Cond.selects RX8 yX8_opens yX8_opens, Cond.code yX8_opens cX8_opens 1 (some .boolean), Cond.methodLink RX8 293 yX8_not1, Cond.instanceMethod yX8_not1, Cond.selects RX8 yX8_not1 yX8_not1, Cond.code yX8_not1 cX8_not1 4 (some .int), Cond.methodLink RX8 275 yX8_not2, Cond.instanceMethod yX8_not2, Cond.selects RX8 yX8_not2 yX8_not2, Cond.code yX8_not2 cX8_not2 4 (some .int)]
def wsL_law_r14 : List Cond := [Cond.methodLink RX8 257 yX8_not3, Cond.instanceMethod yX8_not3, Cond.selects RX8 yX8_not3 yX8_not3, Cond.code yX8_not3 cX8_not3 4 (some .int), Cond.methodLink RX8 239 yX8_not4, Cond.instanceMethod yX8_not4, Cond.selects RX8 yX8_not4 yX8_not4, Cond.code yX8_not4 cX8_not4 4 (some .int), Cond.methodLink RX8 221 yX8_not5, Cond.instanceMethod yX8_not5, Cond.selects RX8 yX8_not5 yX8_not5, Cond.code yX8_not5 cX8_not5 4 (some .int), Cond.methodLink RX8 216 yX8_added5, Cond.instanceMethod yX8_added5, Cond.selects RX8 yX8_added5 yX8_added5, Cond.code yX8_added5 cX8_added5 4 (some .int), Cond.constantLong RX8 214 (43), Cond.methodLink RX8 211 yX8_term5, Cond.instanceMethod yX8_term5, Cond.selects RX8 yX8_term5 yX8_term5, Cond.code yX8_term5 cX8_term5 2 (some .int), Cond.methodLink RX8 208 yX8_atom5, Cond.instanceMethod yX8_atom5, Cond.selects RX8 yX8_atom5 yX8_atom5]
def wsL_law_r15 : List Cond := [Cond.code yX8_atom5 cX8_atom5 2 (some .int), Cond.methodLink RX8 197 yX8_isSign, Cond.instanceMethod yX8_isSign, Cond.selects RX8 yX8_isSign yX8_isSign, Cond.code yX8_isSign cX8_isSign 2 (some .boolean), Cond.methodLink RX8 204 yX8_name, Cond.instanceMethod yX8_name, Cond.selects RX8 yX8_name yX8_name, Cond.code yX8_name cX8_name 1 (some .int), Cond.methodLink RX8 236 yX8_added4, Cond.instanceMethod yX8_added4, Cond.selects RX8 yX8_added4 yX8_added4, Cond.code yX8_added4 cX8_added4 4 (some .int), Cond.methodLink RX8 233 yX8_term4, Cond.instanceMethod yX8_term4, Cond.selects RX8 yX8_term4 yX8_term4, Cond.code yX8_term4 cX8_term4 2 (some .int), Cond.methodLink RX8 230 yX8_atom4, Cond.instanceMethod yX8_atom4, Cond.selects RX8 yX8_atom4 yX8_atom4, Cond.code yX8_atom4 cX8_atom4 2 (some .int), Cond.methodLink RX8 227 yX8_either5, Cond.instanceMethod yX8_either5, Cond.selects RX8 yX8_either5 yX8_either5]
def wsL_law_r16 : List Cond := [Cond.code yX8_either5 cX8_either5 3 (some .int), Cond.methodLink RX8 224 yX8_both5, Cond.instanceMethod yX8_both5, Cond.selects RX8 yX8_both5 yX8_both5, Cond.code yX8_both5 cX8_both5 3 (some .int), Cond.methodLink RX8 254 yX8_added3, Cond.instanceMethod yX8_added3, Cond.selects RX8 yX8_added3 yX8_added3, Cond.code yX8_added3 cX8_added3 4 (some .int), Cond.methodLink RX8 251 yX8_term3, Cond.instanceMethod yX8_term3, Cond.selects RX8 yX8_term3 yX8_term3, Cond.code yX8_term3 cX8_term3 2 (some .int), Cond.methodLink RX8 248 yX8_atom3, Cond.instanceMethod yX8_atom3, Cond.selects RX8 yX8_atom3 yX8_atom3, Cond.code yX8_atom3 cX8_atom3 2 (some .int), Cond.methodLink RX8 245 yX8_either4, Cond.instanceMethod yX8_either4, Cond.selects RX8 yX8_either4 yX8_either4, Cond.code yX8_either4 cX8_either4 3 (some .int), Cond.methodLink RX8 242 yX8_both4, Cond.instanceMethod yX8_both4, Cond.selects RX8 yX8_both4 yX8_both4]
def wsL_law_r17 : List Cond := [Cond.code yX8_both4 cX8_both4 3 (some .int), Cond.methodLink RX8 272 yX8_added2, Cond.instanceMethod yX8_added2, Cond.selects RX8 yX8_added2 yX8_added2, Cond.code yX8_added2 cX8_added2 4 (some .int), Cond.methodLink RX8 269 yX8_term2, Cond.instanceMethod yX8_term2, Cond.selects RX8 yX8_term2 yX8_term2, Cond.code yX8_term2 cX8_term2 2 (some .int), Cond.methodLink RX8 266 yX8_atom2, Cond.instanceMethod yX8_atom2, Cond.selects RX8 yX8_atom2 yX8_atom2, Cond.code yX8_atom2 cX8_atom2 2 (some .int), Cond.methodLink RX8 263 yX8_either3, Cond.instanceMethod yX8_either3, Cond.selects RX8 yX8_either3 yX8_either3, Cond.code yX8_either3 cX8_either3 3 (some .int), Cond.methodLink RX8 260 yX8_both3, Cond.instanceMethod yX8_both3, Cond.selects RX8 yX8_both3 yX8_both3, Cond.code yX8_both3 cX8_both3 3 (some .int), Cond.methodLink RX8 290 yX8_added1, Cond.instanceMethod yX8_added1, Cond.selects RX8 yX8_added1 yX8_added1]
def wsL_law_r18 : List Cond := [Cond.code yX8_added1 cX8_added1 4 (some .int), Cond.methodLink RX8 287 yX8_term1, Cond.instanceMethod yX8_term1, Cond.selects RX8 yX8_term1 yX8_term1, Cond.code yX8_term1 cX8_term1 2 (some .int), Cond.methodLink RX8 284 yX8_atom1, Cond.instanceMethod yX8_atom1, Cond.selects RX8 yX8_atom1 yX8_atom1, Cond.code yX8_atom1 cX8_atom1 2 (some .int), Cond.methodLink RX8 281 yX8_either2, Cond.instanceMethod yX8_either2, Cond.selects RX8 yX8_either2 yX8_either2, Cond.code yX8_either2 cX8_either2 3 (some .int), Cond.methodLink RX8 278 yX8_both2, Cond.instanceMethod yX8_both2, Cond.selects RX8 yX8_both2 yX8_both2, Cond.code yX8_both2 cX8_both2 3 (some .int), Cond.methodLink RX8 308 yX8_added0, Cond.instanceMethod yX8_added0, Cond.selects RX8 yX8_added0 yX8_added0, Cond.code yX8_added0 cX8_added0 4 (some .int), Cond.methodLink RX8 305 yX8_term0, Cond.instanceMethod yX8_term0, Cond.selects RX8 yX8_term0 yX8_term0]
def wsL_law_r19 : List Cond := [Cond.code yX8_term0 cX8_term0 2 (some .int), Cond.methodLink RX8 302 yX8_atom0, Cond.instanceMethod yX8_atom0, Cond.selects RX8 yX8_atom0 yX8_atom0, Cond.code yX8_atom0 cX8_atom0 2 (some .int), Cond.methodLink RX8 299 yX8_either1, Cond.instanceMethod yX8_either1, Cond.selects RX8 yX8_either1 yX8_either1, Cond.code yX8_either1 cX8_either1 3 (some .int), Cond.methodLink RX8 296 yX8_both1, Cond.instanceMethod yX8_both1, Cond.selects RX8 yX8_both1 yX8_both1, Cond.code yX8_both1 cX8_both1 3 (some .int), Cond.methodLink RX8 327 yX8_within, Cond.static yX8_within, Cond.code yX8_within cX8_within 3 (some .int), Cond.methodLink RX8 347 yX8_modulo, Cond.static yX8_modulo, Cond.code yX8_modulo cX8_modulo 2 (some .int), Cond.methodLink RX8 99 yX8_lays, Cond.instanceMethod yX8_lays, Cond.selects RX8 yX8_lays yX8_lays, Cond.code yX8_lays cX8_lays 4 none, Cond.methodLink RL 22 yX7_asker]
def wsL_law_r20 : List Cond := [Cond.instanceMethod yX7_asker, Cond.selects RX7 yX7_asker yX7_asker, Cond.code yX7_asker cX7_asker 4 (some .int), Cond.methodLink RX7 102 yX0_come, Cond.instanceMethod yX0_come, Cond.selects RX0 yX0_come yX0_come, Cond.code yX0_come cX0_come 3 none, Cond.methodLink RL 26 yX8_asker, Cond.instanceMethod yX8_asker, Cond.selects RX8 yX8_asker yX8_asker, Cond.code yX8_asker cX8_asker 3 (some .int), Cond.constantLong RX8 109 (5), Cond.constantLong RX8 111 (9), Cond.methodLink RL 27 yX7_told, Cond.instanceMethod yX7_told, Cond.selects RX7 yX7_told yX7_told, Cond.code yX7_told cX7_told 4 (some .int), Cond.methodLink RX7 105 yX7_neverGiven, Cond.instanceMethod yX7_neverGiven, Cond.selects RX7 yX7_neverGiven yX7_neverGiven, Cond.code yX7_neverGiven cX7_neverGiven 6 (some .int), Cond.methodLink RX7 108 yX7_visitOf, Cond.instanceMethod yX7_visitOf, Cond.selects RX7 yX7_visitOf yX7_visitOf]
def wsL_law_r21 : List Cond := [Cond.code yX7_visitOf cX7_visitOf 6 (some (.object "WellGivesOther$Visit")), Cond.fieldLink RX7 223 "WellGivesOther$Asker" "had" "I", Cond.fieldLink RX7 137 "WellGivesOther" "rule" "I", Cond.methodLink RX7 309 yX6_begin, Cond.instanceMethod yX6_begin, Cond.selects RX6 yX6_begin yX6_begin, Cond.code yX6_begin cX6_begin 5 none, Cond.fieldLink RX6 20 "WellGivesOther$Asker" "kind" "I", Cond.fieldLink RX6 26 "WellGivesOther$Visit" "kind" "I", Cond.fieldLink RX6 27 "WellGivesOther$Asker" "number" "I", Cond.fieldLink RX6 30 "WellGivesOther$Visit" "number" "I", Cond.fieldLink RX6 31 "WellGivesOther$Asker" "shut" "I", Cond.fieldLink RX6 34 "WellGivesOther$Visit" "shut" "I", Cond.fieldLink RX6 35 "WellGivesOther$Asker" "had" "I", Cond.fieldLink RX6 38 "WellGivesOther$Visit" "had" "I", Cond.fieldLink RX6 39 "WellGivesOther$Asker" "spent" "I", Cond.fieldLink RX6 42 "WellGivesOther$Visit" "spent" "I", Cond.fieldLink RX6 43 "WellGivesOther$Visit" "nextHad" "I", Cond.fieldLink RX6 46 "WellGivesOther$Visit" "day" "I", Cond.fieldLink RX6 49 "WellGivesOther$Visit" "rule" "LWellGivesOther$Text;", Cond.fieldLink RX6 53 "WellGivesOther$Visit" "last" "I", Cond.fieldLink RX6 56 "WellGivesOther$Visit" "gifts" "I", Cond.fieldLink RX6 59 "WellGivesOther$Visit" "misses" "I", Cond.fieldLink RX6 62 "WellGivesOther$Visit" "joy" "I"]
def wsL_law_r22 : List Cond := [Cond.fieldLink RX6 65 "WellGivesOther$Visit" "paid" "I", Cond.methodLink RX7 118 yX6_givenBy, Cond.instanceMethod yX6_givenBy, Cond.selects RX6 yX6_givenBy yX6_givenBy, Cond.code yX6_givenBy cX6_givenBy 4 (some .int), Cond.methodLink RX6 79 yX6_openBy, Cond.instanceMethod yX6_openBy, Cond.selects RX6 yX6_openBy yX6_openBy, Cond.code yX6_openBy cX6_openBy 3 (some .int), Cond.methodLink RX6 68 yX6_likeTwoOf, Cond.instanceMethod yX6_likeTwoOf, Cond.selects RX6 yX6_likeTwoOf yX6_likeTwoOf, Cond.code yX6_likeTwoOf cX6_likeTwoOf 5 (some .int), Cond.methodLink RX6 72 yX6_likeAnyOf, Cond.instanceMethod yX6_likeAnyOf, Cond.selects RX6 yX6_likeAnyOf yX6_likeAnyOf, Cond.code yX6_likeAnyOf cX6_likeAnyOf 4 (some .int), Cond.methodLink RX6 75 yX6_openToGreedy, Cond.instanceMethod yX6_openToGreedy, Cond.selects RX6 yX6_openToGreedy yX6_openToGreedy, Cond.code yX6_openToGreedy cX6_openToGreedy 3 (some .int), Cond.methodLink RX6 82 yJ6_bitCount_0f7a4, Cond.methodLink RX6 87 yX6_tellBy, Cond.instanceMethod yX6_tellBy]
def wsL_law_r23 : List Cond := [Cond.selects RX6 yX6_tellBy yX6_tellBy, Cond.code yX6_tellBy cX6_tellBy 5 (some .int), Cond.methodLink RX6 114 yX6_put, Cond.instanceMethod yX6_put, Cond.selects RX6 yX6_put yX6_put, Cond.code yX6_put cX6_put 4 none, Cond.methodLink RX6 122 yX4_placeOf, Cond.static yX4_placeOf, Cond.code yX4_placeOf cX4_placeOf 1 (some .int), Cond.methodLink RX6 118 yX4_valueOf, Cond.instanceMethod yX4_valueOf, Cond.selects RX4 yX4_valueOf yX4_valueOf, Cond.code yX4_valueOf cX4_valueOf 6 (some .int), Cond.fieldLink RX4 38 "WellGivesOther$Text" "top" "I", Cond.methodLink RX4 41 yX4_placeOf, Cond.methodLink RX4 45 yX4_push, Cond.instanceMethod yX4_push, Cond.selects RX4 yX4_push yX4_push, Cond.code yX4_push cX4_push 2 none, Cond.methodLink RX4 48 yX4_workOnOne, Cond.instanceMethod yX4_workOnOne, Cond.selects RX4 yX4_workOnOne yX4_workOnOne, Cond.code yX4_workOnOne cX4_workOnOne 3 none, Cond.methodLink RX4 51 yX4_workOnTwo]
def wsL_law_r24 : List Cond := [Cond.instanceMethod yX4_workOnTwo, Cond.selects RX4 yX4_workOnTwo yX4_workOnTwo, Cond.code yX4_workOnTwo cX4_workOnTwo 5 none, Cond.methodLink RX6 111 yX6_bounded, Cond.static yX6_bounded, Cond.code yX6_bounded cX6_bounded 1 (some .int), Cond.methodLink RX6 102 Lib.Math.min.name, Cond.static Lib.Math.min.name, Cond.initialized "java/lang/Math", Cond.code Lib.Math.min.name Lib.Math.min.code 2 (some .int), Cond.methodLink RX6 105 Lib.Math.max.name, Cond.static Lib.Math.max.name, Cond.code Lib.Math.max.name Lib.Math.max.code 2 (some .int), Cond.methodLink RX6 91 yX6_pickOf, Cond.instanceMethod yX6_pickOf, Cond.selects RX6 yX6_pickOf yX6_pickOf, Cond.code yX6_pickOf cX6_pickOf 3 (some .int), Cond.methodLink RX6 97 yJ9_floorMod_7cf53, Cond.static yJ9_floorMod_7cf53, Cond.initialized RJ9, Cond.code yJ9_floorMod_7cf53 cJ9_floorMod_7cf53 3 (some .int), Cond.methodLink RX6 94 yX6_bitAt, Cond.static yX6_bitAt, Cond.code yX6_bitAt cX6_bitAt 4 (some .int)]
def wsL_law_r25 : List Cond := [Cond.methodLink RL 30 yX8_told, Cond.methodLink RL 31 yX7_asks, Cond.instanceMethod yX7_asks, Cond.selects RX7 yX7_asks yX7_asks, Cond.code yX7_asks cX7_asks 5 (some .int), Cond.methodLink RX7 112 yX7_isAsked, Cond.static yX7_isAsked, Cond.code yX7_isAsked cX7_isAsked 1 (some .boolean), Cond.methodLink RX7 115 yX6_openBy, Cond.methodLink RX7 121 yX6_shutBy, Cond.instanceMethod yX6_shutBy, Cond.selects RX6 yX6_shutBy yX6_shutBy, Cond.code yX6_shutBy cX6_shutBy 2 (some .int), Cond.methodLink RX7 124 yX6_costOf, Cond.instanceMethod yX6_costOf, Cond.selects RX6 yX6_costOf yX6_costOf, Cond.code yX6_costOf cX6_costOf 2 (some .int), Cond.methodLink RL 34 yX8_asks, Cond.instanceMethod yX8_asks, Cond.selects RX8 yX8_asks yX8_asks, Cond.code yX8_asks cX8_asks 4 (some .int), Cond.constantLong RX8 350 (4095), Cond.constantLong RX8 352 (3), Cond.methodLink RX8 357 yX8_shutsBy]
def wsL_law_r26 : List Cond := [Cond.instanceMethod yX8_shutsBy, Cond.selects RX8 yX8_shutsBy yX8_shutsBy, Cond.code yX8_shutsBy cX8_shutsBy 4 (some .int), Cond.methodLink RX8 360 yX8_costsOf, Cond.instanceMethod yX8_costsOf, Cond.selects RX8 yX8_costsOf yX8_costsOf, Cond.code yX8_costsOf cX8_costsOf 3 (some .int), Cond.methodLink RL 35 yX7_glad, Cond.instanceMethod yX7_glad, Cond.selects RX7 yX7_glad yX7_glad, Cond.code yX7_glad cX7_glad 4 (some .int), Cond.methodLink RX7 127 yX6_gladOf, Cond.instanceMethod yX6_gladOf, Cond.selects RX6 yX6_gladOf yX6_gladOf, Cond.code yX6_gladOf cX6_gladOf 3 (some .int), Cond.methodLink RX6 108 yX6_gladAsTwin, Cond.instanceMethod yX6_gladAsTwin, Cond.selects RX6 yX6_gladAsTwin yX6_gladAsTwin, Cond.code yX6_gladAsTwin cX6_gladAsTwin 3 (some .int), Cond.methodLink RL 38 yX8_glad, Cond.instanceMethod yX8_glad, Cond.selects RX8 yX8_glad yX8_glad, Cond.code yX8_glad cX8_glad 3 (some .int), Cond.methodLink RX8 363 yX8_gladOf]
def wsL_law_r27 : List Cond := [Cond.instanceMethod yX8_gladOf, Cond.selects RX8 yX8_gladOf yX8_gladOf, Cond.code yX8_gladOf cX8_gladOf 5 (some .int), Cond.methodLink RL 39 yX7_feed, Cond.instanceMethod yX7_feed, Cond.selects RX7 yX7_feed yX7_feed, Cond.code yX7_feed cX7_feed 2 (some .int), Cond.fieldLink RX7 130 "WellGivesOther" "tapeSize" "I", Cond.methodLink RL 43 yX8_feed, Cond.instanceMethod yX8_feed, Cond.selects RX8 yX8_feed yX8_feed, Cond.code yX8_feed cX8_feed 2 (some .int), Cond.constantLong RX8 118 (255), Cond.fieldLink RX8 120 "WellGivesOtherModel" "taped" "I", Cond.methodLink RL 44 yX7_text, Cond.instanceMethod yX7_text, Cond.selects RX7 yX7_text yX7_text, Cond.code yX7_text cX7_text 3 (some .int), Cond.methodLink RX7 133 yX2_read, Cond.instanceMethod yX2_read, Cond.selects RX2 yX2_read yX2_read, Cond.code yX2_read cX2_read 3 (some .int), Cond.fieldLink RX2 25 "WellGivesOther$Reader" "text" "LWellGivesOther$Text;", Cond.fieldLink RX2 33 "WellGivesOther$Reader" "at" "I"]
def wsL_law_r28 : List Cond := [Cond.fieldLink RX2 41 "WellGivesOther$Reader" "token" "I", Cond.fieldLink RX2 44 "WellGivesOther$Reader" "fault" "I", Cond.methodLink RX2 20 yX4_clear, Cond.methodLink RX2 29 yX5_scan, Cond.instanceMethod yX5_scan, Cond.selects RX5 yX5_scan yX5_scan, Cond.code yX5_scan cX5_scan 4 none, Cond.fieldLink RX5 24 "WellGivesOther$Tokens" "size" "I", Cond.fieldLink RX5 28 "WellGivesOther$Tokens" "end" "I", Cond.fieldLink RX5 35 "WellGivesOther$Tokens" "start" "I", Cond.fieldLink RX5 38 "WellGivesOther$Tokens" "value" "I", Cond.methodLink RX5 31 yX5_scanOne, Cond.instanceMethod yX5_scanOne, Cond.selects RX5 yX5_scanOne yX5_scanOne, Cond.code yX5_scanOne cX5_scanOne 2 (some .int), Cond.methodLink RX5 41 yX5_byteAt, Cond.instanceMethod yX5_byteAt, Cond.selects RX5 yX5_byteAt yX5_byteAt, Cond.code yX5_byteAt cX5_byteAt 2 (some .int), Cond.methodLink RX5 45 yX5_isBlank, Cond.static yX5_isBlank, Cond.code yX5_isBlank cX5_isBlank 1 (some .boolean), Cond.methodLink RX5 49 yX5_isLetter, Cond.static yX5_isLetter]
def wsL_law_r29 : List Cond := [Cond.code yX5_isLetter cX5_isLetter 1 (some .boolean), Cond.methodLink RX5 52 yX5_scanWord, Cond.instanceMethod yX5_scanWord, Cond.selects RX5 yX5_scanWord yX5_scanWord, Cond.code yX5_scanWord cX5_scanWord 2 (some .int), Cond.methodLink RX5 66 yX5_isWord, Cond.instanceMethod yX5_isWord, Cond.selects RX5 yX5_isWord yX5_isWord, Cond.code yX5_isWord cX5_isWord 3 (some .boolean), Cond.methodLink RX5 94 yJ0_length_8abf5, Cond.instanceMethod yJ0_length_8abf5, Cond.selects RJ0 yJ0_length_8abf5 yJ0_length_8abf5, Cond.initialized RJ0, Cond.code yJ0_length_8abf5 cJ0_length_8abf5 1 (some .int), Cond.fieldLink RJ0 9 "java/lang/String" "value" "[B", Cond.methodLink RJ0 335 yJ0_coder_7d493, Cond.instanceMethod yJ0_coder_7d493, Cond.selects RJ0 yJ0_coder_7d493 yJ0_coder_7d493, Cond.code yJ0_coder_7d493 cJ0_coder_7d493 1 (some .byte), Cond.fieldLink RJ0 38 "java/lang/String" "COMPACT_STRINGS" "Z", Cond.fieldLink RJ0 15 "java/lang/String" "coder" "B", Cond.methodLink RX5 99 yJ0_charAt_5068e, Cond.instanceMethod yJ0_charAt_5068e, Cond.selects RJ0 yJ0_charAt_5068e yJ0_charAt_5068e]
def wsL_law_r30 : List Cond := [Cond.code yJ0_charAt_5068e cJ0_charAt_5068e 2 (some .char), Cond.methodLink RJ0 492 yJ0_isLatin1_aae02, Cond.instanceMethod yJ0_isLatin1_aae02, Cond.selects RJ0 yJ0_isLatin1_aae02 yJ0_isLatin1_aae02, Cond.code yJ0_isLatin1_aae02 cJ0_isLatin1_aae02 1 (some .boolean), Cond.methodLink RJ0 495 yJ1_charAt_3b067, Cond.static yJ1_charAt_3b067, Cond.initialized RJ1, Cond.code yJ1_charAt_3b067 cJ1_charAt_3b067 2 (some .char), Cond.methodLink RJ1 9 yJ0_checkIndex_df160, Cond.static yJ0_checkIndex_df160, Cond.code yJ0_checkIndex_df160 cJ0_checkIndex_df160 2 none, Cond.fieldLink RJ0 1053 "jdk/internal/util/Preconditions" "SIOOBE_FORMATTER" "Ljava/util/function/BiFunction;", Cond.methodLink RJ0 1059 yJ3_checkIndex_8e157, Cond.static yJ3_checkIndex_8e157, Cond.initialized RJ3, Cond.code yJ3_checkIndex_8e157 cJ3_checkIndex_8e157 3 (some .int), Cond.methodLink RJ0 498 yJ2_charAt_3b067, Cond.static yJ2_charAt_3b067, Cond.initialized RJ2, Cond.code yJ2_charAt_3b067 cJ2_charAt_3b067 2 (some .char), Cond.methodLink RJ2 67 yJ2_checkIndex_2214a, Cond.static yJ2_checkIndex_2214a, Cond.code yJ2_checkIndex_2214a cJ2_checkIndex_2214a 2 none]
def wsL_law_r31 : List Cond := [Cond.methodLink RJ2 48 yJ2_length_9d52b, Cond.static yJ2_length_9d52b, Cond.code yJ2_length_9d52b cJ2_length_9d52b 1 (some .int), Cond.methodLink RJ2 414 yJ0_checkIndex_df160, Cond.methodLink RJ2 71 yJ2_getChar_3b067, Cond.static yJ2_getChar_3b067, Cond.code yJ2_getChar_3b067 cJ2_getChar_3b067 2 (some .char), Cond.fieldLink RJ2 44 "java/lang/StringUTF16" "$assertionsDisabled" "Z", Cond.fieldLink RJ2 59 "java/lang/StringUTF16" "HI_BYTE_SHIFT" "I", Cond.fieldLink RJ2 63 "java/lang/StringUTF16" "LO_BYTE_SHIFT" "I", Cond.methodLink RX5 55 yX5_isDigit, Cond.static yX5_isDigit, Cond.code yX5_isDigit cX5_isDigit 1 (some .boolean), Cond.methodLink RX5 58 yX5_scanNumber, Cond.instanceMethod yX5_scanNumber, Cond.selects RX5 yX5_scanNumber yX5_scanNumber, Cond.code yX5_scanNumber cX5_scanNumber 2 (some .int), Cond.methodLink RX5 61 yX5_isSign, Cond.static yX5_isSign, Cond.code yX5_isSign cX5_isSign 1 (some .boolean), Cond.methodLink RX2 37 yX5_sortOf, Cond.instanceMethod yX5_sortOf, Cond.selects RX5 yX5_sortOf yX5_sortOf, Cond.code yX5_sortOf cX5_sortOf 2 (some .int)]
def wsL_law_r32 : List Cond := [Cond.methodLink RX2 47 yX2_readPart, Cond.instanceMethod yX2_readPart, Cond.selects RX2 yX2_readPart yX2_readPart, Cond.code yX2_readPart cX2_readPart 2 none, Cond.methodLink RX2 53 yX2_expect, Cond.instanceMethod yX2_expect, Cond.selects RX2 yX2_expect yX2_expect, Cond.code yX2_expect cX2_expect 2 none, Cond.methodLink RX2 65 yX2_advance, Cond.instanceMethod yX2_advance, Cond.selects RX2 yX2_advance yX2_advance, Cond.code yX2_advance cX2_advance 1 none, Cond.methodLink RX2 50 yX2_fail, Cond.instanceMethod yX2_fail, Cond.selects RX2 yX2_fail yX2_fail, Cond.code yX2_fail cX2_fail 1 none, Cond.methodLink RX2 93 yX5_startOf, Cond.instanceMethod yX5_startOf, Cond.selects RX5 yX5_startOf yX5_startOf, Cond.code yX5_startOf cX5_startOf 2 (some .int), Cond.methodLink RX2 56 yX2_readEither, Cond.instanceMethod yX2_readEither, Cond.selects RX2 yX2_readEither yX2_readEither, Cond.code yX2_readEither cX2_readEither 3 none]
def wsL_law_r33 : List Cond := [Cond.methodLink RX2 62 yX2_readBoth, Cond.instanceMethod yX2_readBoth, Cond.selects RX2 yX2_readBoth yX2_readBoth, Cond.methodLink RX2 68 yX2_add, Cond.instanceMethod yX2_add, Cond.selects RX2 yX2_add yX2_add, Cond.code yX2_add cX2_add 2 none, Cond.methodLink RX2 96 yX4_add, Cond.code yX2_readBoth cX2_readBoth 3 none, Cond.methodLink RX2 71 yX2_readNot, Cond.instanceMethod yX2_readNot, Cond.selects RX2 yX2_readNot yX2_readNot, Cond.code yX2_readNot cX2_readNot 3 none, Cond.methodLink RX2 74 yX2_mayOpen, Cond.instanceMethod yX2_mayOpen, Cond.selects RX2 yX2_mayOpen yX2_mayOpen, Cond.code yX2_mayOpen cX2_mayOpen 2 (some .boolean), Cond.methodLink RX2 78 yX2_readSum, Cond.instanceMethod yX2_readSum, Cond.selects RX2 yX2_readSum yX2_readSum, Cond.code yX2_readOne cX2_readOne 2 none, Cond.methodLink RX2 87 yX4_isName, Cond.static yX4_isName, Cond.code yX4_isName cX4_isName 1 (some .boolean)]
def wsL_law_r34 : List Cond := [Cond.methodLink RX2 90 yX5_valueOf, Cond.instanceMethod yX5_valueOf, Cond.selects RX5 yX5_valueOf yX5_valueOf, Cond.code yX5_valueOf cX5_valueOf 2 (some .int), Cond.methodLink RX2 84 yX2_readOne, Cond.instanceMethod yX2_readOne, Cond.selects RX2 yX2_readOne yX2_readOne, Cond.code yX2_readSum cX2_readSum 4 none, Cond.methodLink RX2 81 yX2_readTerm, Cond.instanceMethod yX2_readTerm, Cond.selects RX2 yX2_readTerm yX2_readTerm, Cond.code yX2_readTerm cX2_readTerm 3 none, Cond.methodLink RX2 59 yX4_endPart, Cond.methodLink RL 48 yX8_text, Cond.instanceMethod yX8_text, Cond.selects RX8 yX8_text yX8_text, Cond.code yX8_text cX8_text 2 (some .int), Cond.methodLink RL 49 yX7_force, Cond.instanceMethod yX7_force, Cond.selects RX7 yX7_force yX7_force, Cond.code yX7_force cX7_force 3 (some .int), Cond.methodLink RL 52 yX8_force, Cond.instanceMethod yX8_force, Cond.selects RX8 yX8_force yX8_force]
def wsL_law_r35 : List Cond := [Cond.code yX8_force cX8_force 3 (some .int), Cond.methodLink RL 53 yX7_ask, Cond.instanceMethod yX7_ask, Cond.selects RX7 yX7_ask yX7_ask, Cond.code yX7_ask cX7_ask 6 (some .int), Cond.methodLink RX7 140 yX6_askFor, Cond.instanceMethod yX6_askFor, Cond.selects RX6 yX6_askFor yX6_askFor, Cond.code yX6_askFor cX6_askFor 5 (some .int), Cond.methodLink RX6 125 yX6_givenBy, Cond.methodLink RX6 128 yX6_shutBy, Cond.methodLink RX6 131 yX6_costOf, Cond.methodLink RX6 134 yX6_gladOf, Cond.methodLink RX7 143 yX6_leaveTo, Cond.instanceMethod yX6_leaveTo, Cond.selects RX6 yX6_leaveTo yX6_leaveTo, Cond.code yX6_leaveTo cX6_leaveTo 2 none, Cond.methodLink RL 56 yX8_ask, Cond.instanceMethod yX8_ask, Cond.selects RX8 yX8_ask yX8_ask, Cond.code yX8_ask cX8_ask 3 (some .int), Cond.methodLink RX8 372 yX8_asked, Cond.instanceMethod yX8_asked, Cond.selects RX8 yX8_asked yX8_asked]
def wsL_law_r36 : List Cond := [Cond.code yX8_asked cX8_asked 5 (some .int), Cond.fieldLink RX8 366 "WellGivesOtherModel" "gladNow" "I", Cond.fieldLink RX8 369 "WellGivesOtherModel" "costNow" "I", Cond.methodLink RL 57 yX7_day, Cond.instanceMethod yX7_day, Cond.selects RX7 yX7_day yX7_day, Cond.code yX7_day cX7_day 1 (some .int), Cond.methodLink RL 60 yX8_day, Cond.instanceMethod yX8_day, Cond.selects RX8 yX8_day yX8_day, Cond.code yX8_day cX8_day 1 (some .int), Cond.methodLink RL 61 yX7_row, Cond.instanceMethod yX7_row, Cond.selects RX7 yX7_row yX7_row, Cond.code yX7_row cX7_row 7 (some .int), Cond.fieldLink RX7 159 "WellGivesOther$Visit" "last" "I", Cond.fieldLink RX7 162 "WellGivesOther$Visit" "misses" "I", Cond.fieldLink RX7 165 "WellGivesOther$Visit" "joy" "I", Cond.fieldLink RX7 168 "WellGivesOther$Visit" "paid" "I", Cond.fieldLink RX7 171 "WellGivesOther$Visit" "shut" "I", Cond.fieldLink RX7 174 "WellGivesOther$Visit" "had" "I", Cond.methodLink RX7 147 yX7_sheetAt, Cond.instanceMethod yX7_sheetAt, Cond.selects RX7 yX7_sheetAt yX7_sheetAt]
def wsL_law_r37 : List Cond := [Cond.code yX7_sheetAt cX7_sheetAt 2 (some (.object "WellGivesOther$Sheet")), Cond.methodLink RX7 151 yX7_rowRefusal, Cond.static yX7_rowRefusal, Cond.code yX7_rowRefusal cX7_rowRefusal 2 (some .int), Cond.fieldLink RX7 228 "WellGivesOther$Sheet" "size" "I", Cond.methodLink RX7 196 yX3_isMissing, Cond.instanceMethod yX3_isMissing, Cond.selects RX3 yX3_isMissing yX3_isMissing, Cond.code yX3_isMissing cX3_isMissing 1 (some .boolean), Cond.methodLink RX7 293 yX3_at, Cond.instanceMethod yX3_at, Cond.selects RX3 yX3_at yX3_at, Cond.code yX3_at cX3_at 2 (some .int), Cond.fieldLink RX3 28 "WellGivesOther$Sheet" "size" "I", Cond.methodLink RX7 155 yX7_askInRow, Cond.static yX7_askInRow, Cond.code yX7_askInRow cX7_askInRow 3 none, Cond.methodLink RL 64 yX8_row, Cond.instanceMethod yX8_row, Cond.selects RX8 yX8_row yX8_row, Cond.code yX8_row cX8_row 6 (some .int), Cond.fieldLink RX8 378 "WellGivesOtherModel" "lastThing" "I", Cond.fieldLink RX8 381 "WellGivesOtherModel" "nothings" "I", Cond.fieldLink RX8 384 "WellGivesOtherModel" "glads" "I"]
def wsL_law_r38 : List Cond := [Cond.fieldLink RX8 387 "WellGivesOtherModel" "costs" "I", Cond.methodLink RX8 390 yX8_isSheet, Cond.static yX8_isSheet, Cond.code yX8_isSheet cX8_isSheet 1 (some .boolean), Cond.methodLink RX8 393 yX8_rowBad, Cond.instanceMethod yX8_rowBad, Cond.selects RX8 yX8_rowBad yX8_rowBad, Cond.code yX8_rowBad cX8_rowBad 3 (some .int), Cond.methodLink RX8 396 yX8_laysAside, Cond.instanceMethod yX8_laysAside, Cond.selects RX8 yX8_laysAside yX8_laysAside, Cond.code yX8_laysAside cX8_laysAside 2 none, Cond.fieldLink RX8 375 "WellGivesOtherModel" "dayWas" "I", Cond.methodLink RX8 399 yX8_askAll, Cond.instanceMethod yX8_askAll, Cond.selects RX8 yX8_askAll yX8_askAll, Cond.code yX8_askAll cX8_askAll 4 none, Cond.methodLink RX8 403 yX8_laysBack, Cond.instanceMethod yX8_laysBack, Cond.selects RX8 yX8_laysBack yX8_laysBack, Cond.code yX8_laysBack cX8_laysBack 2 none, Cond.methodLink RL 65 yX7_rows, Cond.instanceMethod yX7_rows, Cond.selects RX7 yX7_rows yX7_rows]
def wsL_law_r39 : List Cond := [Cond.code yX7_rows cX7_rows 7 (some .int), Cond.fieldLink RX7 177 "WellGivesOther$Visit" "gifts" "I", Cond.methodLink RL 68 yX8_rows, Cond.instanceMethod yX8_rows, Cond.selects RX8 yX8_rows yX8_rows, Cond.code yX8_rows cX8_rows 4 (some .int), Cond.methodLink RL 69 yX7_leave, Cond.instanceMethod yX7_leave, Cond.selects RX7 yX7_leave yX7_leave, Cond.code yX7_leave cX7_leave 6 (some .int), Cond.methodLink RX7 180 yX7_fewestLeaving, Cond.static yX7_fewestLeaving, Cond.code yX7_fewestLeaving cX7_fewestLeaving 7 (some .int), Cond.methodLink RL 72 yX8_leave, Cond.instanceMethod yX8_leave, Cond.selects RX8 yX8_leave yX8_leave, Cond.code yX8_leave cX8_leave 7 (some .int), Cond.methodLink RL 73 yX7_gladdest, Cond.instanceMethod yX7_gladdest, Cond.selects RX7 yX7_gladdest yX7_gladdest, Cond.code yX7_gladdest cX7_gladdest 5 (some .int), Cond.methodLink RX7 189 yX7_gladdestSet, Cond.instanceMethod yX7_gladdestSet, Cond.selects RX7 yX7_gladdestSet yX7_gladdestSet]
def wsL_law_r40 : List Cond := [Cond.code yX7_gladdestSet cX7_gladdestSet 7 (some .int), Cond.methodLink RL 76 yX8_gladdest, Cond.instanceMethod yX8_gladdest, Cond.selects RX8 yX8_gladdest yX8_gladdest, Cond.code yX8_gladdest cX8_gladdest 8 (some .int), Cond.methodLink RL 77 yX7_get, Cond.instanceMethod yX7_get, Cond.selects RX7 yX7_get yX7_get, Cond.code yX7_get cX7_get 6 (some .int), Cond.methodLink RX7 193 yX7_cheapestSet, Cond.instanceMethod yX7_cheapestSet, Cond.selects RX7 yX7_cheapestSet yX7_cheapestSet, Cond.code yX7_cheapestSet cX7_cheapestSet 7 (some .int), Cond.methodLink RL 80 yX8_get, Cond.instanceMethod yX8_get, Cond.selects RX8 yX8_get yX8_get, Cond.code yX8_get cX8_get 7 (some .int), Cond.methodLink RL 81 yX7_map, Cond.instanceMethod yX7_map, Cond.selects RX7 yX7_map yX7_map, Cond.code yX7_map cX7_map 6 (some .int), Cond.methodLink RX7 200 yX7_tellsSetsAndThings, Cond.static yX7_tellsSetsAndThings, Cond.code yX7_tellsSetsAndThings cX7_tellsSetsAndThings 3 (some .boolean)]
def wsL_law_r41 : List Cond := [Cond.methodLink RX7 204 yX7_isRuledOut, Cond.static yX7_isRuledOut, Cond.code yX7_isRuledOut cX7_isRuledOut 6 (some .boolean), Cond.methodLink RL 84 yX8_map, Cond.instanceMethod yX8_map, Cond.selects RX8 yX8_map yX8_map, Cond.code yX8_map cX8_map 6 (some .int), Cond.methodLink RL 85 yX7_net, Cond.instanceMethod yX7_net, Cond.selects RX7 yX7_net yX7_net, Cond.code yX7_net cX7_net 2 (some .int), Cond.methodLink RX7 208 yX7_cliques, Cond.instanceMethod yX7_cliques, Cond.selects RX7 yX7_cliques yX7_cliques, Cond.code yX7_cliques cX7_cliques 5 (some .int), Cond.methodLink RX7 215 yX7_likesOf, Cond.instanceMethod yX7_likesOf, Cond.selects RX7 yX7_likesOf yX7_likesOf, Cond.code yX7_likesOf cX7_likesOf 2 (some .int), Cond.methodLink RX7 212 yX7_nearest, Cond.instanceMethod yX7_nearest, Cond.selects RX7 yX7_nearest yX7_nearest, Cond.code yX7_nearest cX7_nearest 3 (some .int), Cond.methodLink RX7 218 yX7_likeTwos]
def wsL_law_r42 : List Cond := [Cond.instanceMethod yX7_likeTwos, Cond.selects RX7 yX7_likeTwos yX7_likeTwos, Cond.code yX7_likeTwos cX7_likeTwos 3 (some .int), Cond.methodLink RL 88 yX8_net, Cond.instanceMethod yX8_net, Cond.selects RX8 yX8_net yX8_net, Cond.code yX8_net cX8_net 4 (some .int), Cond.methodLink RX8 406 yX8_cliques, Cond.instanceMethod yX8_cliques, Cond.selects RX8 yX8_cliques yX8_cliques, Cond.code yX8_cliques cX8_cliques 5 (some .int), Cond.methodLink RX8 409 yX8_likeTwos, Cond.instanceMethod yX8_likeTwos, Cond.selects RX8 yX8_likeTwos yX8_likeTwos, Cond.code yX8_likeTwos cX8_likeTwos 3 (some .int), Cond.methodLink RL 89 yX7_share, Cond.instanceMethod yX7_share, Cond.selects RX7 yX7_share yX7_share, Cond.code yX7_share cX7_share 4 (some .long), Cond.constantLong RX7 221 (-4611686018427387904), Cond.methodLink RX7 224 yX7_lowest, Cond.static yX7_lowest, Cond.code yX7_lowest cX7_lowest 7 (some .long), Cond.methodLink RL 93 yX8_share]
def wsL_law_r43 : List Cond := [Cond.instanceMethod yX8_share, Cond.selects RX8 yX8_share yX8_share, Cond.code yX8_share cX8_share 3 (some .long), Cond.constantLong RX8 412 (12), Cond.constantLong RX8 418 (-4611686018427387904), Cond.methodLink RX8 414 yX8_lowest, Cond.static yX8_lowest, Cond.code yX8_lowest cX8_lowest 11 (some .long), Cond.methodLink RL 94 yX7_tells, Cond.instanceMethod yX7_tells, Cond.selects RX7 yX7_tells yX7_tells, Cond.code yX7_tells cX7_tells 6 (some .int), Cond.methodLink RX7 231 yX7_firstOther, Cond.static yX7_firstOther, Cond.code yX7_firstOther cX7_firstOther 3 (some .int), Cond.methodLink RX7 235 yX7_fittingKinds, Cond.static yX7_fittingKinds, Cond.code yX7_fittingKinds cX7_fittingKinds 4 (some .int), Cond.fieldLink RX7 313 "WellGivesOther$Visit" "kind" "I", Cond.methodLink RX7 238 yX7_fittingNumbers, Cond.static yX7_fittingNumbers, Cond.code yX7_fittingNumbers cX7_fittingNumbers 4 (some .int), Cond.fieldLink RX7 314 "WellGivesOther$Visit" "number" "I", Cond.methodLink RX7 241 yX7_fittingDays]
def wsL_law_r44 : List Cond := [Cond.static yX7_fittingDays, Cond.code yX7_fittingDays cX7_fittingDays 4 (some .int), Cond.fieldLink RX7 315 "WellGivesOther$Visit" "day" "I", Cond.methodLink RX7 244 yX7_firstFittingDay, Cond.static yX7_firstFittingDay, Cond.code yX7_firstFittingDay cX7_firstFittingDay 3 (some .int), Cond.methodLink RX7 247 yX7_fittingThings, Cond.static yX7_fittingThings, Cond.code yX7_fittingThings cX7_fittingThings 5 (some .int), Cond.methodLink RX7 250 yX7_fittingTexts, Cond.instanceMethod yX7_fittingTexts, Cond.selects RX7 yX7_fittingTexts yX7_fittingTexts, Cond.code yX7_fittingTexts cX7_fittingTexts 5 (some .int), Cond.fieldLink RX7 318 "WellGivesOther$Visit" "rule" "LWellGivesOther$Text;", Cond.methodLink RX7 253 yX7_fittingAskers, Cond.instanceMethod yX7_fittingAskers, Cond.selects RX7 yX7_fittingAskers yX7_fittingAskers, Cond.code yX7_fittingAskers cX7_fittingAskers 5 (some .int), Cond.methodLink RL 97 yX8_tells, Cond.instanceMethod yX8_tells, Cond.selects RX8 yX8_tells yX8_tells, Cond.code yX8_tells cX8_tells 11 (some .int), Cond.methodLink RX8 420 yX8_firstOther, Cond.instanceMethod yX8_firstOther]
def wsL_law_r45 : List Cond := [Cond.selects RX8 yX8_firstOther yX8_firstOther, Cond.code yX8_firstOther cX8_firstOther 4 (some .int), Cond.methodLink RX8 423 yX8_likeSet, Cond.instanceMethod yX8_likeSet, Cond.selects RX8 yX8_likeSet yX8_likeSet, Cond.code yX8_likeSet cX8_likeSet 4 (some .int), Cond.methodLink RX8 426 yX8_turnedSet, Cond.instanceMethod yX8_turnedSet, Cond.selects RX8 yX8_turnedSet yX8_turnedSet, Cond.code yX8_turnedSet cX8_turnedSet 5 (some .int), Cond.methodLink RL 98 yX7_film, Cond.instanceMethod yX7_film, Cond.selects RX7 yX7_film yX7_film, Cond.code yX7_film cX7_film 8 (some .int), Cond.methodLink RX7 256 yX3_become, Cond.instanceMethod yX3_become, Cond.selects RX3 yX3_become yX3_become, Cond.code yX3_become cX3_become 4 none, Cond.methodLink RX3 19 Lib.Math.min.name, Cond.methodLink RX3 25 Lib.Math.max.name, Cond.methodLink RX7 259 yX3_put, Cond.instanceMethod yX3_put, Cond.selects RX3 yX3_put yX3_put, Cond.code yX3_put cX3_put 3 none]
def wsL_law_r46 : List Cond := [Cond.methodLink RL 101 yX8_film, Cond.instanceMethod yX8_film, Cond.selects RX8 yX8_film yX8_film, Cond.code yX8_film cX8_film 6 (some .int), Cond.methodLink RX8 429 yX8_sheet, Cond.instanceMethod yX8_sheet, Cond.selects RX8 yX8_sheet yX8_sheet, Cond.code yX8_sheet cX8_sheet 5 (some .int), Cond.constantLong RX8 446 (-1), Cond.constantLong RX8 448 (2), Cond.methodLink RL 102 yX7_drawn, Cond.instanceMethod yX7_drawn, Cond.selects RX7 yX7_drawn yX7_drawn, Cond.code yX7_drawn cX7_drawn 5 (some .int), Cond.methodLink RX7 262 yX7_hadByDrawing, Cond.static yX7_hadByDrawing, Cond.code yX7_hadByDrawing cX7_hadByDrawing 5 (some .int), Cond.constant RX7 321 (1103515245), Cond.methodLink RL 105 yX8_drawn, Cond.instanceMethod yX8_drawn, Cond.selects RX8 yX8_drawn yX8_drawn, Cond.code yX8_drawn cX8_drawn 4 (some .int), Cond.constantLong RX8 433 (40), Cond.methodLink RX8 435 yX8_hadDrawn]
def wsL_law_r47 : List Cond := [Cond.instanceMethod yX8_hadDrawn, Cond.selects RX8 yX8_hadDrawn yX8_hadDrawn, Cond.code yX8_hadDrawn cX8_hadDrawn 6 (some .int), Cond.constant RX8 432 (1103515245), Cond.methodLink RL 106 yX7_chance, Cond.instanceMethod yX7_chance, Cond.selects RX7 yX7_chance yX7_chance, Cond.code yX7_chance cX7_chance 9 (some .long), Cond.methodLink RL 110 yX8_chance, Cond.instanceMethod yX8_chance, Cond.selects RX8 yX8_chance yX8_chance, Cond.code yX8_chance cX8_chance 9 (some .long), Cond.constantLong RX8 438 (20), Cond.methodLink RL 111 yX7_image, Cond.instanceMethod yX7_image, Cond.selects RX7 yX7_image yX7_image, Cond.code yX7_image cX7_image 1 (some .int), Cond.fieldLink RX7 270 "WellGivesOther$Picture" "today" "I", Cond.fieldLink RX7 271 "WellGivesOther$Picture" "rule" "I", Cond.methodLink RX7 266 yX1_keep, Cond.instanceMethod yX1_keep, Cond.selects RX1 yX1_keep yX1_keep, Cond.code yX1_keep cX1_keep 4 none, Cond.methodLink RX1 26 yX1_copyLikes]
def wsL_law_r48 : List Cond := [Cond.static yX1_copyLikes, Cond.code yX1_copyLikes cX1_copyLikes 3 none, Cond.methodLink RX1 30 yX1_copyAskers, Cond.static yX1_copyAskers, Cond.code yX1_copyAskers cX1_copyAskers 3 none, Cond.methodLink RX1 34 yX0_becomeLike, Cond.instanceMethod yX0_becomeLike, Cond.selects RX0 yX0_becomeLike yX0_becomeLike, Cond.code yX0_becomeLike cX0_becomeLike 2 none, Cond.methodLink RL 114 yX8_image, Cond.instanceMethod yX8_image, Cond.selects RX8 yX8_image yX8_image, Cond.code yX8_image cX8_image 2 (some .int), Cond.fieldLink RX8 440 "WellGivesOtherModel" "dayKept" "I", Cond.fieldLink RX8 443 "WellGivesOtherModel" "ruleKept" "I", Cond.methodLink RL 115 yX7_back, Cond.instanceMethod yX7_back, Cond.selects RX7 yX7_back yX7_back, Cond.code yX7_back cX7_back 1 (some .int), Cond.fieldLink RX7 272 "WellGivesOther$Picture" "askerCount" "I", Cond.methodLink RX7 273 yX1_layBack, Cond.instanceMethod yX1_layBack, Cond.selects RX1 yX1_layBack yX1_layBack, Cond.code yX1_layBack cX1_layBack 3 none]
def wsL_law_r49 : List Cond := [Cond.methodLink RL 118 yX8_back, Cond.instanceMethod yX8_back, Cond.selects RX8 yX8_back yX8_back, Cond.code yX8_back cX8_back 2 (some .int), Cond.methodLink RL 119 yX7_count, Cond.instanceMethod yX7_count, Cond.selects RX7 yX7_count yX7_count, Cond.code yX7_count cX7_count 2 (some .int), Cond.methodLink RL 122 yX8_count, Cond.instanceMethod yX8_count, Cond.selects RX8 yX8_count yX8_count, Cond.code yX8_count cX8_count 2 (some .int), Cond.methodLink RL 123 yX7_sheet, Cond.instanceMethod yX7_sheet, Cond.selects RX7 yX7_sheet yX7_sheet, Cond.code yX7_sheet cX7_sheet 5 (some .int), Cond.methodLink RL 126 yX8_sheet, Cond.methodLink RL 127 yX7_cell, Cond.instanceMethod yX7_cell, Cond.selects RX7 yX7_cell yX7_cell, Cond.code yX7_cell cX7_cell 5 (some .int), Cond.methodLink RL 130 yX8_cell, Cond.instanceMethod yX8_cell, Cond.selects RX8 yX8_cell yX8_cell]
def wsL_law_r50 : List Cond := [Cond.code yX8_cell cX8_cell 4 (some .int), Cond.methodLink RL 131 yX7_copy, Cond.instanceMethod yX7_copy, Cond.selects RX7 yX7_copy yX7_copy, Cond.code yX7_copy cX7_copy 8 (some .int), Cond.fieldLink RX7 277 "WellGivesOther$Sheet" "sort" "I", Cond.fieldLink RX7 284 "WellGivesOther$Sheet" "cells" "[I", Cond.methodLink RX7 287 arraycopyName, Cond.native arraycopyName, Cond.static arraycopyName, Cond.initialized "java/lang/System", Cond.methodLink RX7 280 yX3_holds, Cond.instanceMethod yX3_holds, Cond.selects RX3 yX3_holds yX3_holds, Cond.code yX3_holds cX3_holds 3 (some .boolean), Cond.methodLink RL 135 yX8_copy, Cond.instanceMethod yX8_copy, Cond.selects RX8 yX8_copy yX8_copy, Cond.code yX8_copy cX8_copy 9 (some .int), Cond.methodLink RL 136 yX7_askers, Cond.instanceMethod yX7_askers, Cond.selects RX7 yX7_askers yX7_askers, Cond.code yX7_askers cX7_askers 9 (some .int), Cond.methodLink RX7 296 yX7_asker]
def wsL_law_r51 : List Cond := [Cond.methodLink RL 140 yX8_askers, Cond.instanceMethod yX8_askers, Cond.selects RX8 yX8_askers yX8_askers, Cond.code yX8_askers cX8_askers 8 (some .int), Cond.methodLink RX8 450 yX8_asker, Cond.methodLink RL 141 yX7_taken, Cond.instanceMethod yX7_taken, Cond.selects RX7 yX7_taken yX7_taken, Cond.code yX7_taken cX7_taken 6 (some .int), Cond.fieldLink RX7 300 "WellGivesOther$Asker" "kind" "I", Cond.fieldLink RX7 303 "WellGivesOther" "KIND_ABOVE" "[I", Cond.fieldLink RX7 306 "WellGivesOther$Asker" "number" "I", Cond.methodLink RL 144 yX8_taken, Cond.instanceMethod yX8_taken, Cond.selects RX8 yX8_taken yX8_taken, Cond.code yX8_taken cX8_taken 4 (some .int), Cond.methodLink RX8 453 yX8_over, Cond.static yX8_over, Cond.code yX8_over cX8_over 1 (some .int)]
def wsL_law : List Cond := (wsL_law_r1 ++ (wsL_law_r2 ++ (wsL_law_r3 ++ (wsL_law_r4 ++ (wsL_law_r5 ++ (wsL_law_r6 ++ (wsL_law_r7 ++ (wsL_law_r8 ++ (wsL_law_r9 ++ (wsL_law_r10 ++ (wsL_law_r11 ++ (wsL_law_r12 ++ (wsL_law_r13 ++ (wsL_law_r14 ++ (wsL_law_r15 ++ (wsL_law_r16 ++ (wsL_law_r17 ++ (wsL_law_r18 ++ (wsL_law_r19 ++ (wsL_law_r20 ++ (wsL_law_r21 ++ (wsL_law_r22 ++ (wsL_law_r23 ++ (wsL_law_r24 ++ (wsL_law_r25 ++ (wsL_law_r26 ++ (wsL_law_r27 ++ (wsL_law_r28 ++ (wsL_law_r29 ++ (wsL_law_r30 ++ (wsL_law_r31 ++ (wsL_law_r32 ++ (wsL_law_r33 ++ (wsL_law_r34 ++ (wsL_law_r35 ++ (wsL_law_r36 ++ (wsL_law_r37 ++ (wsL_law_r38 ++ (wsL_law_r39 ++ (wsL_law_r40 ++ (wsL_law_r41 ++ (wsL_law_r42 ++ (wsL_law_r43 ++ (wsL_law_r44 ++ (wsL_law_r45 ++ (wsL_law_r46 ++ (wsL_law_r47 ++ (wsL_law_r48 ++ (wsL_law_r49 ++ (wsL_law_r50 ++ wsL_law_r51)))))))))))))))))))))))))))))))))))))))))))))))))) ++ wsX70 ++ wsX80 ++ wsX60 ++ wsX20 ++ wsX10 ++ wsX00 ++ wsX40 ++ wsX30 ++ wsX50 ++ ([] : List Cond)
theorem inlX0 : ∀ w ∈ wsX00, w ∈ wsL_law := fun _ h => List.mem_append_left _ (List.mem_append_left _ (List.mem_append_left _ (List.mem_append_left _ (List.mem_append_right _ h))))
theorem inlX1 : ∀ w ∈ wsX10, w ∈ wsL_law := fun _ h => List.mem_append_left _ (List.mem_append_left _ (List.mem_append_left _ (List.mem_append_left _ (List.mem_append_left _ (List.mem_append_right _ h)))))
theorem inlX2 : ∀ w ∈ wsX20, w ∈ wsL_law := fun _ h => List.mem_append_left _ (List.mem_append_left _ (List.mem_append_left _ (List.mem_append_left _ (List.mem_append_left _ (List.mem_append_left _ (List.mem_append_right _ h))))))
theorem inlX3 : ∀ w ∈ wsX30, w ∈ wsL_law := fun _ h => List.mem_append_left _ (List.mem_append_left _ (List.mem_append_right _ h))
theorem inlX4 : ∀ w ∈ wsX40, w ∈ wsL_law := fun _ h => List.mem_append_left _ (List.mem_append_left _ (List.mem_append_left _ (List.mem_append_right _ h)))
theorem inlX5 : ∀ w ∈ wsX50, w ∈ wsL_law := fun _ h => List.mem_append_left _ (List.mem_append_right _ h)
theorem inlX6 : ∀ w ∈ wsX60, w ∈ wsL_law := fun _ h => List.mem_append_left _ (List.mem_append_left _ (List.mem_append_left _ (List.mem_append_left _ (List.mem_append_left _ (List.mem_append_left _ (List.mem_append_left _ (List.mem_append_right _ h)))))))
theorem inlX7 : ∀ w ∈ wsX70, w ∈ wsL_law := fun _ h => List.mem_append_left _ (List.mem_append_left _ (List.mem_append_left _ (List.mem_append_left _ (List.mem_append_left _ (List.mem_append_left _ (List.mem_append_left _ (List.mem_append_left _ (List.mem_append_left _ (List.mem_append_right _ h)))))))))
theorem inlX8 : ∀ w ∈ wsX80, w ∈ wsL_law := fun _ h => List.mem_append_left _ (List.mem_append_left _ (List.mem_append_left _ (List.mem_append_left _ (List.mem_append_left _ (List.mem_append_left _ (List.mem_append_left _ (List.mem_append_left _ (List.mem_append_right _ h))))))))
abbrev vwCl : List vw_C := [(RX0, TX0, 5), (RX1, TX1, 5), (RX2, TX2, 5), (RX3, TX3, 3), (RX4, TX4, 6), (RX5, TX5, 8), (RX6, TX6, 15), (RX7, TX7, 14), (RX8, TX8, 46)]
/-! ===== END ===== -/
