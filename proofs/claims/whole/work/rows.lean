section
-- ===== PART A: goes FIRST, ahead of the names: the tables' words, and 'selects' of the private methods out of them =====
/-- a private method of a class that the tables say can be made, by its rows of tables_1 -/
def lw_okq (q : MethodName × Nat) : Prop := (q.1.cls ≠ "java/lang/invoke/MethodHandle" ∧ q.1.cls ≠ "java/lang/invoke/VarHandle") ∧ Cond.instantiable q.1.cls q.2 ∈ tables_1 ∧ Cond.privateMethod q.1 ∈ tables_1 ∧ Cond.instanceMethod q.1 ∈ tables_1
theorem lw_p0 : lw_okq (⟨"AnsweredFates$Reader", "skipBlanks", "()V"⟩, 6) := ⟨⟨by decide +kernel, by decide +kernel⟩, List.mem_of_getElem? (i := 27) (by decide +kernel), List.mem_of_getElem? (i := 376) (by decide +kernel), List.mem_of_getElem? (i := 377) (by decide +kernel)⟩
theorem lw_p1 : lw_okq (⟨"AnsweredFates$Reader", "letter", "()I"⟩, 6) := ⟨⟨by decide +kernel, by decide +kernel⟩, List.mem_of_getElem? (i := 27) (by decide +kernel), List.mem_of_getElem? (i := 380) (by decide +kernel), List.mem_of_getElem? (i := 381) (by decide +kernel)⟩
theorem lw_p2 : lw_okq (⟨"AnsweredFates$Reader", "readClause", "(LAnsweredFates$Hills;)V"⟩, 6) := ⟨⟨by decide +kernel, by decide +kernel⟩, List.mem_of_getElem? (i := 27) (by decide +kernel), List.mem_of_getElem? (i := 384) (by decide +kernel), List.mem_of_getElem? (i := 385) (by decide +kernel)⟩
theorem lw_p3 : lw_okq (⟨"AnsweredFates$Reader", "fail", "(II)V"⟩, 6) := ⟨⟨by decide +kernel, by decide +kernel⟩, List.mem_of_getElem? (i := 27) (by decide +kernel), List.mem_of_getElem? (i := 391) (by decide +kernel), List.mem_of_getElem? (i := 392) (by decide +kernel)⟩
theorem lw_p4 : lw_okq (⟨"AnsweredFates$Reader", "readOracle", "(LAnsweredFates$Hills;)V"⟩, 6) := ⟨⟨by decide +kernel, by decide +kernel⟩, List.mem_of_getElem? (i := 27) (by decide +kernel), List.mem_of_getElem? (i := 395) (by decide +kernel), List.mem_of_getElem? (i := 396) (by decide +kernel)⟩
theorem lw_p5 : lw_okq (⟨"AnsweredFates$Reader", "readNumber", "(II)I"⟩, 6) := ⟨⟨by decide +kernel, by decide +kernel⟩, List.mem_of_getElem? (i := 27) (by decide +kernel), List.mem_of_getElem? (i := 399) (by decide +kernel), List.mem_of_getElem? (i := 400) (by decide +kernel)⟩
theorem lw_p6 : lw_okq (⟨"AnsweredFates$Reader", "readEnd", "()V"⟩, 6) := ⟨⟨by decide +kernel, by decide +kernel⟩, List.mem_of_getElem? (i := 27) (by decide +kernel), List.mem_of_getElem? (i := 406) (by decide +kernel), List.mem_of_getElem? (i := 407) (by decide +kernel)⟩
theorem lw_p7 : lw_okq (⟨"AnsweredFates$Reader", "readVillage", "(LAnsweredFates$Hills;)V"⟩, 6) := ⟨⟨by decide +kernel, by decide +kernel⟩, List.mem_of_getElem? (i := 27) (by decide +kernel), List.mem_of_getElem? (i := 410) (by decide +kernel), List.mem_of_getElem? (i := 411) (by decide +kernel)⟩
theorem lw_p8 : lw_okq (⟨"AnsweredFates$Reader", "readPerson", "(LAnsweredFates$Hills;)V"⟩, 6) := ⟨⟨by decide +kernel, by decide +kernel⟩, List.mem_of_getElem? (i := 27) (by decide +kernel), List.mem_of_getElem? (i := 418) (by decide +kernel), List.mem_of_getElem? (i := 419) (by decide +kernel)⟩
theorem lw_p9 : lw_okq (⟨"AnsweredFates$Course", "canTakeTogether", "(I)I"⟩, 3) := ⟨⟨by decide +kernel, by decide +kernel⟩, List.mem_of_getElem? (i := 56) (by decide +kernel), List.mem_of_getElem? (i := 471) (by decide +kernel), List.mem_of_getElem? (i := 472) (by decide +kernel)⟩
theorem lw_p10 : lw_okq (⟨"AnsweredFates$Course", "canTake", "(II)I"⟩, 3) := ⟨⟨by decide +kernel, by decide +kernel⟩, List.mem_of_getElem? (i := 56) (by decide +kernel), List.mem_of_getElem? (i := 475) (by decide +kernel), List.mem_of_getElem? (i := 476) (by decide +kernel)⟩
theorem lw_p11 : lw_okq (⟨"AnsweredFates$Returns", "countWith", "(LAnsweredFates$Hills;I)I"⟩, 3) := ⟨⟨by decide +kernel, by decide +kernel⟩, List.mem_of_getElem? (i := 264) (by decide +kernel), List.mem_of_getElem? (i := 491) (by decide +kernel), List.mem_of_getElem? (i := 492) (by decide +kernel)⟩
theorem lw_p12 : lw_okq (⟨"AnsweredFates$Returns", "fits", "(I)Z"⟩, 3) := ⟨⟨by decide +kernel, by decide +kernel⟩, List.mem_of_getElem? (i := 264) (by decide +kernel), List.mem_of_getElem? (i := 498) (by decide +kernel), List.mem_of_getElem? (i := 499) (by decide +kernel)⟩
theorem lw_p13 : lw_okq (⟨"AnsweredFates$Returns", "takenBy", "(II)I"⟩, 3) := ⟨⟨by decide +kernel, by decide +kernel⟩, List.mem_of_getElem? (i := 264) (by decide +kernel), List.mem_of_getElem? (i := 502) (by decide +kernel), List.mem_of_getElem? (i := 503) (by decide +kernel)⟩
theorem lw_p14 : lw_okq (⟨"AnsweredFates$Course", "taken", "(II)I"⟩, 3) := ⟨⟨by decide +kernel, by decide +kernel⟩, List.mem_of_getElem? (i := 56) (by decide +kernel), List.mem_of_getElem? (i := 570) (by decide +kernel), List.mem_of_getElem? (i := 571) (by decide +kernel)⟩
theorem lw_p15 : lw_okq (⟨"AnsweredFates", "refuseYears", "(I)I"⟩, 9) := ⟨⟨by decide +kernel, by decide +kernel⟩, List.mem_of_getElem? (i := 19) (by decide +kernel), List.mem_of_getElem? (i := 617) (by decide +kernel), List.mem_of_getElem? (i := 618) (by decide +kernel)⟩
def lw_privs_1 : List (MethodName × Nat) := [(⟨"AnsweredFates$Reader", "skipBlanks", "()V"⟩, 6), (⟨"AnsweredFates$Reader", "letter", "()I"⟩, 6), (⟨"AnsweredFates$Reader", "readClause", "(LAnsweredFates$Hills;)V"⟩, 6), (⟨"AnsweredFates$Reader", "fail", "(II)V"⟩, 6), (⟨"AnsweredFates$Reader", "readOracle", "(LAnsweredFates$Hills;)V"⟩, 6), (⟨"AnsweredFates$Reader", "readNumber", "(II)I"⟩, 6), (⟨"AnsweredFates$Reader", "readEnd", "()V"⟩, 6), (⟨"AnsweredFates$Reader", "readVillage", "(LAnsweredFates$Hills;)V"⟩, 6), (⟨"AnsweredFates$Reader", "readPerson", "(LAnsweredFates$Hills;)V"⟩, 6), (⟨"AnsweredFates$Course", "canTakeTogether", "(I)I"⟩, 3), (⟨"AnsweredFates$Course", "canTake", "(II)I"⟩, 3), (⟨"AnsweredFates$Returns", "countWith", "(LAnsweredFates$Hills;I)I"⟩, 3), (⟨"AnsweredFates$Returns", "fits", "(I)Z"⟩, 3), (⟨"AnsweredFates$Returns", "takenBy", "(II)I"⟩, 3), (⟨"AnsweredFates$Course", "taken", "(II)I"⟩, 3), (⟨"AnsweredFates", "refuseYears", "(I)I"⟩, 9)]
theorem lw_r1 : ∀ q ∈ lw_privs_1, lw_okq q := List.forall_mem_cons.mpr ⟨lw_p0, List.forall_mem_cons.mpr ⟨lw_p1, List.forall_mem_cons.mpr ⟨lw_p2, List.forall_mem_cons.mpr ⟨lw_p3, List.forall_mem_cons.mpr ⟨lw_p4, List.forall_mem_cons.mpr ⟨lw_p5, List.forall_mem_cons.mpr ⟨lw_p6, List.forall_mem_cons.mpr ⟨lw_p7, List.forall_mem_cons.mpr ⟨lw_p8, List.forall_mem_cons.mpr ⟨lw_p9, List.forall_mem_cons.mpr ⟨lw_p10, List.forall_mem_cons.mpr ⟨lw_p11, List.forall_mem_cons.mpr ⟨lw_p12, List.forall_mem_cons.mpr ⟨lw_p13, List.forall_mem_cons.mpr ⟨lw_p14, List.forall_mem_cons.mpr ⟨lw_p15, fun _ h => absurd h List.not_mem_nil⟩⟩⟩⟩⟩⟩⟩⟩⟩⟩⟩⟩⟩⟩⟩⟩
theorem lw_p16 : lw_okq (⟨"AnsweredFates$Course", "hurtVillage", "(II)V"⟩, 3) := ⟨⟨by decide +kernel, by decide +kernel⟩, List.mem_of_getElem? (i := 56) (by decide +kernel), List.mem_of_getElem? (i := 630) (by decide +kernel), List.mem_of_getElem? (i := 631) (by decide +kernel)⟩
theorem lw_p17 : lw_okq (⟨"AnsweredFates$Matching", "tryAll", "()V"⟩, 5) := ⟨⟨by decide +kernel, by decide +kernel⟩, List.mem_of_getElem? (i := 298) (by decide +kernel), List.mem_of_getElem? (i := 697) (by decide +kernel), List.mem_of_getElem? (i := 698) (by decide +kernel)⟩
theorem lw_p18 : lw_okq (⟨"AnsweredFates$Matching", "leastFrom", "(II)I"⟩, 5) := ⟨⟨by decide +kernel, by decide +kernel⟩, List.mem_of_getElem? (i := 298) (by decide +kernel), List.mem_of_getElem? (i := 703) (by decide +kernel), List.mem_of_getElem? (i := 704) (by decide +kernel)⟩
theorem lw_p19 : lw_okq (⟨"AnsweredFates$Matching", "mayGo", "(III)Z"⟩, 5) := ⟨⟨by decide +kernel, by decide +kernel⟩, List.mem_of_getElem? (i := 298) (by decide +kernel), List.mem_of_getElem? (i := 707) (by decide +kernel), List.mem_of_getElem? (i := 708) (by decide +kernel)⟩
theorem lw_p20 : lw_okq (⟨"AnsweredFates$Matching", "leftWith", "(III)I"⟩, 5) := ⟨⟨by decide +kernel, by decide +kernel⟩, List.mem_of_getElem? (i := 298) (by decide +kernel), List.mem_of_getElem? (i := 711) (by decide +kernel), List.mem_of_getElem? (i := 712) (by decide +kernel)⟩
theorem lw_p21 : lw_okq (⟨"AnsweredFates$Matching", "choose", "()V"⟩, 5) := ⟨⟨by decide +kernel, by decide +kernel⟩, List.mem_of_getElem? (i := 298) (by decide +kernel), List.mem_of_getElem? (i := 716) (by decide +kernel), List.mem_of_getElem? (i := 717) (by decide +kernel)⟩
theorem lw_p22 : lw_okq (⟨"AnsweredFates$Matching", "firstGoer", "(II)I"⟩, 5) := ⟨⟨by decide +kernel, by decide +kernel⟩, List.mem_of_getElem? (i := 298) (by decide +kernel), List.mem_of_getElem? (i := 720) (by decide +kernel), List.mem_of_getElem? (i := 721) (by decide +kernel)⟩
theorem lw_p23 : lw_okq (⟨"AnsweredFates$Course", "leastCeiling", "(I)I"⟩, 3) := ⟨⟨by decide +kernel, by decide +kernel⟩, List.mem_of_getElem? (i := 56) (by decide +kernel), List.mem_of_getElem? (i := 736) (by decide +kernel), List.mem_of_getElem? (i := 737) (by decide +kernel)⟩
theorem lw_p24 : lw_okq (⟨"AnsweredFates$Course", "roomFrom", "(II)I"⟩, 3) := ⟨⟨by decide +kernel, by decide +kernel⟩, List.mem_of_getElem? (i := 56) (by decide +kernel), List.mem_of_getElem? (i := 740) (by decide +kernel), List.mem_of_getElem? (i := 741) (by decide +kernel)⟩
theorem lw_p25 : lw_okq (⟨"AnsweredFates$Course", "shareAhead", "(III)I"⟩, 3) := ⟨⟨by decide +kernel, by decide +kernel⟩, List.mem_of_getElem? (i := 56) (by decide +kernel), List.mem_of_getElem? (i := 744) (by decide +kernel), List.mem_of_getElem? (i := 745) (by decide +kernel)⟩
theorem lw_p26 : lw_okq (⟨"AnsweredFatesModel", "here", "()I"⟩, 36) := ⟨⟨by decide +kernel, by decide +kernel⟩, List.mem_of_getElem? (i := 801) (by decide +kernel), List.mem_of_getElem? (i := 930) (by decide +kernel), List.mem_of_getElem? (i := 931) (by decide +kernel)⟩
theorem lw_p27 : lw_okq (⟨"AnsweredFatesModel", "takeClause", "()I"⟩, 36) := ⟨⟨by decide +kernel, by decide +kernel⟩, List.mem_of_getElem? (i := 801) (by decide +kernel), List.mem_of_getElem? (i := 934) (by decide +kernel), List.mem_of_getElem? (i := 935) (by decide +kernel)⟩
theorem lw_p28 : lw_okq (⟨"AnsweredFatesModel", "fails", "(II)I"⟩, 36) := ⟨⟨by decide +kernel, by decide +kernel⟩, List.mem_of_getElem? (i := 801) (by decide +kernel), List.mem_of_getElem? (i := 938) (by decide +kernel), List.mem_of_getElem? (i := 939) (by decide +kernel)⟩
theorem lw_p29 : lw_okq (⟨"AnsweredFatesModel", "takeOracle", "()I"⟩, 36) := ⟨⟨by decide +kernel, by decide +kernel⟩, List.mem_of_getElem? (i := 801) (by decide +kernel), List.mem_of_getElem? (i := 942) (by decide +kernel), List.mem_of_getElem? (i := 943) (by decide +kernel)⟩
theorem lw_p30 : lw_okq (⟨"AnsweredFatesModel", "takeNumber", "(II)I"⟩, 36) := ⟨⟨by decide +kernel, by decide +kernel⟩, List.mem_of_getElem? (i := 801) (by decide +kernel), List.mem_of_getElem? (i := 946) (by decide +kernel), List.mem_of_getElem? (i := 947) (by decide +kernel)⟩
theorem lw_p31 : lw_okq (⟨"AnsweredFatesModel", "takeVillage", "()I"⟩, 36) := ⟨⟨by decide +kernel, by decide +kernel⟩, List.mem_of_getElem? (i := 801) (by decide +kernel), List.mem_of_getElem? (i := 952) (by decide +kernel), List.mem_of_getElem? (i := 953) (by decide +kernel)⟩
def lw_privs_2 : List (MethodName × Nat) := [(⟨"AnsweredFates$Course", "hurtVillage", "(II)V"⟩, 3), (⟨"AnsweredFates$Matching", "tryAll", "()V"⟩, 5), (⟨"AnsweredFates$Matching", "leastFrom", "(II)I"⟩, 5), (⟨"AnsweredFates$Matching", "mayGo", "(III)Z"⟩, 5), (⟨"AnsweredFates$Matching", "leftWith", "(III)I"⟩, 5), (⟨"AnsweredFates$Matching", "choose", "()V"⟩, 5), (⟨"AnsweredFates$Matching", "firstGoer", "(II)I"⟩, 5), (⟨"AnsweredFates$Course", "leastCeiling", "(I)I"⟩, 3), (⟨"AnsweredFates$Course", "roomFrom", "(II)I"⟩, 3), (⟨"AnsweredFates$Course", "shareAhead", "(III)I"⟩, 3), (⟨"AnsweredFatesModel", "here", "()I"⟩, 36), (⟨"AnsweredFatesModel", "takeClause", "()I"⟩, 36), (⟨"AnsweredFatesModel", "fails", "(II)I"⟩, 36), (⟨"AnsweredFatesModel", "takeOracle", "()I"⟩, 36), (⟨"AnsweredFatesModel", "takeNumber", "(II)I"⟩, 36), (⟨"AnsweredFatesModel", "takeVillage", "()I"⟩, 36)]
theorem lw_r2 : ∀ q ∈ lw_privs_2, lw_okq q := List.forall_mem_cons.mpr ⟨lw_p16, List.forall_mem_cons.mpr ⟨lw_p17, List.forall_mem_cons.mpr ⟨lw_p18, List.forall_mem_cons.mpr ⟨lw_p19, List.forall_mem_cons.mpr ⟨lw_p20, List.forall_mem_cons.mpr ⟨lw_p21, List.forall_mem_cons.mpr ⟨lw_p22, List.forall_mem_cons.mpr ⟨lw_p23, List.forall_mem_cons.mpr ⟨lw_p24, List.forall_mem_cons.mpr ⟨lw_p25, List.forall_mem_cons.mpr ⟨lw_p26, List.forall_mem_cons.mpr ⟨lw_p27, List.forall_mem_cons.mpr ⟨lw_p28, List.forall_mem_cons.mpr ⟨lw_p29, List.forall_mem_cons.mpr ⟨lw_p30, List.forall_mem_cons.mpr ⟨lw_p31, fun _ h => absurd h List.not_mem_nil⟩⟩⟩⟩⟩⟩⟩⟩⟩⟩⟩⟩⟩⟩⟩⟩
theorem lw_p32 : lw_okq (⟨"AnsweredFatesModel", "takePerson", "()I"⟩, 36) := ⟨⟨by decide +kernel, by decide +kernel⟩, List.mem_of_getElem? (i := 801) (by decide +kernel), List.mem_of_getElem? (i := 956) (by decide +kernel), List.mem_of_getElem? (i := 957) (by decide +kernel)⟩
theorem lw_p33 : lw_okq (⟨"AnsweredFatesModel", "takeRead", "()V"⟩, 36) := ⟨⟨by decide +kernel, by decide +kernel⟩, List.mem_of_getElem? (i := 801) (by decide +kernel), List.mem_of_getElem? (i := 962) (by decide +kernel), List.mem_of_getElem? (i := 963) (by decide +kernel)⟩
theorem lw_p34 : lw_okq (⟨"AnsweredFatesModel", "toldFate", "()I"⟩, 36) := ⟨⟨by decide +kernel, by decide +kernel⟩, List.mem_of_getElem? (i := 801) (by decide +kernel), List.mem_of_getElem? (i := 974) (by decide +kernel), List.mem_of_getElem? (i := 975) (by decide +kernel)⟩
theorem lw_p35 : lw_okq (⟨"AnsweredFatesModel", "borne", "()I"⟩, 36) := ⟨⟨by decide +kernel, by decide +kernel⟩, List.mem_of_getElem? (i := 801) (by decide +kernel), List.mem_of_getElem? (i := 978) (by decide +kernel), List.mem_of_getElem? (i := 979) (by decide +kernel)⟩
theorem lw_p36 : lw_okq (⟨"AnsweredFatesModel", "tries", "()V"⟩, 36) := ⟨⟨by decide +kernel, by decide +kernel⟩, List.mem_of_getElem? (i := 801) (by decide +kernel), List.mem_of_getElem? (i := 982) (by decide +kernel), List.mem_of_getElem? (i := 983) (by decide +kernel)⟩
theorem lw_p37 : lw_okq (⟨"AnsweredFatesModel", "yearOf", "(I)V"⟩, 36) := ⟨⟨by decide +kernel, by decide +kernel⟩, List.mem_of_getElem? (i := 801) (by decide +kernel), List.mem_of_getElem? (i := 986) (by decide +kernel), List.mem_of_getElem? (i := 987) (by decide +kernel)⟩
theorem lw_p38 : lw_okq (⟨"AnsweredFatesModel", "harms", "(III)V"⟩, 36) := ⟨⟨by decide +kernel, by decide +kernel⟩, List.mem_of_getElem? (i := 801) (by decide +kernel), List.mem_of_getElem? (i := 990) (by decide +kernel), List.mem_of_getElem? (i := 991) (by decide +kernel)⟩
theorem lw_p39 : lw_okq (⟨"AnsweredFatesModel", "ofVillage", "(I)I"⟩, 36) := ⟨⟨by decide +kernel, by decide +kernel⟩, List.mem_of_getElem? (i := 801) (by decide +kernel), List.mem_of_getElem? (i := 994) (by decide +kernel), List.mem_of_getElem? (i := 995) (by decide +kernel)⟩
theorem lw_p40 : lw_okq (⟨"AnsweredFatesModel", "takes", "(III)I"⟩, 36) := ⟨⟨by decide +kernel, by decide +kernel⟩, List.mem_of_getElem? (i := 801) (by decide +kernel), List.mem_of_getElem? (i := 998) (by decide +kernel), List.mem_of_getElem? (i := 999) (by decide +kernel)⟩
theorem lw_p41 : lw_okq (⟨"AnsweredFatesModel", "madeUp", "()I"⟩, 36) := ⟨⟨by decide +kernel, by decide +kernel⟩, List.mem_of_getElem? (i := 801) (by decide +kernel), List.mem_of_getElem? (i := 1008) (by decide +kernel), List.mem_of_getElem? (i := 1009) (by decide +kernel)⟩
theorem lw_p42 : lw_okq (⟨"AnsweredFatesModel", "worst", "()I"⟩, 36) := ⟨⟨by decide +kernel, by decide +kernel⟩, List.mem_of_getElem? (i := 801) (by decide +kernel), List.mem_of_getElem? (i := 1012) (by decide +kernel), List.mem_of_getElem? (i := 1013) (by decide +kernel)⟩
theorem lw_p43 : lw_okq (⟨"AnsweredFatesModel", "manyWent", "()I"⟩, 36) := ⟨⟨by decide +kernel, by decide +kernel⟩, List.mem_of_getElem? (i := 801) (by decide +kernel), List.mem_of_getElem? (i := 1016) (by decide +kernel), List.mem_of_getElem? (i := 1017) (by decide +kernel)⟩
theorem lw_p44 : lw_okq (⟨"AnsweredFatesModel", "mayBe", "(I)Z"⟩, 36) := ⟨⟨by decide +kernel, by decide +kernel⟩, List.mem_of_getElem? (i := 801) (by decide +kernel), List.mem_of_getElem? (i := 1020) (by decide +kernel), List.mem_of_getElem? (i := 1021) (by decide +kernel)⟩
theorem lw_p45 : lw_okq (⟨"AnsweredFatesModel", "isHills", "()Z"⟩, 36) := ⟨⟨by decide +kernel, by decide +kernel⟩, List.mem_of_getElem? (i := 801) (by decide +kernel), List.mem_of_getElem? (i := 1024) (by decide +kernel), List.mem_of_getElem? (i := 1025) (by decide +kernel)⟩
theorem lw_p46 : lw_okq (⟨"AnsweredFatesModel", "inEach", "()I"⟩, 36) := ⟨⟨by decide +kernel, by decide +kernel⟩, List.mem_of_getElem? (i := 801) (by decide +kernel), List.mem_of_getElem? (i := 1028) (by decide +kernel), List.mem_of_getElem? (i := 1029) (by decide +kernel)⟩
theorem lw_p47 : lw_okq (⟨"AnsweredFatesModel", "askNext", "()I"⟩, 36) := ⟨⟨by decide +kernel, by decide +kernel⟩, List.mem_of_getElem? (i := 801) (by decide +kernel), List.mem_of_getElem? (i := 1032) (by decide +kernel), List.mem_of_getElem? (i := 1033) (by decide +kernel)⟩
def lw_privs_3 : List (MethodName × Nat) := [(⟨"AnsweredFatesModel", "takePerson", "()I"⟩, 36), (⟨"AnsweredFatesModel", "takeRead", "()V"⟩, 36), (⟨"AnsweredFatesModel", "toldFate", "()I"⟩, 36), (⟨"AnsweredFatesModel", "borne", "()I"⟩, 36), (⟨"AnsweredFatesModel", "tries", "()V"⟩, 36), (⟨"AnsweredFatesModel", "yearOf", "(I)V"⟩, 36), (⟨"AnsweredFatesModel", "harms", "(III)V"⟩, 36), (⟨"AnsweredFatesModel", "ofVillage", "(I)I"⟩, 36), (⟨"AnsweredFatesModel", "takes", "(III)I"⟩, 36), (⟨"AnsweredFatesModel", "madeUp", "()I"⟩, 36), (⟨"AnsweredFatesModel", "worst", "()I"⟩, 36), (⟨"AnsweredFatesModel", "manyWent", "()I"⟩, 36), (⟨"AnsweredFatesModel", "mayBe", "(I)Z"⟩, 36), (⟨"AnsweredFatesModel", "isHills", "()Z"⟩, 36), (⟨"AnsweredFatesModel", "inEach", "()I"⟩, 36), (⟨"AnsweredFatesModel", "askNext", "()I"⟩, 36)]
theorem lw_r3 : ∀ q ∈ lw_privs_3, lw_okq q := List.forall_mem_cons.mpr ⟨lw_p32, List.forall_mem_cons.mpr ⟨lw_p33, List.forall_mem_cons.mpr ⟨lw_p34, List.forall_mem_cons.mpr ⟨lw_p35, List.forall_mem_cons.mpr ⟨lw_p36, List.forall_mem_cons.mpr ⟨lw_p37, List.forall_mem_cons.mpr ⟨lw_p38, List.forall_mem_cons.mpr ⟨lw_p39, List.forall_mem_cons.mpr ⟨lw_p40, List.forall_mem_cons.mpr ⟨lw_p41, List.forall_mem_cons.mpr ⟨lw_p42, List.forall_mem_cons.mpr ⟨lw_p43, List.forall_mem_cons.mpr ⟨lw_p44, List.forall_mem_cons.mpr ⟨lw_p45, List.forall_mem_cons.mpr ⟨lw_p46, List.forall_mem_cons.mpr ⟨lw_p47, fun _ h => absurd h List.not_mem_nil⟩⟩⟩⟩⟩⟩⟩⟩⟩⟩⟩⟩⟩⟩⟩⟩
theorem lw_p48 : lw_okq (⟨"AnsweredFatesModel", "isPerson", "(I)Z"⟩, 36) := ⟨⟨by decide +kernel, by decide +kernel⟩, List.mem_of_getElem? (i := 801) (by decide +kernel), List.mem_of_getElem? (i := 1040) (by decide +kernel), List.mem_of_getElem? (i := 1041) (by decide +kernel)⟩
theorem lw_p49 : lw_okq (⟨"AnsweredFatesModel", "ridOf", "(I)I"⟩, 36) := ⟨⟨by decide +kernel, by decide +kernel⟩, List.mem_of_getElem? (i := 801) (by decide +kernel), List.mem_of_getElem? (i := 1045) (by decide +kernel), List.mem_of_getElem? (i := 1046) (by decide +kernel)⟩
theorem lw_p50 : lw_okq (⟨"AnsweredFatesModel", "bargain", "(II)I"⟩, 36) := ⟨⟨by decide +kernel, by decide +kernel⟩, List.mem_of_getElem? (i := 801) (by decide +kernel), List.mem_of_getElem? (i := 1049) (by decide +kernel), List.mem_of_getElem? (i := 1050) (by decide +kernel)⟩
theorem lw_p51 : lw_okq (⟨"AnsweredFatesModel", "off", "(II)I"⟩, 36) := ⟨⟨by decide +kernel, by decide +kernel⟩, List.mem_of_getElem? (i := 801) (by decide +kernel), List.mem_of_getElem? (i := 1053) (by decide +kernel), List.mem_of_getElem? (i := 1054) (by decide +kernel)⟩
theorem lw_p52 : lw_okq (⟨"AnsweredFatesModel", "ringOf", "(I)I"⟩, 36) := ⟨⟨by decide +kernel, by decide +kernel⟩, List.mem_of_getElem? (i := 801) (by decide +kernel), List.mem_of_getElem? (i := 1057) (by decide +kernel), List.mem_of_getElem? (i := 1058) (by decide +kernel)⟩
theorem lw_p53 : lw_okq (⟨"AnsweredFatesModel", "firstOf", "(I)I"⟩, 36) := ⟨⟨by decide +kernel, by decide +kernel⟩, List.mem_of_getElem? (i := 801) (by decide +kernel), List.mem_of_getElem? (i := 1061) (by decide +kernel), List.mem_of_getElem? (i := 1062) (by decide +kernel)⟩
theorem lw_p54 : lw_okq (⟨"AnsweredFatesModel", "isVillage", "(I)Z"⟩, 36) := ⟨⟨by decide +kernel, by decide +kernel⟩, List.mem_of_getElem? (i := 801) (by decide +kernel), List.mem_of_getElem? (i := 1069) (by decide +kernel), List.mem_of_getElem? (i := 1070) (by decide +kernel)⟩
theorem lw_p55 : lw_okq (⟨"AnsweredFatesModel", "had", "(I)I"⟩, 36) := ⟨⟨by decide +kernel, by decide +kernel⟩, List.mem_of_getElem? (i := 801) (by decide +kernel), List.mem_of_getElem? (i := 1073) (by decide +kernel), List.mem_of_getElem? (i := 1074) (by decide +kernel)⟩
theorem lw_p56 : lw_okq (⟨"AnsweredFatesModel", "harmOf", "(I)I"⟩, 36) := ⟨⟨by decide +kernel, by decide +kernel⟩, List.mem_of_getElem? (i := 801) (by decide +kernel), List.mem_of_getElem? (i := 1077) (by decide +kernel), List.mem_of_getElem? (i := 1078) (by decide +kernel)⟩
theorem lw_p57 : lw_okq (⟨"AnsweredFatesModel", "remember", "()V"⟩, 36) := ⟨⟨by decide +kernel, by decide +kernel⟩, List.mem_of_getElem? (i := 801) (by decide +kernel), List.mem_of_getElem? (i := 1086) (by decide +kernel), List.mem_of_getElem? (i := 1087) (by decide +kernel)⟩
theorem lw_p58 : lw_okq (⟨"AnsweredFatesModel", "tells", "(II)I"⟩, 36) := ⟨⟨by decide +kernel, by decide +kernel⟩, List.mem_of_getElem? (i := 801) (by decide +kernel), List.mem_of_getElem? (i := 1090) (by decide +kernel), List.mem_of_getElem? (i := 1091) (by decide +kernel)⟩
theorem lw_p59 : lw_okq (⟨"AnsweredFatesModel", "mayGo", "(II)Z"⟩, 36) := ⟨⟨by decide +kernel, by decide +kernel⟩, List.mem_of_getElem? (i := 801) (by decide +kernel), List.mem_of_getElem? (i := 1098) (by decide +kernel), List.mem_of_getElem? (i := 1099) (by decide +kernel)⟩
theorem lw_p60 : lw_okq (⟨"AnsweredFatesModel", "answers", "(II)V"⟩, 36) := ⟨⟨by decide +kernel, by decide +kernel⟩, List.mem_of_getElem? (i := 801) (by decide +kernel), List.mem_of_getElem? (i := 1103) (by decide +kernel), List.mem_of_getElem? (i := 1104) (by decide +kernel)⟩
theorem lw_p61 : lw_okq (⟨"AnsweredFatesModel", "chance", "()V"⟩, 36) := ⟨⟨by decide +kernel, by decide +kernel⟩, List.mem_of_getElem? (i := 801) (by decide +kernel), List.mem_of_getElem? (i := 1125) (by decide +kernel), List.mem_of_getElem? (i := 1126) (by decide +kernel)⟩
theorem lw_p62 : lw_okq (⟨"AnsweredFatesModel", "draw", "(I)I"⟩, 36) := ⟨⟨by decide +kernel, by decide +kernel⟩, List.mem_of_getElem? (i := 801) (by decide +kernel), List.mem_of_getElem? (i := 1129) (by decide +kernel), List.mem_of_getElem? (i := 1130) (by decide +kernel)⟩
theorem lw_p63 : lw_okq (⟨"AnsweredFatesModel", "layLeast", "()V"⟩, 36) := ⟨⟨by decide +kernel, by decide +kernel⟩, List.mem_of_getElem? (i := 801) (by decide +kernel), List.mem_of_getElem? (i := 1154) (by decide +kernel), List.mem_of_getElem? (i := 1155) (by decide +kernel)⟩
def lw_privs_4 : List (MethodName × Nat) := [(⟨"AnsweredFatesModel", "isPerson", "(I)Z"⟩, 36), (⟨"AnsweredFatesModel", "ridOf", "(I)I"⟩, 36), (⟨"AnsweredFatesModel", "bargain", "(II)I"⟩, 36), (⟨"AnsweredFatesModel", "off", "(II)I"⟩, 36), (⟨"AnsweredFatesModel", "ringOf", "(I)I"⟩, 36), (⟨"AnsweredFatesModel", "firstOf", "(I)I"⟩, 36), (⟨"AnsweredFatesModel", "isVillage", "(I)Z"⟩, 36), (⟨"AnsweredFatesModel", "had", "(I)I"⟩, 36), (⟨"AnsweredFatesModel", "harmOf", "(I)I"⟩, 36), (⟨"AnsweredFatesModel", "remember", "()V"⟩, 36), (⟨"AnsweredFatesModel", "tells", "(II)I"⟩, 36), (⟨"AnsweredFatesModel", "mayGo", "(II)Z"⟩, 36), (⟨"AnsweredFatesModel", "answers", "(II)V"⟩, 36), (⟨"AnsweredFatesModel", "chance", "()V"⟩, 36), (⟨"AnsweredFatesModel", "draw", "(I)I"⟩, 36), (⟨"AnsweredFatesModel", "layLeast", "()V"⟩, 36)]
theorem lw_r4 : ∀ q ∈ lw_privs_4, lw_okq q := List.forall_mem_cons.mpr ⟨lw_p48, List.forall_mem_cons.mpr ⟨lw_p49, List.forall_mem_cons.mpr ⟨lw_p50, List.forall_mem_cons.mpr ⟨lw_p51, List.forall_mem_cons.mpr ⟨lw_p52, List.forall_mem_cons.mpr ⟨lw_p53, List.forall_mem_cons.mpr ⟨lw_p54, List.forall_mem_cons.mpr ⟨lw_p55, List.forall_mem_cons.mpr ⟨lw_p56, List.forall_mem_cons.mpr ⟨lw_p57, List.forall_mem_cons.mpr ⟨lw_p58, List.forall_mem_cons.mpr ⟨lw_p59, List.forall_mem_cons.mpr ⟨lw_p60, List.forall_mem_cons.mpr ⟨lw_p61, List.forall_mem_cons.mpr ⟨lw_p62, List.forall_mem_cons.mpr ⟨lw_p63, fun _ h => absurd h List.not_mem_nil⟩⟩⟩⟩⟩⟩⟩⟩⟩⟩⟩⟩⟩⟩⟩⟩
theorem lw_p64 : lw_okq (⟨"AnsweredFatesModel", "leftBy", "(II)I"⟩, 36) := ⟨⟨by decide +kernel, by decide +kernel⟩, List.mem_of_getElem? (i := 801) (by decide +kernel), List.mem_of_getElem? (i := 1158) (by decide +kernel), List.mem_of_getElem? (i := 1159) (by decide +kernel)⟩
theorem lw_p65 : lw_okq (⟨"AnsweredFatesModel", "goerFor", "(I)I"⟩, 36) := ⟨⟨by decide +kernel, by decide +kernel⟩, List.mem_of_getElem? (i := 801) (by decide +kernel), List.mem_of_getElem? (i := 1162) (by decide +kernel), List.mem_of_getElem? (i := 1163) (by decide +kernel)⟩
theorem lw_p66 : lw_okq (⟨"AnsweredFatesModel", "levelOf", "(I)I"⟩, 36) := ⟨⟨by decide +kernel, by decide +kernel⟩, List.mem_of_getElem? (i := 801) (by decide +kernel), List.mem_of_getElem? (i := 1171) (by decide +kernel), List.mem_of_getElem? (i := 1172) (by decide +kernel)⟩
theorem lw_p67 : lw_okq (⟨"AnsweredFatesModel", "sumAt", "(II)I"⟩, 36) := ⟨⟨by decide +kernel, by decide +kernel⟩, List.mem_of_getElem? (i := 801) (by decide +kernel), List.mem_of_getElem? (i := 1175) (by decide +kernel), List.mem_of_getElem? (i := 1176) (by decide +kernel)⟩
def lw_privs_5 : List (MethodName × Nat) := [(⟨"AnsweredFatesModel", "leftBy", "(II)I"⟩, 36), (⟨"AnsweredFatesModel", "goerFor", "(I)I"⟩, 36), (⟨"AnsweredFatesModel", "levelOf", "(I)I"⟩, 36), (⟨"AnsweredFatesModel", "sumAt", "(II)I"⟩, 36)]
theorem lw_r5 : ∀ q ∈ lw_privs_5, lw_okq q := List.forall_mem_cons.mpr ⟨lw_p64, List.forall_mem_cons.mpr ⟨lw_p65, List.forall_mem_cons.mpr ⟨lw_p66, List.forall_mem_cons.mpr ⟨lw_p67, fun _ h => absurd h List.not_mem_nil⟩⟩⟩⟩
def lw_privs : List (MethodName × Nat) := lw_privs_1 ++ (lw_privs_2 ++ (lw_privs_3 ++ (lw_privs_4 ++ (lw_privs_5))))
def lw_tbl : List Cond := k2_sels lw_privs ++ tables_1
theorem lw_privs_ok : ∀ q ∈ lw_privs, lw_okq q := by
  show ∀ q ∈ lw_privs_1 ++ (lw_privs_2 ++ (lw_privs_3 ++ (lw_privs_4 ++ (lw_privs_5)))), lw_okq q
  exact List.forall_mem_append.mpr ⟨lw_r1, List.forall_mem_append.mpr ⟨lw_r2, List.forall_mem_append.mpr ⟨lw_r3, List.forall_mem_append.mpr ⟨lw_r4, lw_r5⟩⟩⟩⟩
-- ===== end of PART A; then your names; then what follows =====
end
section
/-! ===== BEGIN words of one list among another's, by their places ===== -/
theorem goodIn_r {big : List Cond} (ws : List Cond) (ps : List Nat) (hp : ws = ps.filterMap (fun i => big[i]?)) (h : ws.all goodWord = true) : GoodIn big ws := by
  intro w hw
  have h1 := List.all_eq_true.mp h w hw
  rw [hp] at hw
  obtain ⟨i, -, hi⟩ := List.mem_filterMap.mp hw
  have hm : w ∈ big := by first | exact List.mem_of_getElem? hi | exact List.getElem?_mem hi
  exact ⟨hm, good_of_word h1⟩
theorem goodIn_app {big a b : List Cond} (ha : GoodIn big a) (hb : GoodIn big b) : GoodIn big (a ++ b) := fun w h => (List.mem_append.mp h).elim (ha w) (hb w)
theorem goodIn_ca {big a b : List Cond} {c : Cond} (ha : GoodIn big (c :: a)) (hb : GoodIn big b) : GoodIn big (c :: (a ++ b)) := fun w h => (List.mem_cons.mp h).elim (fun e => ha w (List.mem_cons.mpr (Or.inl e))) (fun h => (List.mem_append.mp h).elim (fun h => ha w (List.mem_cons.mpr (Or.inr h))) (hb w))
theorem goodIn_sub {big ws : List Cond} (hm : ∀ w ∈ ws, w ∈ big) (h : ws.all goodWord = true) : GoodIn big ws := fun w hw => ⟨hm w hw, good_of_word (List.all_eq_true.mp h w hw)⟩
/-! ===== END ===== -/

/-! ===== BEGIN printed: names, fields, word lists, decode rows ===== -/
def RX0 : String := "AnsweredFates$Bargain"
def TX0 : u_T := fun k => match k with
  | 0 => ("AnsweredFates$Bargain", "left", "I", false)
  | _ => ("AnsweredFates$Bargain", "turns", "I", false)
def tyX0 : Nat → FieldType := fun k => match k with
  | 0 => .int
  | _ => .int
abbrev wsX00 : List Cond := u_ws RX0 TX0 2
theorem nmX0 : ∀ a, a < 2 → ∀ b, b < 2 → a ≠ b → (TX0 a).2.1 ≠ (TX0 b).2.1 := by decide +kernel
theorem tyX0_ok : ∀ k, k < 2 → parseFieldDescriptor (TX0 k).2.2.1 = some (tyX0 k) := by decide +kernel
abbrev cX0_init : ByteArray := prog_2_method_1_code
def yX0_init : MethodName := ⟨RX0, "<init>", "()V"⟩
abbrev cX0_hold : ByteArray := prog_2_method_2_code
def yX0_hold : MethodName := ⟨RX0, "hold", "(IIIII)V"⟩
abbrev cX0_gotOff : ByteArray := prog_2_method_3_code
def yX0_gotOff : MethodName := ⟨RX0, "gotOff", "(IIII)I"⟩
def RX1 : String := "AnsweredFates$Book"
def TX1 : u_T := fun k => match k with
  | 0 => ("AnsweredFates$Book", "size", "I", false)
  | 1 => ("AnsweredFates$Book", "person", "[I", true)
  | _ => ("AnsweredFates$Book", "harm", "[I", true)
def tyX1 : Nat → FieldType := fun k => match k with
  | 0 => .int
  | 1 => .array .int
  | _ => .array .int
abbrev wsX10 : List Cond := u_ws RX1 TX1 3
theorem nmX1 : ∀ a, a < 3 → ∀ b, b < 3 → a ≠ b → (TX1 a).2.1 ≠ (TX1 b).2.1 := by decide +kernel
theorem tyX1_ok : ∀ k, k < 3 → parseFieldDescriptor (TX1 k).2.2.1 = some (tyX1 k) := by decide +kernel
abbrev cX1_init : ByteArray := prog_3_method_1_code
def yX1_init : MethodName := ⟨RX1, "<init>", "()V"⟩
abbrev cX1_add : ByteArray := prog_3_method_2_code
def yX1_add : MethodName := ⟨RX1, "add", "(II)V"⟩
abbrev cX1_firstFalse : ByteArray := prog_3_method_3_code
def yX1_firstFalse : MethodName := ⟨RX1, "firstFalse", "([I)I"⟩
def RX2 : String := "AnsweredFates$Course"
def TX2 : u_T := fun k => match k with
  | 0 => ("AnsweredFates$Course", "hills", "LAnsweredFates$Hills;", false)
  | 1 => ("AnsweredFates$Course", "now", "LAnsweredFates$State;", true)
  | _ => ("AnsweredFates$Course", "bargain", "LAnsweredFates$Bargain;", true)
def tyX2 : Nat → FieldType := fun k => match k with
  | 0 => .object "AnsweredFates$Hills"
  | 1 => .object "AnsweredFates$State"
  | _ => .object "AnsweredFates$Bargain"
abbrev wsX20 : List Cond := u_ws RX2 TX2 3
theorem nmX2 : ∀ a, a < 3 → ∀ b, b < 3 → a ≠ b → (TX2 a).2.1 ≠ (TX2 b).2.1 := by decide +kernel
theorem tyX2_ok : ∀ k, k < 3 → parseFieldDescriptor (TX2 k).2.2.1 = some (tyX2 k) := by decide +kernel
abbrev cX2_init : ByteArray := prog_4_method_1_code
def yX2_init : MethodName := ⟨RX2, "<init>", "()V"⟩
abbrev cX2_isPerson : ByteArray := prog_4_method_2_code
def yX2_isPerson : MethodName := ⟨RX2, "isPerson", "(I)Z"⟩
abbrev cX2_isVillage : ByteArray := prog_4_method_3_code
def yX2_isVillage : MethodName := ⟨RX2, "isVillage", "(I)Z"⟩
abbrev cX2_untold : ByteArray := prog_4_method_4_code
def yX2_untold : MethodName := ⟨RX2, "untold", "()I"⟩
abbrev cX2_fateful : ByteArray := prog_4_method_5_code
def yX2_fateful : MethodName := ⟨RX2, "fateful", "()I"⟩
abbrev cX2_canGoUp : ByteArray := prog_4_method_6_code
def yX2_canGoUp : MethodName := ⟨RX2, "canGoUp", "(I)Z"⟩
abbrev cX2_canAnswer : ByteArray := prog_4_method_7_code
def yX2_canAnswer : MethodName := ⟨RX2, "canAnswer", "(II)Z"⟩
abbrev cX2_bargainBy : ByteArray := prog_4_method_8_code
def yX2_bargainBy : MethodName := ⟨RX2, "bargainBy", "(II)V"⟩
abbrev cX2_leftBy : ByteArray := prog_4_method_9_code
def yX2_leftBy : MethodName := ⟨RX2, "leftBy", "(II)I"⟩
abbrev cX2_foretell : ByteArray := prog_4_method_10_code
def yX2_foretell : MethodName := ⟨RX2, "foretell", "(II)V"⟩
abbrev cX2_answerBack : ByteArray := prog_4_method_11_code
def yX2_answerBack : MethodName := ⟨RX2, "answerBack", "(II)V"⟩
abbrev cX2_passYear : ByteArray := prog_4_method_12_code
def yX2_passYear : MethodName := ⟨RX2, "passYear", "()V"⟩
abbrev cX2_hurtVillage : ByteArray := prog_4_method_13_code
def yX2_hurtVillage : MethodName := ⟨RX2, "hurtVillage", "(II)V"⟩
abbrev cX2_actByDraws : ByteArray := prog_4_method_14_code
def yX2_actByDraws : MethodName := ⟨RX2, "actByDraws", "(LAnsweredFates$Draws;)V"⟩
abbrev cX2_canTake : ByteArray := prog_4_method_15_code
def yX2_canTake : MethodName := ⟨RX2, "canTake", "(II)I"⟩
abbrev cX2_taken : ByteArray := prog_4_method_16_code
def yX2_taken : MethodName := ⟨RX2, "taken", "(II)I"⟩
abbrev cX2_canTakeTogether : ByteArray := prog_4_method_17_code
def yX2_canTakeTogether : MethodName := ⟨RX2, "canTakeTogether", "(I)I"⟩
abbrev cX2_had : ByteArray := prog_4_method_18_code
def yX2_had : MethodName := ⟨RX2, "had", "(I)I"⟩
abbrev cX2_isBorne : ByteArray := prog_4_method_19_code
def yX2_isBorne : MethodName := ⟨RX2, "isBorne", "()Z"⟩
abbrev cX2_madeUp : ByteArray := prog_4_method_20_code
def yX2_madeUp : MethodName := ⟨RX2, "madeUp", "()I"⟩
abbrev cX2_rid : ByteArray := prog_4_method_21_code
def yX2_rid : MethodName := ⟨RX2, "rid", "(I)I"⟩
abbrev cX2_bestFor : ByteArray := prog_4_method_22_code
def yX2_bestFor : MethodName := ⟨RX2, "bestFor", "(I)I"⟩
abbrev cX2_worst : ByteArray := prog_4_method_23_code
def yX2_worst : MethodName := ⟨RX2, "worst", "()I"⟩
abbrev cX2_harmIn : ByteArray := prog_4_method_24_code
def yX2_harmIn : MethodName := ⟨RX2, "harmIn", "(I)I"⟩
abbrev cX2_shareOf : ByteArray := prog_4_method_25_code
def yX2_shareOf : MethodName := ⟨RX2, "shareOf", "(II)I"⟩
abbrev cX2_shareAhead : ByteArray := prog_4_method_26_code
def yX2_shareAhead : MethodName := ⟨RX2, "shareAhead", "(III)I"⟩
abbrev cX2_leastCeiling : ByteArray := prog_4_method_27_code
def yX2_leastCeiling : MethodName := ⟨RX2, "leastCeiling", "(I)I"⟩
abbrev cX2_roomFrom : ByteArray := prog_4_method_28_code
def yX2_roomFrom : MethodName := ⟨RX2, "roomFrom", "(II)I"⟩
def RX3 : String := "AnsweredFates$Draws"
def TX3 : u_T := fun k => match k with
  | _ => ("AnsweredFates$Draws", "seed", "I", false)
def tyX3 : Nat → FieldType := fun k => match k with
  | _ => .int
abbrev wsX30 : List Cond := u_ws RX3 TX3 1
theorem nmX3 : ∀ a, a < 1 → ∀ b, b < 1 → a ≠ b → (TX3 a).2.1 ≠ (TX3 b).2.1 := by decide +kernel
theorem tyX3_ok : ∀ k, k < 1 → parseFieldDescriptor (TX3 k).2.2.1 = some (tyX3 k) := by decide +kernel
abbrev cX3_init : ByteArray := prog_5_method_1_code
def yX3_init : MethodName := ⟨RX3, "<init>", "()V"⟩
abbrev cX3_next : ByteArray := prog_5_method_2_code
def yX3_next : MethodName := ⟨RX3, "next", "(I)I"⟩
def RX4 : String := "AnsweredFates$Hills"
def TX4 : u_T := fun k => match k with
  | 0 => ("AnsweredFates$Hills", "there", "Z", false)
  | 1 => ("AnsweredFates$Hills", "patience", "I", false)
  | 2 => ("AnsweredFates$Hills", "step", "I", false)
  | 3 => ("AnsweredFates$Hills", "villages", "I", false)
  | 4 => ("AnsweredFates$Hills", "persons", "I", false)
  | 5 => ("AnsweredFates$Hills", "kind", "[I", true)
  | 6 => ("AnsweredFates$Hills", "home", "[I", true)
  | 7 => ("AnsweredFates$Hills", "wit", "[I", true)
  | 8 => ("AnsweredFates$Hills", "from", "[I", true)
  | 9 => ("AnsweredFates$Hills", "bear", "[I", true)
  | _ => ("AnsweredFates$Hills", "people", "[I", true)
def tyX4 : Nat → FieldType := fun k => match k with
  | 0 => .boolean
  | 1 => .int
  | 2 => .int
  | 3 => .int
  | 4 => .int
  | 5 => .array .int
  | 6 => .array .int
  | 7 => .array .int
  | 8 => .array .int
  | 9 => .array .int
  | _ => .array .int
abbrev wsX40 : List Cond := u_ws RX4 TX4 11
theorem nmX4 : ∀ a, a < 11 → ∀ b, b < 11 → a ≠ b → (TX4 a).2.1 ≠ (TX4 b).2.1 := by decide +kernel
theorem tyX4_ok : ∀ k, k < 11 → parseFieldDescriptor (TX4 k).2.2.1 = some (tyX4 k) := by decide +kernel
abbrev cX4_init : ByteArray := prog_6_method_1_code
def yX4_init : MethodName := ⟨RX4, "<init>", "()V"⟩
abbrev cX4_clear : ByteArray := prog_6_method_2_code
def yX4_clear : MethodName := ⟨RX4, "clear", "()V"⟩
abbrev cX4_addVillage : ByteArray := prog_6_method_3_code
def yX4_addVillage : MethodName := ⟨RX4, "addVillage", "(I)V"⟩
abbrev cX4_addPerson : ByteArray := prog_6_method_4_code
def yX4_addPerson : MethodName := ⟨RX4, "addPerson", "(IIII)V"⟩
abbrev cX4_settleFrom : ByteArray := prog_6_method_5_code
def yX4_settleFrom : MethodName := ⟨RX4, "settleFrom", "()V"⟩
abbrev cX4_everybody : ByteArray := prog_6_method_6_code
def yX4_everybody : MethodName := ⟨RX4, "everybody", "()I"⟩
abbrev cX4_ringOf : ByteArray := prog_6_method_7_code
def yX4_ringOf : MethodName := ⟨RX4, "ringOf", "(I)I"⟩
abbrev cX4_firstOf : ByteArray := prog_6_method_8_code
def yX4_firstOf : MethodName := ⟨RX4, "firstOf", "(I)I"⟩
def RX5 : String := "AnsweredFates$Images"
def TX5 : u_T := fun k => match k with
  | 0 => ("AnsweredFates$Images", "kept", "[Z", true)
  | 1 => ("AnsweredFates$Images", "states", "[LAnsweredFates$State;", true)
  | _ => ("AnsweredFates$Images", "seeds", "[I", true)
def tyX5 : Nat → FieldType := fun k => match k with
  | 0 => .array .boolean
  | 1 => .array (.object "AnsweredFates$State")
  | _ => .array .int
abbrev wsX50 : List Cond := u_ws RX5 TX5 3
theorem nmX5 : ∀ a, a < 3 → ∀ b, b < 3 → a ≠ b → (TX5 a).2.1 ≠ (TX5 b).2.1 := by decide +kernel
theorem tyX5_ok : ∀ k, k < 3 → parseFieldDescriptor (TX5 k).2.2.1 = some (tyX5 k) := by decide +kernel
abbrev cX5_init : ByteArray := prog_7_method_1_code
def yX5_init : MethodName := ⟨RX5, "<init>", "()V"⟩
abbrev cX5_take : ByteArray := prog_7_method_2_code
def yX5_take : MethodName := ⟨RX5, "take", "(ILAnsweredFates$State;I)V"⟩
abbrev cX5_forget : ByteArray := prog_7_method_3_code
def yX5_forget : MethodName := ⟨RX5, "forget", "()V"⟩
def RX6 : String := "AnsweredFates$Matching"
def TX6 : u_T := fun k => match k with
  | 0 => ("AnsweredFates$Matching", "goer", "[I", true)
  | 1 => ("AnsweredFates$Matching", "left", "[I", true)
  | 2 => ("AnsweredFates$Matching", "least", "[I", true)
  | 3 => ("AnsweredFates$Matching", "course", "LAnsweredFates$Course;", true)
  | _ => ("AnsweredFates$Matching", "persons", "I", false)
def tyX6 : Nat → FieldType := fun k => match k with
  | 0 => .array .int
  | 1 => .array .int
  | 2 => .array .int
  | 3 => .object "AnsweredFates$Course"
  | _ => .int
abbrev wsX60 : List Cond := u_ws RX6 TX6 5
theorem nmX6 : ∀ a, a < 5 → ∀ b, b < 5 → a ≠ b → (TX6 a).2.1 ≠ (TX6 b).2.1 := by decide +kernel
theorem tyX6_ok : ∀ k, k < 5 → parseFieldDescriptor (TX6 k).2.2.1 = some (tyX6 k) := by decide +kernel
abbrev cX6_init : ByteArray := prog_8_method_1_code
def yX6_init : MethodName := ⟨RX6, "<init>", "(LAnsweredFates$Course;)V"⟩
abbrev cX6_work : ByteArray := prog_8_method_2_code
def yX6_work : MethodName := ⟨RX6, "work", "()V"⟩
abbrev cX6_total : ByteArray := prog_8_method_3_code
def yX6_total : MethodName := ⟨RX6, "total", "()I"⟩
abbrev cX6_tryAll : ByteArray := prog_8_method_4_code
def yX6_tryAll : MethodName := ⟨RX6, "tryAll", "()V"⟩
abbrev cX6_leastFrom : ByteArray := prog_8_method_5_code
def yX6_leastFrom : MethodName := ⟨RX6, "leastFrom", "(II)I"⟩
abbrev cX6_mayGo : ByteArray := prog_8_method_6_code
def yX6_mayGo : MethodName := ⟨RX6, "mayGo", "(III)Z"⟩
abbrev cX6_leftWith : ByteArray := prog_8_method_7_code
def yX6_leftWith : MethodName := ⟨RX6, "leftWith", "(III)I"⟩
abbrev cX6_choose : ByteArray := prog_8_method_8_code
def yX6_choose : MethodName := ⟨RX6, "choose", "()V"⟩
abbrev cX6_firstGoer : ByteArray := prog_8_method_9_code
def yX6_firstGoer : MethodName := ⟨RX6, "firstGoer", "(II)I"⟩
def RX7 : String := "AnsweredFates$Past"
def TX7 : u_T := fun k => match k with
  | 0 => ("AnsweredFates$Past", "size", "I", false)
  | 1 => ("AnsweredFates$Past", "oldest", "I", false)
  | _ => ("AnsweredFates$Past", "states", "[LAnsweredFates$State;", true)
def tyX7 : Nat → FieldType := fun k => match k with
  | 0 => .int
  | 1 => .int
  | _ => .array (.object "AnsweredFates$State")
abbrev wsX70 : List Cond := u_ws RX7 TX7 3
theorem nmX7 : ∀ a, a < 3 → ∀ b, b < 3 → a ≠ b → (TX7 a).2.1 ≠ (TX7 b).2.1 := by decide +kernel
theorem tyX7_ok : ∀ k, k < 3 → parseFieldDescriptor (TX7 k).2.2.1 = some (tyX7 k) := by decide +kernel
abbrev cX7_init : ByteArray := prog_9_method_1_code
def yX7_init : MethodName := ⟨RX7, "<init>", "()V"⟩
abbrev cX7_remember : ByteArray := prog_9_method_2_code
def yX7_remember : MethodName := ⟨RX7, "remember", "(LAnsweredFates$State;)V"⟩
abbrev cX7_restore : ByteArray := prog_9_method_3_code
def yX7_restore : MethodName := ⟨RX7, "restore", "(LAnsweredFates$State;)V"⟩
abbrev cX7_forget : ByteArray := prog_9_method_4_code
def yX7_forget : MethodName := ⟨RX7, "forget", "()V"⟩
def RX8 : String := "AnsweredFates$Reader"
def TX8 : u_T := fun k => match k with
  | 0 => ("AnsweredFates$Reader", "text", "[I", true)
  | 1 => ("AnsweredFates$Reader", "length", "I", false)
  | 2 => ("AnsweredFates$Reader", "fault", "I", false)
  | 3 => ("AnsweredFates$Reader", "faultAt", "I", false)
  | 4 => ("AnsweredFates$Reader", "at", "I", false)
  | _ => ("AnsweredFates$Reader", "numberAt", "I", false)
def tyX8 : Nat → FieldType := fun k => match k with
  | 0 => .array .int
  | 1 => .int
  | 2 => .int
  | 3 => .int
  | 4 => .int
  | _ => .int
abbrev wsX80 : List Cond := u_ws RX8 TX8 6
theorem nmX8 : ∀ a, a < 6 → ∀ b, b < 6 → a ≠ b → (TX8 a).2.1 ≠ (TX8 b).2.1 := by decide +kernel
theorem tyX8_ok : ∀ k, k < 6 → parseFieldDescriptor (TX8 k).2.2.1 = some (tyX8 k) := by decide +kernel
abbrev cX8_init : ByteArray := prog_10_method_1_code
def yX8_init : MethodName := ⟨RX8, "<init>", "()V"⟩
abbrev cX8_append : ByteArray := prog_10_method_2_code
def yX8_append : MethodName := ⟨RX8, "append", "(I)V"⟩
abbrev cX8_read : ByteArray := prog_10_method_3_code
def yX8_read : MethodName := ⟨RX8, "read", "(LAnsweredFates$Hills;)V"⟩
abbrev cX8_readClause : ByteArray := prog_10_method_4_code
def yX8_readClause : MethodName := ⟨RX8, "readClause", "(LAnsweredFates$Hills;)V"⟩
abbrev cX8_faultOfWord : ByteArray := prog_10_method_5_code
def yX8_faultOfWord : MethodName := ⟨RX8, "faultOfWord", "(ILAnsweredFates$Hills;)I"⟩
abbrev cX8_readOracle : ByteArray := prog_10_method_6_code
def yX8_readOracle : MethodName := ⟨RX8, "readOracle", "(LAnsweredFates$Hills;)V"⟩
abbrev cX8_readVillage : ByteArray := prog_10_method_7_code
def yX8_readVillage : MethodName := ⟨RX8, "readVillage", "(LAnsweredFates$Hills;)V"⟩
abbrev cX8_readPerson : ByteArray := prog_10_method_8_code
def yX8_readPerson : MethodName := ⟨RX8, "readPerson", "(LAnsweredFates$Hills;)V"⟩
abbrev cX8_readNumber : ByteArray := prog_10_method_9_code
def yX8_readNumber : MethodName := ⟨RX8, "readNumber", "(II)I"⟩
abbrev cX8_readEnd : ByteArray := prog_10_method_10_code
def yX8_readEnd : MethodName := ⟨RX8, "readEnd", "()V"⟩
abbrev cX8_skipBlanks : ByteArray := prog_10_method_11_code
def yX8_skipBlanks : MethodName := ⟨RX8, "skipBlanks", "()V"⟩
abbrev cX8_isFigure : ByteArray := prog_10_method_12_code
def yX8_isFigure : MethodName := ⟨RX8, "isFigure", "(I)Z"⟩
abbrev cX8_letter : ByteArray := prog_10_method_13_code
def yX8_letter : MethodName := ⟨RX8, "letter", "()I"⟩
abbrev cX8_fail : ByteArray := prog_10_method_14_code
def yX8_fail : MethodName := ⟨RX8, "fail", "(II)V"⟩
def RX9 : String := "AnsweredFates$Returns"
def TX9 : u_T := fun k => match k with
  | 0 => ("AnsweredFates$Returns", "size", "I", false)
  | 1 => ("AnsweredFates$Returns", "amount", "[I", true)
  | _ => ("AnsweredFates$Returns", "bear", "[I", true)
def tyX9 : Nat → FieldType := fun k => match k with
  | 0 => .int
  | 1 => .array .int
  | _ => .array .int
abbrev wsX90 : List Cond := u_ws RX9 TX9 3
theorem nmX9 : ∀ a, a < 3 → ∀ b, b < 3 → a ≠ b → (TX9 a).2.1 ≠ (TX9 b).2.1 := by decide +kernel
theorem tyX9_ok : ∀ k, k < 3 → parseFieldDescriptor (TX9 k).2.2.1 = some (tyX9 k) := by decide +kernel
abbrev cX9_init : ByteArray := prog_11_method_1_code
def yX9_init : MethodName := ⟨RX9, "<init>", "()V"⟩
abbrev cX9_add : ByteArray := prog_11_method_2_code
def yX9_add : MethodName := ⟨RX9, "add", "(I[I)V"⟩
abbrev cX9_setsOf : ByteArray := prog_11_method_3_code
def yX9_setsOf : MethodName := ⟨RX9, "setsOf", "(LAnsweredFates$Hills;)I"⟩
abbrev cX9_fits : ByteArray := prog_11_method_4_code
def yX9_fits : MethodName := ⟨RX9, "fits", "(I)Z"⟩
abbrev cX9_takenBy : ByteArray := prog_11_method_5_code
def yX9_takenBy : MethodName := ⟨RX9, "takenBy", "(II)I"⟩
abbrev cX9_countSets : ByteArray := prog_11_method_6_code
def yX9_countSets : MethodName := ⟨RX9, "countSets", "(LAnsweredFates$Hills;)I"⟩
abbrev cX9_countWith : ByteArray := prog_11_method_7_code
def yX9_countWith : MethodName := ⟨RX9, "countWith", "(LAnsweredFates$Hills;I)I"⟩
abbrev cX9_inEach : ByteArray := prog_11_method_8_code
def yX9_inEach : MethodName := ⟨RX9, "inEach", "(LAnsweredFates$Hills;)I"⟩
abbrev cX9_ask : ByteArray := prog_11_method_9_code
def yX9_ask : MethodName := ⟨RX9, "ask", "(LAnsweredFates$Hills;)I"⟩
def RX10 : String := "AnsweredFates$State"
def TX10 : u_T := fun k => match k with
  | 0 => ("AnsweredFates$State", "patience", "I", false)
  | 1 => ("AnsweredFates$State", "owed", "I", false)
  | 2 => ("AnsweredFates$State", "years", "I", false)
  | 3 => ("AnsweredFates$State", "toldThisYear", "I", false)
  | 4 => ("AnsweredFates$State", "wentUp", "I", false)
  | 5 => ("AnsweredFates$State", "fate", "[I", true)
  | 6 => ("AnsweredFates$State", "harm", "[I", true)
  | 7 => ("AnsweredFates$State", "wit", "[I", true)
  | _ => ("AnsweredFates$State", "bear", "[I", true)
def tyX10 : Nat → FieldType := fun k => match k with
  | 0 => .int
  | 1 => .int
  | 2 => .int
  | 3 => .int
  | 4 => .int
  | 5 => .array .int
  | 6 => .array .int
  | 7 => .array .int
  | _ => .array .int
abbrev wsX100 : List Cond := u_ws RX10 TX10 9
theorem nmX10 : ∀ a, a < 9 → ∀ b, b < 9 → a ≠ b → (TX10 a).2.1 ≠ (TX10 b).2.1 := by decide +kernel
theorem tyX10_ok : ∀ k, k < 9 → parseFieldDescriptor (TX10 k).2.2.1 = some (tyX10 k) := by decide +kernel
abbrev cX10_init : ByteArray := prog_12_method_1_code
def yX10_init : MethodName := ⟨RX10, "<init>", "()V"⟩
abbrev cX10_begin : ByteArray := prog_12_method_2_code
def yX10_begin : MethodName := ⟨RX10, "begin", "(LAnsweredFates$Hills;)V"⟩
abbrev cX10_copyFrom : ByteArray := prog_12_method_3_code
def yX10_copyFrom : MethodName := ⟨RX10, "copyFrom", "(LAnsweredFates$State;)V"⟩
abbrev cX10_hurt : ByteArray := prog_12_method_4_code
def yX10_hurt : MethodName := ⟨RX10, "hurt", "(II)V"⟩
def RX11 : String := "AnsweredFates"
def TX11 : u_T := fun k => match k with
  | 0 => ("AnsweredFates", "reader", "LAnsweredFates$Reader;", true)
  | 1 => ("AnsweredFates", "course", "LAnsweredFates$Course;", true)
  | 2 => ("AnsweredFates", "past", "LAnsweredFates$Past;", true)
  | 3 => ("AnsweredFates", "images", "LAnsweredFates$Images;", true)
  | 4 => ("AnsweredFates", "draws", "LAnsweredFates$Draws;", true)
  | 5 => ("AnsweredFates", "returns", "LAnsweredFates$Returns;", true)
  | 6 => ("AnsweredFates", "book", "LAnsweredFates$Book;", true)
  | 7 => ("AnsweredFates", "matching", "LAnsweredFates$Matching;", true)
  | _ => ("AnsweredFates", "draft", "LAnsweredFates$Hills;", false)
def tyX11 : Nat → FieldType := fun k => match k with
  | 0 => .object "AnsweredFates$Reader"
  | 1 => .object "AnsweredFates$Course"
  | 2 => .object "AnsweredFates$Past"
  | 3 => .object "AnsweredFates$Images"
  | 4 => .object "AnsweredFates$Draws"
  | 5 => .object "AnsweredFates$Returns"
  | 6 => .object "AnsweredFates$Book"
  | 7 => .object "AnsweredFates$Matching"
  | _ => .object "AnsweredFates$Hills"
abbrev wsX110 : List Cond := u_ws RX11 TX11 9
theorem nmX11 : ∀ a, a < 9 → ∀ b, b < 9 → a ≠ b → (TX11 a).2.1 ≠ (TX11 b).2.1 := by decide +kernel
theorem tyX11_ok : ∀ k, k < 9 → parseFieldDescriptor (TX11 k).2.2.1 = some (tyX11 k) := by decide +kernel
abbrev cX11_init : ByteArray := prog_1_method_1_code
def yX11_init : MethodName := ⟨RX11, "<init>", "()V"⟩
abbrev cX11_feed : ByteArray := prog_1_method_2_code
def yX11_feed : MethodName := ⟨RX11, "feed", "(I)I"⟩
abbrev cX11_hills : ByteArray := prog_1_method_3_code
def yX11_hills : MethodName := ⟨RX11, "hills", "()I"⟩
abbrev cX11_fault : ByteArray := prog_1_method_4_code
def yX11_fault : MethodName := ⟨RX11, "fault", "()I"⟩
abbrev cX11_told : ByteArray := prog_1_method_5_code
def yX11_told : MethodName := ⟨RX11, "told", "(I)I"⟩
abbrev cX11_person : ByteArray := prog_1_method_6_code
def yX11_person : MethodName := ⟨RX11, "person", "(II)I"⟩
abbrev cX11_village : ByteArray := prog_1_method_7_code
def yX11_village : MethodName := ⟨RX11, "village", "(II)I"⟩
abbrev cX11_tell : ByteArray := prog_1_method_8_code
def yX11_tell : MethodName := ⟨RX11, "tell", "(II)I"⟩
abbrev cX11_answer : ByteArray := prog_1_method_9_code
def yX11_answer : MethodName := ⟨RX11, "answer", "(II)I"⟩
abbrev cX11_year : ByteArray := prog_1_method_10_code
def yX11_year : MethodName := ⟨RX11, "year", "(I)I"⟩
abbrev cX11_wit : ByteArray := prog_1_method_11_code
def yX11_wit : MethodName := ⟨RX11, "wit", "(II)I"⟩
abbrev cX11_bear : ByteArray := prog_1_method_12_code
def yX11_bear : MethodName := ⟨RX11, "bear", "(II)I"⟩
abbrev cX11_drift : ByteArray := prog_1_method_13_code
def yX11_drift : MethodName := ⟨RX11, "drift", "(I)I"⟩
abbrev cX11_undo : ByteArray := prog_1_method_14_code
def yX11_undo : MethodName := ⟨RX11, "undo", "()I"⟩
abbrev cX11_down : ByteArray := prog_1_method_15_code
def yX11_down : MethodName := ⟨RX11, "down", "(III)I"⟩
abbrev cX11_best : ByteArray := prog_1_method_16_code
def yX11_best : MethodName := ⟨RX11, "best", "(I)I"⟩
abbrev cX11_match : ByteArray := prog_1_method_17_code
def yX11_match : MethodName := ⟨RX11, "match", "(I)I"⟩
abbrev cX11_shares : ByteArray := prog_1_method_18_code
def yX11_shares : MethodName := ⟨RX11, "shares", "(II)I"⟩
abbrev cX11_dry : ByteArray := prog_1_method_19_code
def yX11_dry : MethodName := ⟨RX11, "dry", "(II)I"⟩
abbrev cX11_returned : ByteArray := prog_1_method_20_code
def yX11_returned : MethodName := ⟨RX11, "returned", "(I)I"⟩
abbrev cX11_write : ByteArray := prog_1_method_21_code
def yX11_write : MethodName := ⟨RX11, "write", "(II)I"⟩
abbrev cX11_tear : ByteArray := prog_1_method_22_code
def yX11_tear : MethodName := ⟨RX11, "tear", "()I"⟩
abbrev cX11_judge : ByteArray := prog_1_method_23_code
def yX11_judge : MethodName := ⟨RX11, "judge", "()I"⟩
abbrev cX11_seed : ByteArray := prog_1_method_24_code
def yX11_seed : MethodName := ⟨RX11, "seed", "(I)I"⟩
abbrev cX11_keep : ByteArray := prog_1_method_25_code
def yX11_keep : MethodName := ⟨RX11, "keep", "(I)I"⟩
abbrev cX11_goBack : ByteArray := prog_1_method_26_code
def yX11_goBack : MethodName := ⟨RX11, "goBack", "(I)I"⟩
abbrev cX11_refuseYears : ByteArray := prog_1_method_27_code
def yX11_refuseYears : MethodName := ⟨RX11, "refuseYears", "(I)I"⟩
def RX12 : String := "AnsweredFatesModel"
def TX12 : u_T := fun k => match k with
  | 0 => ("AnsweredFatesModel", "patience", "I", false)
  | 1 => ("AnsweredFatesModel", "step", "I", false)
  | 2 => ("AnsweredFatesModel", "villages", "I", false)
  | 3 => ("AnsweredFatesModel", "persons", "I", false)
  | 4 => ("AnsweredFatesModel", "kind", "[I", true)
  | 5 => ("AnsweredFatesModel", "village", "[I", true)
  | 6 => ("AnsweredFatesModel", "from", "[I", true)
  | 7 => ("AnsweredFatesModel", "w", "[I", true)
  | 8 => ("AnsweredFatesModel", "seed", "I", false)
  | 9 => ("AnsweredFatesModel", "text", "[I", true)
  | 10 => ("AnsweredFatesModel", "texted", "I", false)
  | 11 => ("AnsweredFatesModel", "faultPlace", "I", false)
  | 12 => ("AnsweredFatesModel", "at", "I", false)
  | 13 => ("AnsweredFatesModel", "number", "I", false)
  | 14 => ("AnsweredFatesModel", "readPatience", "I", false)
  | 15 => ("AnsweredFatesModel", "readStep", "I", false)
  | 16 => ("AnsweredFatesModel", "readVillages", "I", false)
  | 17 => ("AnsweredFatesModel", "readPersons", "I", false)
  | 18 => ("AnsweredFatesModel", "readBear", "[I", true)
  | 19 => ("AnsweredFatesModel", "readKind", "[I", true)
  | 20 => ("AnsweredFatesModel", "readVillage", "[I", true)
  | 21 => ("AnsweredFatesModel", "readWit", "[I", true)
  | 22 => ("AnsweredFatesModel", "readFrom", "[I", true)
  | 23 => ("AnsweredFatesModel", "turns", "I", false)
  | 24 => ("AnsweredFatesModel", "end", "I", false)
  | 25 => ("AnsweredFatesModel", "undos", "I", false)
  | 26 => ("AnsweredFatesModel", "past", "[I", true)
  | 27 => ("AnsweredFatesModel", "least", "[I", true)
  | 28 => ("AnsweredFatesModel", "returns", "I", false)
  | 29 => ("AnsweredFatesModel", "returnOf", "[I", true)
  | 30 => ("AnsweredFatesModel", "returnBear", "[I", true)
  | 31 => ("AnsweredFatesModel", "booked", "I", false)
  | 32 => ("AnsweredFatesModel", "bookOf", "[I", true)
  | 33 => ("AnsweredFatesModel", "bookHarm", "[I", true)
  | 34 => ("AnsweredFatesModel", "images", "[I", true)
  | _ => ("AnsweredFatesModel", "isKept", "[Z", true)
def tyX12 : Nat → FieldType := fun k => match k with
  | 0 => .int
  | 1 => .int
  | 2 => .int
  | 3 => .int
  | 4 => .array .int
  | 5 => .array .int
  | 6 => .array .int
  | 7 => .array .int
  | 8 => .int
  | 9 => .array .int
  | 10 => .int
  | 11 => .int
  | 12 => .int
  | 13 => .int
  | 14 => .int
  | 15 => .int
  | 16 => .int
  | 17 => .int
  | 18 => .array .int
  | 19 => .array .int
  | 20 => .array .int
  | 21 => .array .int
  | 22 => .array .int
  | 23 => .int
  | 24 => .int
  | 25 => .int
  | 26 => .array .int
  | 27 => .array .int
  | 28 => .int
  | 29 => .array .int
  | 30 => .array .int
  | 31 => .int
  | 32 => .array .int
  | 33 => .array .int
  | 34 => .array .int
  | _ => .array .boolean
abbrev wsX120 : List Cond := u_ws RX12 TX12 36
theorem nmX12 : ∀ a, a < 36 → ∀ b, b < 36 → a ≠ b → (TX12 a).2.1 ≠ (TX12 b).2.1 := by decide +kernel
theorem tyX12_ok : ∀ k, k < 36 → parseFieldDescriptor (TX12 k).2.2.1 = some (tyX12 k) := by decide +kernel
abbrev cX12_init : ByteArray := prog_14_method_1_code
def yX12_init : MethodName := ⟨RX12, "<init>", "()V"⟩
abbrev cX12_in : ByteArray := prog_14_method_3_code
def yX12_in : MethodName := ⟨RX12, "in", "(JJJ)Z"⟩
abbrev cX12_has : ByteArray := prog_14_method_4_code
def yX12_has : MethodName := ⟨RX12, "has", "(II)Z"⟩
abbrev cX12_isHills : ByteArray := prog_14_method_5_code
def yX12_isHills : MethodName := ⟨RX12, "isHills", "()Z"⟩
abbrev cX12_isPerson : ByteArray := prog_14_method_6_code
def yX12_isPerson : MethodName := ⟨RX12, "isPerson", "(I)Z"⟩
abbrev cX12_isVillage : ByteArray := prog_14_method_7_code
def yX12_isVillage : MethodName := ⟨RX12, "isVillage", "(I)Z"⟩
abbrev cX12_feed : ByteArray := prog_14_method_8_code
def yX12_feed : MethodName := ⟨RX12, "feed", "(I)I"⟩
abbrev cX12_here : ByteArray := prog_14_method_9_code
def yX12_here : MethodName := ⟨RX12, "here", "()I"⟩
abbrev cX12_fails : ByteArray := prog_14_method_10_code
def yX12_fails : MethodName := ⟨RX12, "fails", "(II)I"⟩
abbrev cX12_takeNumber : ByteArray := prog_14_method_11_code
def yX12_takeNumber : MethodName := ⟨RX12, "takeNumber", "(II)I"⟩
abbrev cX12_takeOracle : ByteArray := prog_14_method_12_code
def yX12_takeOracle : MethodName := ⟨RX12, "takeOracle", "()I"⟩
abbrev cX12_takeVillage : ByteArray := prog_14_method_13_code
def yX12_takeVillage : MethodName := ⟨RX12, "takeVillage", "()I"⟩
abbrev cX12_takePerson : ByteArray := prog_14_method_14_code
def yX12_takePerson : MethodName := ⟨RX12, "takePerson", "()I"⟩
abbrev cX12_takeClause : ByteArray := prog_14_method_15_code
def yX12_takeClause : MethodName := ⟨RX12, "takeClause", "()I"⟩
abbrev cX12_takeRead : ByteArray := prog_14_method_16_code
def yX12_takeRead : MethodName := ⟨RX12, "takeRead", "()V"⟩
abbrev cX12_hills : ByteArray := prog_14_method_17_code
def yX12_hills : MethodName := ⟨RX12, "hills", "()I"⟩
abbrev cX12_fault : ByteArray := prog_14_method_18_code
def yX12_fault : MethodName := ⟨RX12, "fault", "()I"⟩
abbrev cX12_off : ByteArray := prog_14_method_19_code
def yX12_off : MethodName := ⟨RX12, "off", "(II)I"⟩
abbrev cX12_bargain : ByteArray := prog_14_method_20_code
def yX12_bargain : MethodName := ⟨RX12, "bargain", "(II)I"⟩
abbrev cX12_ridOf : ByteArray := prog_14_method_21_code
def yX12_ridOf : MethodName := ⟨RX12, "ridOf", "(I)I"⟩
abbrev cX12_ofVillage : ByteArray := prog_14_method_22_code
def yX12_ofVillage : MethodName := ⟨RX12, "ofVillage", "(I)I"⟩
abbrev cX12_ones : ByteArray := prog_14_method_23_code
def yX12_ones : MethodName := ⟨RX12, "ones", "(I)I"⟩
abbrev cX12_takes : ByteArray := prog_14_method_24_code
def yX12_takes : MethodName := ⟨RX12, "takes", "(III)I"⟩
abbrev cX12_harms : ByteArray := prog_14_method_25_code
def yX12_harms : MethodName := ⟨RX12, "harms", "(III)V"⟩
abbrev cX12_yearOf : ByteArray := prog_14_method_26_code
def yX12_yearOf : MethodName := ⟨RX12, "yearOf", "(I)V"⟩
abbrev cX12_tries : ByteArray := prog_14_method_27_code
def yX12_tries : MethodName := ⟨RX12, "tries", "()V"⟩
abbrev cX12_had : ByteArray := prog_14_method_28_code
def yX12_had : MethodName := ⟨RX12, "had", "(I)I"⟩
abbrev cX12_borne : ByteArray := prog_14_method_29_code
def yX12_borne : MethodName := ⟨RX12, "borne", "()I"⟩
abbrev cX12_madeUp : ByteArray := prog_14_method_30_code
def yX12_madeUp : MethodName := ⟨RX12, "madeUp", "()I"⟩
abbrev cX12_toldFate : ByteArray := prog_14_method_31_code
def yX12_toldFate : MethodName := ⟨RX12, "toldFate", "()I"⟩
abbrev cX12_worst : ByteArray := prog_14_method_32_code
def yX12_worst : MethodName := ⟨RX12, "worst", "()I"⟩
abbrev cX12_told : ByteArray := prog_14_method_33_code
def yX12_told : MethodName := ⟨RX12, "told", "(I)I"⟩
abbrev cX12_ringOf : ByteArray := prog_14_method_34_code
def yX12_ringOf : MethodName := ⟨RX12, "ringOf", "(I)I"⟩
abbrev cX12_firstOf : ByteArray := prog_14_method_35_code
def yX12_firstOf : MethodName := ⟨RX12, "firstOf", "(I)I"⟩
abbrev cX12_person : ByteArray := prog_14_method_36_code
def yX12_person : MethodName := ⟨RX12, "person", "(II)I"⟩
abbrev cX12_harmOf : ByteArray := prog_14_method_37_code
def yX12_harmOf : MethodName := ⟨RX12, "harmOf", "(I)I"⟩
abbrev cX12_village : ByteArray := prog_14_method_38_code
def yX12_village : MethodName := ⟨RX12, "village", "(II)I"⟩
abbrev cX12_remember : ByteArray := prog_14_method_39_code
def yX12_remember : MethodName := ⟨RX12, "remember", "()V"⟩
abbrev cX12_tells : ByteArray := prog_14_method_40_code
def yX12_tells : MethodName := ⟨RX12, "tells", "(II)I"⟩
abbrev cX12_tell : ByteArray := prog_14_method_41_code
def yX12_tell : MethodName := ⟨RX12, "tell", "(II)I"⟩
abbrev cX12_mayGo : ByteArray := prog_14_method_42_code
def yX12_mayGo : MethodName := ⟨RX12, "mayGo", "(II)Z"⟩
abbrev cX12_answers : ByteArray := prog_14_method_43_code
def yX12_answers : MethodName := ⟨RX12, "answers", "(II)V"⟩
abbrev cX12_answer : ByteArray := prog_14_method_44_code
def yX12_answer : MethodName := ⟨RX12, "answer", "(II)I"⟩
abbrev cX12_year : ByteArray := prog_14_method_45_code
def yX12_year : MethodName := ⟨RX12, "year", "(I)I"⟩
abbrev cX12_wit : ByteArray := prog_14_method_46_code
def yX12_wit : MethodName := ⟨RX12, "wit", "(II)I"⟩
abbrev cX12_bear : ByteArray := prog_14_method_47_code
def yX12_bear : MethodName := ⟨RX12, "bear", "(II)I"⟩
abbrev cX12_draw : ByteArray := prog_14_method_48_code
def yX12_draw : MethodName := ⟨RX12, "draw", "(I)I"⟩
abbrev cX12_chance : ByteArray := prog_14_method_49_code
def yX12_chance : MethodName := ⟨RX12, "chance", "()V"⟩
abbrev cX12_drift : ByteArray := prog_14_method_50_code
def yX12_drift : MethodName := ⟨RX12, "drift", "(I)I"⟩
abbrev cX12_undo : ByteArray := prog_14_method_51_code
def yX12_undo : MethodName := ⟨RX12, "undo", "()I"⟩
abbrev cX12_down : ByteArray := prog_14_method_52_code
def yX12_down : MethodName := ⟨RX12, "down", "(III)I"⟩
abbrev cX12_best : ByteArray := prog_14_method_53_code
def yX12_best : MethodName := ⟨RX12, "best", "(I)I"⟩
abbrev cX12_leftBy : ByteArray := prog_14_method_54_code
def yX12_leftBy : MethodName := ⟨RX12, "leftBy", "(II)I"⟩
abbrev cX12_layLeast : ByteArray := prog_14_method_55_code
def yX12_layLeast : MethodName := ⟨RX12, "layLeast", "()V"⟩
abbrev cX12_goerFor : ByteArray := prog_14_method_56_code
def yX12_goerFor : MethodName := ⟨RX12, "goerFor", "(I)I"⟩
abbrev cX12_match : ByteArray := prog_14_method_57_code
def yX12_match : MethodName := ⟨RX12, "match", "(I)I"⟩
abbrev cX12_levelOf : ByteArray := prog_14_method_58_code
def yX12_levelOf : MethodName := ⟨RX12, "levelOf", "(I)I"⟩
abbrev cX12_sumAt : ByteArray := prog_14_method_59_code
def yX12_sumAt : MethodName := ⟨RX12, "sumAt", "(II)I"⟩
abbrev cX12_shares : ByteArray := prog_14_method_60_code
def yX12_shares : MethodName := ⟨RX12, "shares", "(II)I"⟩
abbrev cX12_dry : ByteArray := prog_14_method_61_code
def yX12_dry : MethodName := ⟨RX12, "dry", "(II)I"⟩
abbrev cX12_returned : ByteArray := prog_14_method_62_code
def yX12_returned : MethodName := ⟨RX12, "returned", "(I)I"⟩
abbrev cX12_mayBe : ByteArray := prog_14_method_63_code
def yX12_mayBe : MethodName := ⟨RX12, "mayBe", "(I)Z"⟩
abbrev cX12_manyWent : ByteArray := prog_14_method_64_code
def yX12_manyWent : MethodName := ⟨RX12, "manyWent", "()I"⟩
abbrev cX12_inEach : ByteArray := prog_14_method_65_code
def yX12_inEach : MethodName := ⟨RX12, "inEach", "()I"⟩
abbrev cX12_askNext : ByteArray := prog_14_method_66_code
def yX12_askNext : MethodName := ⟨RX12, "askNext", "()I"⟩
abbrev cX12_write : ByteArray := prog_14_method_67_code
def yX12_write : MethodName := ⟨RX12, "write", "(II)I"⟩
abbrev cX12_tear : ByteArray := prog_14_method_68_code
def yX12_tear : MethodName := ⟨RX12, "tear", "()I"⟩
abbrev cX12_judge : ByteArray := prog_14_method_69_code
def yX12_judge : MethodName := ⟨RX12, "judge", "()I"⟩
abbrev cX12_seed : ByteArray := prog_14_method_70_code
def yX12_seed : MethodName := ⟨RX12, "seed", "(I)I"⟩
abbrev cX12_keep : ByteArray := prog_14_method_71_code
def yX12_keep : MethodName := ⟨RX12, "keep", "(I)I"⟩
abbrev cX12_goBack : ByteArray := prog_14_method_72_code
def yX12_goBack : MethodName := ⟨RX12, "goBack", "(I)I"⟩
def RJ6 : String := "java/lang/Integer"
def TJ6 : u_T := fun k => match k with
  | _ => ("", "", "", false)
def tyJ6 : Nat → FieldType := fun k => match k with
  | _ => .int
abbrev wsJ60 : List Cond := u_ws RJ6 TJ6 0
theorem nmJ6 : ∀ a, a < 0 → ∀ b, b < 0 → a ≠ b → (TJ6 a).2.1 ≠ (TJ6 b).2.1 := by decide +kernel
theorem tyJ6_ok : ∀ k, k < 0 → parseFieldDescriptor (TJ6 k).2.2.1 = some (tyJ6 k) := by decide +kernel
abbrev cJ6_bitCount_0f7a4 : ByteArray := prog_15_method_49_code
def yJ6_bitCount_0f7a4 : MethodName := ⟨RJ6, "bitCount", "(I)I"⟩
def RJ9 : String := "java/lang/Math"
def TJ9 : u_T := fun k => match k with
  | _ => ("", "", "", false)
def tyJ9 : Nat → FieldType := fun k => match k with
  | _ => .int
abbrev wsJ90 : List Cond := u_ws RJ9 TJ9 0
theorem nmJ9 : ∀ a, a < 0 → ∀ b, b < 0 → a ≠ b → (TJ9 a).2.1 ≠ (TJ9 b).2.1 := by decide +kernel
theorem tyJ9_ok : ∀ k, k < 0 → parseFieldDescriptor (TJ9 k).2.2.1 = some (tyJ9 k) := by decide +kernel
abbrev cJ9_max_7cf53 : ByteArray := prog_16_method_65_code
def yJ9_max_7cf53 : MethodName := ⟨RJ9, "max", "(II)I"⟩
abbrev cJ9_min_7cf53 : ByteArray := prog_16_method_69_code
def yJ9_min_7cf53 : MethodName := ⟨RJ9, "min", "(II)I"⟩
def RJ10 : String := "java/lang/System"
def TJ10 : u_T := fun k => match k with
  | _ => ("", "", "", false)
def tyJ10 : Nat → FieldType := fun k => match k with
  | _ => .int
abbrev wsJ100 : List Cond := u_ws RJ10 TJ10 0
theorem nmJ10 : ∀ a, a < 0 → ∀ b, b < 0 → a ≠ b → (TJ10 a).2.1 ≠ (TJ10 b).2.1 := by decide +kernel
theorem tyJ10_ok : ∀ k, k < 0 → parseFieldDescriptor (TJ10 k).2.2.1 = some (tyJ10 k) := by decide +kernel
def RJ7 : String := "java/util/Arrays"
def TJ7 : u_T := fun k => match k with
  | _ => ("", "", "", false)
def tyJ7 : Nat → FieldType := fun k => match k with
  | _ => .int
abbrev wsJ70 : List Cond := u_ws RJ7 TJ7 0
theorem nmJ7 : ∀ a, a < 0 → ∀ b, b < 0 → a ≠ b → (TJ7 a).2.1 ≠ (TJ7 b).2.1 := by decide +kernel
theorem tyJ7_ok : ∀ k, k < 0 → parseFieldDescriptor (TJ7 k).2.2.1 = some (tyJ7 k) := by decide +kernel
abbrev cJ7_fill_53178 : ByteArray := prog_18_method_103_code
def yJ7_fill_53178 : MethodName := ⟨RJ7, "fill", "([II)V"⟩
def RL : String := "AnsweredFatesLaw"
abbrev cL_law : ByteArray := code
def yL_law : MethodName := ⟨RL, "law", "([I)Z"⟩
abbrev vwCl : List vw_C := [(RX0, TX0, 2), (RX1, TX1, 3), (RX2, TX2, 3), (RX3, TX3, 1), (RX4, TX4, 11), (RX5, TX5, 3), (RX6, TX6, 5), (RX7, TX7, 3), (RX8, TX8, 6), (RX9, TX9, 3), (RX10, TX10, 9), (RX11, TX11, 9), (RX12, TX12, 36)]
end
section
theorem dX0_init_0 : decode cX0_init 0 = .ok (.aload_n 0, 1) := by decide +kernel
theorem dX0_init_1 : decode cX0_init 1 = .ok (.invokespecial 3, 3) := by decide +kernel
theorem dX0_init_4 : decode cX0_init 4 = .ok (.return_, 1) := by decide +kernel
theorem dX0_hold_0 : decode cX0_hold 0 = .ok (.aload_n 0, 1) := by decide +kernel
theorem dX0_hold_1 : decode cX0_hold 1 = .ok (.iload_n 1, 1) := by decide +kernel
theorem dX0_hold_2 : decode cX0_hold 2 = .ok (.putfield 9, 3) := by decide +kernel
theorem dX0_hold_5 : decode cX0_hold 5 = .ok (.aload_n 0, 1) := by decide +kernel
theorem dX0_hold_6 : decode cX0_hold 6 = .ok (.iconst 0, 1) := by decide +kernel
theorem dX0_hold_7 : decode cX0_hold 7 = .ok (.putfield 15, 3) := by decide +kernel
theorem dX0_hold_10 : decode cX0_hold 10 = .ok (.iconst 0, 1) := by decide +kernel
theorem dX0_hold_11 : decode cX0_hold 11 = .ok (.istore 6, 2) := by decide +kernel
theorem dX0_hold_13 : decode cX0_hold 13 = .ok (.iload 6, 2) := by decide +kernel
theorem dX0_hold_15 : decode cX0_hold 15 = .ok (.iload 4, 2) := by decide +kernel
theorem dX0_hold_17 : decode cX0_hold 17 = .ok (.if_icmp .ge 98, 3) := by decide +kernel
theorem dX0_hold_20 : decode cX0_hold 20 = .ok (.aload_n 0, 1) := by decide +kernel
theorem dX0_hold_21 : decode cX0_hold 21 = .ok (.getfield 9, 3) := by decide +kernel
theorem dX0_hold_24 : decode cX0_hold 24 = .ok (.ifCond .le 91, 3) := by decide +kernel
theorem dX0_hold_27 : decode cX0_hold 27 = .ok (.aload_n 0, 1) := by decide +kernel
theorem dX0_hold_28 : decode cX0_hold 28 = .ok (.iconst 0, 1) := by decide +kernel
theorem dX0_hold_29 : decode cX0_hold 29 = .ok (.aload_n 0, 1) := by decide +kernel
theorem dX0_hold_30 : decode cX0_hold 30 = .ok (.getfield 9, 3) := by decide +kernel
theorem dX0_hold_33 : decode cX0_hold 33 = .ok (.iload_n 2, 1) := by decide +kernel
theorem dX0_hold_34 : decode cX0_hold 34 = .ok (.iload_n 3, 1) := by decide +kernel
theorem dX0_hold_35 : decode cX0_hold 35 = .ok (.iload 5, 2) := by decide +kernel
theorem dX0_hold_37 : decode cX0_hold 37 = .ok (.iload 6, 2) := by decide +kernel
theorem dX0_hold_39 : decode cX0_hold 39 = .ok (.invokestatic 18, 3) := by decide +kernel
theorem dX0_hold_42 : decode cX0_hold 42 = .ok (.isub, 1) := by decide +kernel
theorem dX0_hold_43 : decode cX0_hold 43 = .ok (.invokestatic 22, 3) := by decide +kernel
theorem dX0_hold_46 : decode cX0_hold 46 = .ok (.putfield 9, 3) := by decide +kernel
theorem dX0_hold_49 : decode cX0_hold 49 = .ok (.aload_n 0, 1) := by decide +kernel
theorem dX0_hold_50 : decode cX0_hold 50 = .ok (.iload 6, 2) := by decide +kernel
theorem dX0_hold_52 : decode cX0_hold 52 = .ok (.iconst 1, 1) := by decide +kernel
theorem dX0_hold_53 : decode cX0_hold 53 = .ok (.iadd, 1) := by decide +kernel
theorem dX0_hold_54 : decode cX0_hold 54 = .ok (.putfield 15, 3) := by decide +kernel
theorem dX0_hold_57 : decode cX0_hold 57 = .ok (.aload_n 0, 1) := by decide +kernel
theorem dX0_hold_58 : decode cX0_hold 58 = .ok (.getfield 15, 3) := by decide +kernel
theorem dX0_hold_61 : decode cX0_hold 61 = .ok (.iload 4, 2) := by decide +kernel
theorem dX0_hold_63 : decode cX0_hold 63 = .ok (.if_icmp .ge 14, 3) := by decide +kernel
theorem dX0_hold_66 : decode cX0_hold 66 = .ok (.aload_n 0, 1) := by decide +kernel
theorem dX0_hold_67 : decode cX0_hold 67 = .ok (.getfield 9, 3) := by decide +kernel
theorem dX0_hold_70 : decode cX0_hold 70 = .ok (.ifCond .le 7, 3) := by decide +kernel
theorem dX0_hold_73 : decode cX0_hold 73 = .ok (.iconst 1, 1) := by decide +kernel
theorem dX0_hold_74 : decode cX0_hold 74 = .ok (.goto 4, 3) := by decide +kernel
theorem dX0_hold_77 : decode cX0_hold 77 = .ok (.iconst 0, 1) := by decide +kernel
theorem dX0_hold_78 : decode cX0_hold 78 = .ok (.istore 7, 2) := by decide +kernel
theorem dX0_hold_80 : decode cX0_hold 80 = .ok (.iload 7, 2) := by decide +kernel
theorem dX0_hold_82 : decode cX0_hold 82 = .ok (.ifCond .eq 27, 3) := by decide +kernel
theorem dX0_hold_85 : decode cX0_hold 85 = .ok (.iload 6, 2) := by decide +kernel
theorem dX0_hold_87 : decode cX0_hold 87 = .ok (.iconst 3, 1) := by decide +kernel
theorem dX0_hold_88 : decode cX0_hold 88 = .ok (.irem, 1) := by decide +kernel
theorem dX0_hold_89 : decode cX0_hold 89 = .ok (.iconst 2, 1) := by decide +kernel
theorem dX0_hold_90 : decode cX0_hold 90 = .ok (.if_icmp .ne 19, 3) := by decide +kernel
theorem dX0_hold_93 : decode cX0_hold 93 = .ok (.aload_n 0, 1) := by decide +kernel
theorem dX0_hold_94 : decode cX0_hold 94 = .ok (.bipush 99, 2) := by decide +kernel
theorem dX0_hold_96 : decode cX0_hold 96 = .ok (.aload_n 0, 1) := by decide +kernel
theorem dX0_hold_97 : decode cX0_hold 97 = .ok (.getfield 9, 3) := by decide +kernel
theorem dX0_hold_100 : decode cX0_hold 100 = .ok (.iload 5, 2) := by decide +kernel
theorem dX0_hold_102 : decode cX0_hold 102 = .ok (.iadd, 1) := by decide +kernel
theorem dX0_hold_103 : decode cX0_hold 103 = .ok (.invokestatic 28, 3) := by decide +kernel
theorem dX0_hold_106 : decode cX0_hold 106 = .ok (.putfield 9, 3) := by decide +kernel
theorem dX0_hold_109 : decode cX0_hold 109 = .ok (.iinc 6 1, 3) := by decide +kernel
theorem dX0_hold_112 : decode cX0_hold 112 = .ok (.goto (-99), 3) := by decide +kernel
theorem dX0_hold_115 : decode cX0_hold 115 = .ok (.return_, 1) := by decide +kernel
theorem dX0_gotOff_0 : decode cX0_gotOff 0 = .ok (.iload_n 0, 1) := by decide +kernel
theorem dX0_gotOff_1 : decode cX0_gotOff 1 = .ok (.tableswitch 51 1 3 #[27, 31, 43], 27) := by decide +kernel
theorem dX0_gotOff_28 : decode cX0_gotOff 28 = .ok (.iload_n 1, 1) := by decide +kernel
theorem dX0_gotOff_29 : decode cX0_gotOff 29 = .ok (.iload_n 3, 1) := by decide +kernel
theorem dX0_gotOff_30 : decode cX0_gotOff 30 = .ok (.iadd, 1) := by decide +kernel
theorem dX0_gotOff_31 : decode cX0_gotOff 31 = .ok (.ireturn, 1) := by decide +kernel
theorem dX0_gotOff_32 : decode cX0_gotOff 32 = .ok (.iload_n 3, 1) := by decide +kernel
theorem dX0_gotOff_33 : decode cX0_gotOff 33 = .ok (.iconst 2, 1) := by decide +kernel
theorem dX0_gotOff_34 : decode cX0_gotOff 34 = .ok (.irem, 1) := by decide +kernel
theorem dX0_gotOff_35 : decode cX0_gotOff 35 = .ok (.ifCond .ne 7, 3) := by decide +kernel
theorem dX0_gotOff_38 : decode cX0_gotOff 38 = .ok (.iload_n 1, 1) := by decide +kernel
theorem dX0_gotOff_39 : decode cX0_gotOff 39 = .ok (.goto 4, 3) := by decide +kernel
theorem dX0_gotOff_42 : decode cX0_gotOff 42 = .ok (.iconst 0, 1) := by decide +kernel
theorem dX0_gotOff_43 : decode cX0_gotOff 43 = .ok (.ireturn, 1) := by decide +kernel
theorem dX0_gotOff_44 : decode cX0_gotOff 44 = .ok (.iconst 2, 1) := by decide +kernel
theorem dX0_gotOff_45 : decode cX0_gotOff 45 = .ok (.iload_n 1, 1) := by decide +kernel
theorem dX0_gotOff_46 : decode cX0_gotOff 46 = .ok (.imul, 1) := by decide +kernel
theorem dX0_gotOff_47 : decode cX0_gotOff 47 = .ok (.iload_n 2, 1) := by decide +kernel
theorem dX0_gotOff_48 : decode cX0_gotOff 48 = .ok (.iconst 2, 1) := by decide +kernel
theorem dX0_gotOff_49 : decode cX0_gotOff 49 = .ok (.idiv, 1) := by decide +kernel
theorem dX0_gotOff_50 : decode cX0_gotOff 50 = .ok (.iadd, 1) := by decide +kernel
theorem dX0_gotOff_51 : decode cX0_gotOff 51 = .ok (.ireturn, 1) := by decide +kernel
theorem dX0_gotOff_52 : decode cX0_gotOff 52 = .ok (.iload_n 1, 1) := by decide +kernel
theorem dX0_gotOff_53 : decode cX0_gotOff 53 = .ok (.ireturn, 1) := by decide +kernel
theorem dX1_init_0 : decode cX1_init 0 = .ok (.aload_n 0, 1) := by decide +kernel
theorem dX1_init_1 : decode cX1_init 1 = .ok (.invokespecial 3, 3) := by decide +kernel
theorem dX1_init_4 : decode cX1_init 4 = .ok (.aload_n 0, 1) := by decide +kernel
theorem dX1_init_5 : decode cX1_init 5 = .ok (.bipush 15, 2) := by decide +kernel
theorem dX1_init_7 : decode cX1_init 7 = .ok (.newarray .int, 2) := by decide +kernel
theorem dX1_init_9 : decode cX1_init 9 = .ok (.putfield 9, 3) := by decide +kernel
theorem dX1_init_12 : decode cX1_init 12 = .ok (.aload_n 0, 1) := by decide +kernel
theorem dX1_init_13 : decode cX1_init 13 = .ok (.bipush 15, 2) := by decide +kernel
theorem dX1_init_15 : decode cX1_init 15 = .ok (.newarray .int, 2) := by decide +kernel
theorem dX1_init_17 : decode cX1_init 17 = .ok (.putfield 15, 3) := by decide +kernel
theorem dX1_init_20 : decode cX1_init 20 = .ok (.return_, 1) := by decide +kernel
theorem dX1_add_0 : decode cX1_add 0 = .ok (.aload_n 0, 1) := by decide +kernel
theorem dX1_add_1 : decode cX1_add 1 = .ok (.getfield 18, 3) := by decide +kernel
theorem dX1_add_4 : decode cX1_add 4 = .ok (.bipush 15, 2) := by decide +kernel
theorem dX1_add_6 : decode cX1_add 6 = .ok (.if_icmp .lt 4, 3) := by decide +kernel
theorem dX1_add_9 : decode cX1_add 9 = .ok (.return_, 1) := by decide +kernel
theorem dX1_add_10 : decode cX1_add 10 = .ok (.aload_n 0, 1) := by decide +kernel
theorem dX1_add_11 : decode cX1_add 11 = .ok (.getfield 9, 3) := by decide +kernel
theorem dX1_add_14 : decode cX1_add 14 = .ok (.aload_n 0, 1) := by decide +kernel
theorem dX1_add_15 : decode cX1_add 15 = .ok (.getfield 18, 3) := by decide +kernel
theorem dX1_add_18 : decode cX1_add 18 = .ok (.iload_n 1, 1) := by decide +kernel
theorem dX1_add_19 : decode cX1_add 19 = .ok (.iastore, 1) := by decide +kernel
theorem dX1_add_20 : decode cX1_add 20 = .ok (.aload_n 0, 1) := by decide +kernel
theorem dX1_add_21 : decode cX1_add 21 = .ok (.getfield 15, 3) := by decide +kernel
theorem dX1_add_24 : decode cX1_add 24 = .ok (.aload_n 0, 1) := by decide +kernel
theorem dX1_add_25 : decode cX1_add 25 = .ok (.getfield 18, 3) := by decide +kernel
theorem dX1_add_28 : decode cX1_add 28 = .ok (.iload_n 2, 1) := by decide +kernel
theorem dX1_add_29 : decode cX1_add 29 = .ok (.iastore, 1) := by decide +kernel
theorem dX1_add_30 : decode cX1_add 30 = .ok (.aload_n 0, 1) := by decide +kernel
theorem dX1_add_31 : decode cX1_add 31 = .ok (.dup, 1) := by decide +kernel
theorem dX1_add_32 : decode cX1_add 32 = .ok (.getfield 18, 3) := by decide +kernel
theorem dX1_add_35 : decode cX1_add 35 = .ok (.iconst 1, 1) := by decide +kernel
theorem dX1_add_36 : decode cX1_add 36 = .ok (.iadd, 1) := by decide +kernel
theorem dX1_add_37 : decode cX1_add 37 = .ok (.putfield 18, 3) := by decide +kernel
theorem dX1_add_40 : decode cX1_add 40 = .ok (.return_, 1) := by decide +kernel
theorem dX1_firstFalse_0 : decode cX1_firstFalse 0 = .ok (.iconst 0, 1) := by decide +kernel
theorem dX1_firstFalse_1 : decode cX1_firstFalse 1 = .ok (.istore_n 2, 1) := by decide +kernel
theorem dX1_firstFalse_2 : decode cX1_firstFalse 2 = .ok (.iload_n 2, 1) := by decide +kernel
theorem dX1_firstFalse_3 : decode cX1_firstFalse 3 = .ok (.aload_n 0, 1) := by decide +kernel
theorem dX1_firstFalse_4 : decode cX1_firstFalse 4 = .ok (.getfield 18, 3) := by decide +kernel
theorem dX1_firstFalse_7 : decode cX1_firstFalse 7 = .ok (.if_icmp .ge 28, 3) := by decide +kernel
theorem dX1_firstFalse_10 : decode cX1_firstFalse 10 = .ok (.aload_n 1, 1) := by decide +kernel
theorem dX1_firstFalse_11 : decode cX1_firstFalse 11 = .ok (.aload_n 0, 1) := by decide +kernel
theorem dX1_firstFalse_12 : decode cX1_firstFalse 12 = .ok (.getfield 9, 3) := by decide +kernel
theorem dX1_firstFalse_15 : decode cX1_firstFalse 15 = .ok (.iload_n 2, 1) := by decide +kernel
theorem dX1_firstFalse_16 : decode cX1_firstFalse 16 = .ok (.iaload, 1) := by decide +kernel
theorem dX1_firstFalse_17 : decode cX1_firstFalse 17 = .ok (.iaload, 1) := by decide +kernel
theorem dX1_firstFalse_18 : decode cX1_firstFalse 18 = .ok (.aload_n 0, 1) := by decide +kernel
theorem dX1_firstFalse_19 : decode cX1_firstFalse 19 = .ok (.getfield 15, 3) := by decide +kernel
theorem dX1_firstFalse_22 : decode cX1_firstFalse 22 = .ok (.iload_n 2, 1) := by decide +kernel
theorem dX1_firstFalse_23 : decode cX1_firstFalse 23 = .ok (.iaload, 1) := by decide +kernel
theorem dX1_firstFalse_24 : decode cX1_firstFalse 24 = .ok (.if_icmp .eq 5, 3) := by decide +kernel
theorem dX1_firstFalse_27 : decode cX1_firstFalse 27 = .ok (.iload_n 2, 1) := by decide +kernel
theorem dX1_firstFalse_28 : decode cX1_firstFalse 28 = .ok (.ireturn, 1) := by decide +kernel
theorem dX1_firstFalse_29 : decode cX1_firstFalse 29 = .ok (.iinc 2 1, 3) := by decide +kernel
theorem dX1_firstFalse_32 : decode cX1_firstFalse 32 = .ok (.goto (-30), 3) := by decide +kernel
theorem dX1_firstFalse_35 : decode cX1_firstFalse 35 = .ok (.iconst (-1), 1) := by decide +kernel
theorem dX1_firstFalse_36 : decode cX1_firstFalse 36 = .ok (.ireturn, 1) := by decide +kernel
theorem dX2_init_0 : decode cX2_init 0 = .ok (.aload_n 0, 1) := by decide +kernel
theorem dX2_init_1 : decode cX2_init 1 = .ok (.invokespecial 3, 3) := by decide +kernel
theorem dX2_init_4 : decode cX2_init 4 = .ok (.aload_n 0, 1) := by decide +kernel
theorem dX2_init_5 : decode cX2_init 5 = .ok (.new 9, 3) := by decide +kernel
theorem dX2_init_8 : decode cX2_init 8 = .ok (.dup, 1) := by decide +kernel
theorem dX2_init_9 : decode cX2_init 9 = .ok (.invokespecial 11, 3) := by decide +kernel
theorem dX2_init_12 : decode cX2_init 12 = .ok (.putfield 12, 3) := by decide +kernel
theorem dX2_init_15 : decode cX2_init 15 = .ok (.aload_n 0, 1) := by decide +kernel
theorem dX2_init_16 : decode cX2_init 16 = .ok (.new 18, 3) := by decide +kernel
theorem dX2_init_19 : decode cX2_init 19 = .ok (.dup, 1) := by decide +kernel
theorem dX2_init_20 : decode cX2_init 20 = .ok (.invokespecial 20, 3) := by decide +kernel
theorem dX2_init_23 : decode cX2_init 23 = .ok (.putfield 21, 3) := by decide +kernel
theorem dX2_init_26 : decode cX2_init 26 = .ok (.aload_n 0, 1) := by decide +kernel
theorem dX2_init_27 : decode cX2_init 27 = .ok (.new 25, 3) := by decide +kernel
theorem dX2_init_30 : decode cX2_init 30 = .ok (.dup, 1) := by decide +kernel
theorem dX2_init_31 : decode cX2_init 31 = .ok (.invokespecial 27, 3) := by decide +kernel
theorem dX2_init_34 : decode cX2_init 34 = .ok (.putfield 28, 3) := by decide +kernel
theorem dX2_init_37 : decode cX2_init 37 = .ok (.return_, 1) := by decide +kernel
theorem dX2_isPerson_0 : decode cX2_isPerson 0 = .ok (.iload_n 1, 1) := by decide +kernel
theorem dX2_isPerson_1 : decode cX2_isPerson 1 = .ok (.ifCond .lt 18, 3) := by decide +kernel
theorem dX2_isPerson_4 : decode cX2_isPerson 4 = .ok (.iload_n 1, 1) := by decide +kernel
theorem dX2_isPerson_5 : decode cX2_isPerson 5 = .ok (.aload_n 0, 1) := by decide +kernel
theorem dX2_isPerson_6 : decode cX2_isPerson 6 = .ok (.getfield 12, 3) := by decide +kernel
theorem dX2_isPerson_9 : decode cX2_isPerson 9 = .ok (.getfield 32, 3) := by decide +kernel
theorem dX2_isPerson_12 : decode cX2_isPerson 12 = .ok (.if_icmp .ge 7, 3) := by decide +kernel
theorem dX2_isPerson_15 : decode cX2_isPerson 15 = .ok (.iconst 1, 1) := by decide +kernel
theorem dX2_isPerson_16 : decode cX2_isPerson 16 = .ok (.goto 4, 3) := by decide +kernel
theorem dX2_isPerson_19 : decode cX2_isPerson 19 = .ok (.iconst 0, 1) := by decide +kernel
theorem dX2_isPerson_20 : decode cX2_isPerson 20 = .ok (.ireturn, 1) := by decide +kernel
theorem dX2_isVillage_0 : decode cX2_isVillage 0 = .ok (.iload_n 1, 1) := by decide +kernel
theorem dX2_isVillage_1 : decode cX2_isVillage 1 = .ok (.ifCond .lt 18, 3) := by decide +kernel
theorem dX2_isVillage_4 : decode cX2_isVillage 4 = .ok (.iload_n 1, 1) := by decide +kernel
theorem dX2_isVillage_5 : decode cX2_isVillage 5 = .ok (.aload_n 0, 1) := by decide +kernel
theorem dX2_isVillage_6 : decode cX2_isVillage 6 = .ok (.getfield 12, 3) := by decide +kernel
theorem dX2_isVillage_9 : decode cX2_isVillage 9 = .ok (.getfield 36, 3) := by decide +kernel
theorem dX2_isVillage_12 : decode cX2_isVillage 12 = .ok (.if_icmp .ge 7, 3) := by decide +kernel
theorem dX2_isVillage_15 : decode cX2_isVillage 15 = .ok (.iconst 1, 1) := by decide +kernel
theorem dX2_isVillage_16 : decode cX2_isVillage 16 = .ok (.goto 4, 3) := by decide +kernel
theorem dX2_isVillage_19 : decode cX2_isVillage 19 = .ok (.iconst 0, 1) := by decide +kernel
theorem dX2_isVillage_20 : decode cX2_isVillage 20 = .ok (.ireturn, 1) := by decide +kernel
theorem dX2_untold_0 : decode cX2_untold 0 = .ok (.aload_n 0, 1) := by decide +kernel
theorem dX2_untold_1 : decode cX2_untold 1 = .ok (.getfield 12, 3) := by decide +kernel
theorem dX2_untold_4 : decode cX2_untold 4 = .ok (.invokevirtual 39, 3) := by decide +kernel
theorem dX2_untold_7 : decode cX2_untold 7 = .ok (.aload_n 0, 1) := by decide +kernel
theorem dX2_untold_8 : decode cX2_untold 8 = .ok (.getfield 21, 3) := by decide +kernel
theorem dX2_untold_11 : decode cX2_untold 11 = .ok (.getfield 43, 3) := by decide +kernel
theorem dX2_untold_14 : decode cX2_untold 14 = .ok (.iconst (-1), 1) := by decide +kernel
theorem dX2_untold_15 : decode cX2_untold 15 = .ok (.ixor, 1) := by decide +kernel
theorem dX2_untold_16 : decode cX2_untold 16 = .ok (.iand, 1) := by decide +kernel
theorem dX2_untold_17 : decode cX2_untold 17 = .ok (.ireturn, 1) := by decide +kernel
theorem dX2_fateful_0 : decode cX2_fateful 0 = .ok (.iconst 0, 1) := by decide +kernel
theorem dX2_fateful_1 : decode cX2_fateful 1 = .ok (.istore_n 1, 1) := by decide +kernel
theorem dX2_fateful_2 : decode cX2_fateful 2 = .ok (.iconst 0, 1) := by decide +kernel
theorem dX2_fateful_3 : decode cX2_fateful 3 = .ok (.istore_n 2, 1) := by decide +kernel
theorem dX2_fateful_4 : decode cX2_fateful 4 = .ok (.iload_n 2, 1) := by decide +kernel
theorem dX2_fateful_5 : decode cX2_fateful 5 = .ok (.aload_n 0, 1) := by decide +kernel
theorem dX2_fateful_6 : decode cX2_fateful 6 = .ok (.getfield 12, 3) := by decide +kernel
theorem dX2_fateful_9 : decode cX2_fateful 9 = .ok (.getfield 32, 3) := by decide +kernel
theorem dX2_fateful_12 : decode cX2_fateful 12 = .ok (.if_icmp .ge 27, 3) := by decide +kernel
theorem dX2_fateful_15 : decode cX2_fateful 15 = .ok (.aload_n 0, 1) := by decide +kernel
theorem dX2_fateful_16 : decode cX2_fateful 16 = .ok (.getfield 21, 3) := by decide +kernel
theorem dX2_fateful_19 : decode cX2_fateful 19 = .ok (.getfield 46, 3) := by decide +kernel
theorem dX2_fateful_22 : decode cX2_fateful 22 = .ok (.iload_n 2, 1) := by decide +kernel
theorem dX2_fateful_23 : decode cX2_fateful 23 = .ok (.iaload, 1) := by decide +kernel
theorem dX2_fateful_24 : decode cX2_fateful 24 = .ok (.ifCond .le 9, 3) := by decide +kernel
theorem dX2_fateful_27 : decode cX2_fateful 27 = .ok (.iload_n 1, 1) := by decide +kernel
theorem dX2_fateful_28 : decode cX2_fateful 28 = .ok (.iconst 1, 1) := by decide +kernel
theorem dX2_fateful_29 : decode cX2_fateful 29 = .ok (.iload_n 2, 1) := by decide +kernel
theorem dX2_fateful_30 : decode cX2_fateful 30 = .ok (.ishl, 1) := by decide +kernel
theorem dX2_fateful_31 : decode cX2_fateful 31 = .ok (.ior, 1) := by decide +kernel
theorem dX2_fateful_32 : decode cX2_fateful 32 = .ok (.istore_n 1, 1) := by decide +kernel
theorem dX2_fateful_33 : decode cX2_fateful 33 = .ok (.iinc 2 1, 3) := by decide +kernel
theorem dX2_fateful_36 : decode cX2_fateful 36 = .ok (.goto (-32), 3) := by decide +kernel
theorem dX2_fateful_39 : decode cX2_fateful 39 = .ok (.iload_n 1, 1) := by decide +kernel
theorem dX2_fateful_40 : decode cX2_fateful 40 = .ok (.ireturn, 1) := by decide +kernel
theorem dX2_canGoUp_0 : decode cX2_canGoUp 0 = .ok (.aload_n 0, 1) := by decide +kernel
theorem dX2_canGoUp_1 : decode cX2_canGoUp 1 = .ok (.getfield 21, 3) := by decide +kernel
theorem dX2_canGoUp_4 : decode cX2_canGoUp 4 = .ok (.getfield 50, 3) := by decide +kernel
theorem dX2_canGoUp_7 : decode cX2_canGoUp 7 = .ok (.iload_n 1, 1) := by decide +kernel
theorem dX2_canGoUp_8 : decode cX2_canGoUp 8 = .ok (.ishr, 1) := by decide +kernel
theorem dX2_canGoUp_9 : decode cX2_canGoUp 9 = .ok (.iconst 1, 1) := by decide +kernel
theorem dX2_canGoUp_10 : decode cX2_canGoUp 10 = .ok (.iand, 1) := by decide +kernel
theorem dX2_canGoUp_11 : decode cX2_canGoUp 11 = .ok (.ifCond .ne 7, 3) := by decide +kernel
theorem dX2_canGoUp_14 : decode cX2_canGoUp 14 = .ok (.iconst 1, 1) := by decide +kernel
theorem dX2_canGoUp_15 : decode cX2_canGoUp 15 = .ok (.goto 4, 3) := by decide +kernel
theorem dX2_canGoUp_18 : decode cX2_canGoUp 18 = .ok (.iconst 0, 1) := by decide +kernel
theorem dX2_canGoUp_19 : decode cX2_canGoUp 19 = .ok (.ireturn, 1) := by decide +kernel
theorem dX2_canAnswer_0 : decode cX2_canAnswer 0 = .ok (.aload_n 0, 1) := by decide +kernel
theorem dX2_canAnswer_1 : decode cX2_canAnswer 1 = .ok (.getfield 21, 3) := by decide +kernel
theorem dX2_canAnswer_4 : decode cX2_canAnswer 4 = .ok (.getfield 46, 3) := by decide +kernel
theorem dX2_canAnswer_7 : decode cX2_canAnswer 7 = .ok (.iload_n 1, 1) := by decide +kernel
theorem dX2_canAnswer_8 : decode cX2_canAnswer 8 = .ok (.iaload, 1) := by decide +kernel
theorem dX2_canAnswer_9 : decode cX2_canAnswer 9 = .ok (.ifCond .le 15, 3) := by decide +kernel
theorem dX2_canAnswer_12 : decode cX2_canAnswer 12 = .ok (.aload_n 0, 1) := by decide +kernel
theorem dX2_canAnswer_13 : decode cX2_canAnswer 13 = .ok (.iload_n 2, 1) := by decide +kernel
theorem dX2_canAnswer_14 : decode cX2_canAnswer 14 = .ok (.invokevirtual 53, 3) := by decide +kernel
theorem dX2_canAnswer_17 : decode cX2_canAnswer 17 = .ok (.ifCond .eq 7, 3) := by decide +kernel
theorem dX2_canAnswer_20 : decode cX2_canAnswer 20 = .ok (.iconst 1, 1) := by decide +kernel
theorem dX2_canAnswer_21 : decode cX2_canAnswer 21 = .ok (.goto 4, 3) := by decide +kernel
theorem dX2_canAnswer_24 : decode cX2_canAnswer 24 = .ok (.iconst 0, 1) := by decide +kernel
theorem dX2_canAnswer_25 : decode cX2_canAnswer 25 = .ok (.ireturn, 1) := by decide +kernel
theorem dX2_bargainBy_0 : decode cX2_bargainBy 0 = .ok (.aload_n 0, 1) := by decide +kernel
theorem dX2_bargainBy_1 : decode cX2_bargainBy 1 = .ok (.getfield 28, 3) := by decide +kernel
theorem dX2_bargainBy_4 : decode cX2_bargainBy 4 = .ok (.iload_n 2, 1) := by decide +kernel
theorem dX2_bargainBy_5 : decode cX2_bargainBy 5 = .ok (.aload_n 0, 1) := by decide +kernel
theorem dX2_bargainBy_6 : decode cX2_bargainBy 6 = .ok (.getfield 12, 3) := by decide +kernel
theorem dX2_bargainBy_9 : decode cX2_bargainBy 9 = .ok (.getfield 57, 3) := by decide +kernel
theorem dX2_bargainBy_12 : decode cX2_bargainBy 12 = .ok (.iload_n 1, 1) := by decide +kernel
theorem dX2_bargainBy_13 : decode cX2_bargainBy 13 = .ok (.iaload, 1) := by decide +kernel
theorem dX2_bargainBy_14 : decode cX2_bargainBy 14 = .ok (.aload_n 0, 1) := by decide +kernel
theorem dX2_bargainBy_15 : decode cX2_bargainBy 15 = .ok (.getfield 21, 3) := by decide +kernel
theorem dX2_bargainBy_18 : decode cX2_bargainBy 18 = .ok (.getfield 60, 3) := by decide +kernel
theorem dX2_bargainBy_21 : decode cX2_bargainBy 21 = .ok (.iload_n 1, 1) := by decide +kernel
theorem dX2_bargainBy_22 : decode cX2_bargainBy 22 = .ok (.iaload, 1) := by decide +kernel
theorem dX2_bargainBy_23 : decode cX2_bargainBy 23 = .ok (.aload_n 0, 1) := by decide +kernel
theorem dX2_bargainBy_24 : decode cX2_bargainBy 24 = .ok (.getfield 21, 3) := by decide +kernel
theorem dX2_bargainBy_27 : decode cX2_bargainBy 27 = .ok (.getfield 63, 3) := by decide +kernel
theorem dX2_bargainBy_30 : decode cX2_bargainBy 30 = .ok (.aload_n 0, 1) := by decide +kernel
theorem dX2_bargainBy_31 : decode cX2_bargainBy 31 = .ok (.getfield 12, 3) := by decide +kernel
theorem dX2_bargainBy_34 : decode cX2_bargainBy 34 = .ok (.getfield 66, 3) := by decide +kernel
theorem dX2_bargainBy_37 : decode cX2_bargainBy 37 = .ok (.invokevirtual 69, 3) := by decide +kernel
theorem dX2_bargainBy_40 : decode cX2_bargainBy 40 = .ok (.return_, 1) := by decide +kernel
theorem dX2_leftBy_0 : decode cX2_leftBy 0 = .ok (.aload_n 0, 1) := by decide +kernel
theorem dX2_leftBy_1 : decode cX2_leftBy 1 = .ok (.iload_n 1, 1) := by decide +kernel
theorem dX2_leftBy_2 : decode cX2_leftBy 2 = .ok (.iload_n 2, 1) := by decide +kernel
theorem dX2_leftBy_3 : decode cX2_leftBy 3 = .ok (.invokevirtual 73, 3) := by decide +kernel
theorem dX2_leftBy_6 : decode cX2_leftBy 6 = .ok (.aload_n 0, 1) := by decide +kernel
theorem dX2_leftBy_7 : decode cX2_leftBy 7 = .ok (.getfield 28, 3) := by decide +kernel
theorem dX2_leftBy_10 : decode cX2_leftBy 10 = .ok (.getfield 77, 3) := by decide +kernel
theorem dX2_leftBy_13 : decode cX2_leftBy 13 = .ok (.ireturn, 1) := by decide +kernel
theorem dX2_foretell_0 : decode cX2_foretell 0 = .ok (.aload_n 0, 1) := by decide +kernel
theorem dX2_foretell_1 : decode cX2_foretell 1 = .ok (.getfield 21, 3) := by decide +kernel
theorem dX2_foretell_4 : decode cX2_foretell 4 = .ok (.getfield 46, 3) := by decide +kernel
theorem dX2_foretell_7 : decode cX2_foretell 7 = .ok (.iload_n 1, 1) := by decide +kernel
theorem dX2_foretell_8 : decode cX2_foretell 8 = .ok (.iload_n 2, 1) := by decide +kernel
theorem dX2_foretell_9 : decode cX2_foretell 9 = .ok (.iastore, 1) := by decide +kernel
theorem dX2_foretell_10 : decode cX2_foretell 10 = .ok (.aload_n 0, 1) := by decide +kernel
theorem dX2_foretell_11 : decode cX2_foretell 11 = .ok (.getfield 21, 3) := by decide +kernel
theorem dX2_foretell_14 : decode cX2_foretell 14 = .ok (.dup, 1) := by decide +kernel
theorem dX2_foretell_15 : decode cX2_foretell 15 = .ok (.getfield 43, 3) := by decide +kernel
theorem dX2_foretell_18 : decode cX2_foretell 18 = .ok (.iconst 1, 1) := by decide +kernel
theorem dX2_foretell_19 : decode cX2_foretell 19 = .ok (.iload_n 1, 1) := by decide +kernel
theorem dX2_foretell_20 : decode cX2_foretell 20 = .ok (.ishl, 1) := by decide +kernel
theorem dX2_foretell_21 : decode cX2_foretell 21 = .ok (.ior, 1) := by decide +kernel
theorem dX2_foretell_22 : decode cX2_foretell 22 = .ok (.putfield 43, 3) := by decide +kernel
theorem dX2_foretell_25 : decode cX2_foretell 25 = .ok (.return_, 1) := by decide +kernel
theorem dX2_answerBack_0 : decode cX2_answerBack 0 = .ok (.aload_n 0, 1) := by decide +kernel
theorem dX2_answerBack_1 : decode cX2_answerBack 1 = .ok (.iload_n 2, 1) := by decide +kernel
theorem dX2_answerBack_2 : decode cX2_answerBack 2 = .ok (.aload_n 0, 1) := by decide +kernel
theorem dX2_answerBack_3 : decode cX2_answerBack 3 = .ok (.getfield 21, 3) := by decide +kernel
theorem dX2_answerBack_6 : decode cX2_answerBack 6 = .ok (.getfield 46, 3) := by decide +kernel
theorem dX2_answerBack_9 : decode cX2_answerBack 9 = .ok (.iload_n 1, 1) := by decide +kernel
theorem dX2_answerBack_10 : decode cX2_answerBack 10 = .ok (.iaload, 1) := by decide +kernel
theorem dX2_answerBack_11 : decode cX2_answerBack 11 = .ok (.invokevirtual 80, 3) := by decide +kernel
theorem dX2_answerBack_14 : decode cX2_answerBack 14 = .ok (.istore_n 3, 1) := by decide +kernel
theorem dX2_answerBack_15 : decode cX2_answerBack 15 = .ok (.iconst 0, 1) := by decide +kernel
theorem dX2_answerBack_16 : decode cX2_answerBack 16 = .ok (.aload_n 0, 1) := by decide +kernel
theorem dX2_answerBack_17 : decode cX2_answerBack 17 = .ok (.getfield 21, 3) := by decide +kernel
theorem dX2_answerBack_20 : decode cX2_answerBack 20 = .ok (.getfield 46, 3) := by decide +kernel
theorem dX2_answerBack_23 : decode cX2_answerBack 23 = .ok (.iload_n 1, 1) := by decide +kernel
theorem dX2_answerBack_24 : decode cX2_answerBack 24 = .ok (.iaload, 1) := by decide +kernel
theorem dX2_answerBack_25 : decode cX2_answerBack 25 = .ok (.iload_n 3, 1) := by decide +kernel
theorem dX2_answerBack_26 : decode cX2_answerBack 26 = .ok (.isub, 1) := by decide +kernel
theorem dX2_answerBack_27 : decode cX2_answerBack 27 = .ok (.invokestatic 84, 3) := by decide +kernel
theorem dX2_answerBack_30 : decode cX2_answerBack 30 = .ok (.istore 4, 2) := by decide +kernel
theorem dX2_answerBack_32 : decode cX2_answerBack 32 = .ok (.aload_n 0, 1) := by decide +kernel
theorem dX2_answerBack_33 : decode cX2_answerBack 33 = .ok (.getfield 21, 3) := by decide +kernel
theorem dX2_answerBack_36 : decode cX2_answerBack 36 = .ok (.getfield 46, 3) := by decide +kernel
theorem dX2_answerBack_39 : decode cX2_answerBack 39 = .ok (.iload_n 1, 1) := by decide +kernel
theorem dX2_answerBack_40 : decode cX2_answerBack 40 = .ok (.iload_n 3, 1) := by decide +kernel
theorem dX2_answerBack_41 : decode cX2_answerBack 41 = .ok (.iastore, 1) := by decide +kernel
theorem dX2_answerBack_42 : decode cX2_answerBack 42 = .ok (.aload_n 0, 1) := by decide +kernel
theorem dX2_answerBack_43 : decode cX2_answerBack 43 = .ok (.getfield 21, 3) := by decide +kernel
theorem dX2_answerBack_46 : decode cX2_answerBack 46 = .ok (.sipush 9999, 3) := by decide +kernel
theorem dX2_answerBack_49 : decode cX2_answerBack 49 = .ok (.aload_n 0, 1) := by decide +kernel
theorem dX2_answerBack_50 : decode cX2_answerBack 50 = .ok (.getfield 21, 3) := by decide +kernel
theorem dX2_answerBack_53 : decode cX2_answerBack 53 = .ok (.getfield 89, 3) := by decide +kernel
theorem dX2_answerBack_56 : decode cX2_answerBack 56 = .ok (.iload 4, 2) := by decide +kernel
theorem dX2_answerBack_58 : decode cX2_answerBack 58 = .ok (.iadd, 1) := by decide +kernel
theorem dX2_answerBack_59 : decode cX2_answerBack 59 = .ok (.invokestatic 92, 3) := by decide +kernel
theorem dX2_answerBack_62 : decode cX2_answerBack 62 = .ok (.putfield 89, 3) := by decide +kernel
theorem dX2_answerBack_65 : decode cX2_answerBack 65 = .ok (.aload_n 0, 1) := by decide +kernel
theorem dX2_answerBack_66 : decode cX2_answerBack 66 = .ok (.getfield 21, 3) := by decide +kernel
theorem dX2_answerBack_69 : decode cX2_answerBack 69 = .ok (.iconst 1, 1) := by decide +kernel
theorem dX2_answerBack_70 : decode cX2_answerBack 70 = .ok (.aload_n 0, 1) := by decide +kernel
theorem dX2_answerBack_71 : decode cX2_answerBack 71 = .ok (.getfield 21, 3) := by decide +kernel
theorem dX2_answerBack_74 : decode cX2_answerBack 74 = .ok (.getfield 63, 3) := by decide +kernel
theorem dX2_answerBack_77 : decode cX2_answerBack 77 = .ok (.iconst 1, 1) := by decide +kernel
theorem dX2_answerBack_78 : decode cX2_answerBack 78 = .ok (.isub, 1) := by decide +kernel
theorem dX2_answerBack_79 : decode cX2_answerBack 79 = .ok (.invokestatic 84, 3) := by decide +kernel
theorem dX2_answerBack_82 : decode cX2_answerBack 82 = .ok (.putfield 63, 3) := by decide +kernel
theorem dX2_answerBack_85 : decode cX2_answerBack 85 = .ok (.aload_n 0, 1) := by decide +kernel
theorem dX2_answerBack_86 : decode cX2_answerBack 86 = .ok (.getfield 21, 3) := by decide +kernel
theorem dX2_answerBack_89 : decode cX2_answerBack 89 = .ok (.dup, 1) := by decide +kernel
theorem dX2_answerBack_90 : decode cX2_answerBack 90 = .ok (.getfield 50, 3) := by decide +kernel
theorem dX2_answerBack_93 : decode cX2_answerBack 93 = .ok (.iconst 1, 1) := by decide +kernel
theorem dX2_answerBack_94 : decode cX2_answerBack 94 = .ok (.iload_n 2, 1) := by decide +kernel
theorem dX2_answerBack_95 : decode cX2_answerBack 95 = .ok (.ishl, 1) := by decide +kernel
theorem dX2_answerBack_96 : decode cX2_answerBack 96 = .ok (.ior, 1) := by decide +kernel
theorem dX2_answerBack_97 : decode cX2_answerBack 97 = .ok (.putfield 50, 3) := by decide +kernel
theorem dX2_answerBack_100 : decode cX2_answerBack 100 = .ok (.return_, 1) := by decide +kernel
theorem dX2_passYear_0 : decode cX2_passYear 0 = .ok (.iconst 0, 1) := by decide +kernel
theorem dX2_passYear_1 : decode cX2_passYear 1 = .ok (.istore_n 1, 1) := by decide +kernel
theorem dX2_passYear_2 : decode cX2_passYear 2 = .ok (.iload_n 1, 1) := by decide +kernel
theorem dX2_passYear_3 : decode cX2_passYear 3 = .ok (.aload_n 0, 1) := by decide +kernel
theorem dX2_passYear_4 : decode cX2_passYear 4 = .ok (.getfield 12, 3) := by decide +kernel
theorem dX2_passYear_7 : decode cX2_passYear 7 = .ok (.getfield 32, 3) := by decide +kernel
theorem dX2_passYear_10 : decode cX2_passYear 10 = .ok (.if_icmp .ge 36, 3) := by decide +kernel
theorem dX2_passYear_13 : decode cX2_passYear 13 = .ok (.aload_n 0, 1) := by decide +kernel
theorem dX2_passYear_14 : decode cX2_passYear 14 = .ok (.getfield 21, 3) := by decide +kernel
theorem dX2_passYear_17 : decode cX2_passYear 17 = .ok (.iload_n 1, 1) := by decide +kernel
theorem dX2_passYear_18 : decode cX2_passYear 18 = .ok (.aload_n 0, 1) := by decide +kernel
theorem dX2_passYear_19 : decode cX2_passYear 19 = .ok (.getfield 21, 3) := by decide +kernel
theorem dX2_passYear_22 : decode cX2_passYear 22 = .ok (.getfield 46, 3) := by decide +kernel
theorem dX2_passYear_25 : decode cX2_passYear 25 = .ok (.iload_n 1, 1) := by decide +kernel
theorem dX2_passYear_26 : decode cX2_passYear 26 = .ok (.iaload, 1) := by decide +kernel
theorem dX2_passYear_27 : decode cX2_passYear 27 = .ok (.invokevirtual 95, 3) := by decide +kernel
theorem dX2_passYear_30 : decode cX2_passYear 30 = .ok (.aload_n 0, 1) := by decide +kernel
theorem dX2_passYear_31 : decode cX2_passYear 31 = .ok (.getfield 21, 3) := by decide +kernel
theorem dX2_passYear_34 : decode cX2_passYear 34 = .ok (.getfield 46, 3) := by decide +kernel
theorem dX2_passYear_37 : decode cX2_passYear 37 = .ok (.iload_n 1, 1) := by decide +kernel
theorem dX2_passYear_38 : decode cX2_passYear 38 = .ok (.iconst 0, 1) := by decide +kernel
theorem dX2_passYear_39 : decode cX2_passYear 39 = .ok (.iastore, 1) := by decide +kernel
theorem dX2_passYear_40 : decode cX2_passYear 40 = .ok (.iinc 1 1, 3) := by decide +kernel
theorem dX2_passYear_43 : decode cX2_passYear 43 = .ok (.goto (-41), 3) := by decide +kernel
theorem dX2_passYear_46 : decode cX2_passYear 46 = .ok (.iconst 0, 1) := by decide +kernel
theorem dX2_passYear_47 : decode cX2_passYear 47 = .ok (.istore_n 1, 1) := by decide +kernel
theorem dX2_passYear_48 : decode cX2_passYear 48 = .ok (.iload_n 1, 1) := by decide +kernel
theorem dX2_passYear_49 : decode cX2_passYear 49 = .ok (.aload_n 0, 1) := by decide +kernel
theorem dX2_passYear_50 : decode cX2_passYear 50 = .ok (.getfield 12, 3) := by decide +kernel
theorem dX2_passYear_53 : decode cX2_passYear 53 = .ok (.getfield 36, 3) := by decide +kernel
theorem dX2_passYear_56 : decode cX2_passYear 56 = .ok (.if_icmp .ge 41, 3) := by decide +kernel
theorem dX2_passYear_59 : decode cX2_passYear 59 = .ok (.aload_n 0, 1) := by decide +kernel
theorem dX2_passYear_60 : decode cX2_passYear 60 = .ok (.iload_n 1, 1) := by decide +kernel
theorem dX2_passYear_61 : decode cX2_passYear 61 = .ok (.aload_n 0, 1) := by decide +kernel
theorem dX2_passYear_62 : decode cX2_passYear 62 = .ok (.getfield 21, 3) := by decide +kernel
theorem dX2_passYear_65 : decode cX2_passYear 65 = .ok (.getfield 89, 3) := by decide +kernel
theorem dX2_passYear_68 : decode cX2_passYear 68 = .ok (.invokevirtual 98, 3) := by decide +kernel
theorem dX2_passYear_71 : decode cX2_passYear 71 = .ok (.istore_n 2, 1) := by decide +kernel
theorem dX2_passYear_72 : decode cX2_passYear 72 = .ok (.aload_n 0, 1) := by decide +kernel
theorem dX2_passYear_73 : decode cX2_passYear 73 = .ok (.iload_n 1, 1) := by decide +kernel
theorem dX2_passYear_74 : decode cX2_passYear 74 = .ok (.iload_n 2, 1) := by decide +kernel
theorem dX2_passYear_75 : decode cX2_passYear 75 = .ok (.invokevirtual 101, 3) := by decide +kernel
theorem dX2_passYear_78 : decode cX2_passYear 78 = .ok (.aload_n 0, 1) := by decide +kernel
theorem dX2_passYear_79 : decode cX2_passYear 79 = .ok (.getfield 21, 3) := by decide +kernel
theorem dX2_passYear_82 : decode cX2_passYear 82 = .ok (.dup, 1) := by decide +kernel
theorem dX2_passYear_83 : decode cX2_passYear 83 = .ok (.getfield 89, 3) := by decide +kernel
theorem dX2_passYear_86 : decode cX2_passYear 86 = .ok (.iload_n 2, 1) := by decide +kernel
theorem dX2_passYear_87 : decode cX2_passYear 87 = .ok (.isub, 1) := by decide +kernel
theorem dX2_passYear_88 : decode cX2_passYear 88 = .ok (.putfield 89, 3) := by decide +kernel
theorem dX2_passYear_91 : decode cX2_passYear 91 = .ok (.iinc 1 1, 3) := by decide +kernel
theorem dX2_passYear_94 : decode cX2_passYear 94 = .ok (.goto (-46), 3) := by decide +kernel
theorem dX2_passYear_97 : decode cX2_passYear 97 = .ok (.aload_n 0, 1) := by decide +kernel
theorem dX2_passYear_98 : decode cX2_passYear 98 = .ok (.getfield 21, 3) := by decide +kernel
theorem dX2_passYear_101 : decode cX2_passYear 101 = .ok (.iconst 0, 1) := by decide +kernel
theorem dX2_passYear_102 : decode cX2_passYear 102 = .ok (.putfield 43, 3) := by decide +kernel
theorem dX2_passYear_105 : decode cX2_passYear 105 = .ok (.aload_n 0, 1) := by decide +kernel
theorem dX2_passYear_106 : decode cX2_passYear 106 = .ok (.getfield 21, 3) := by decide +kernel
theorem dX2_passYear_109 : decode cX2_passYear 109 = .ok (.iconst 0, 1) := by decide +kernel
theorem dX2_passYear_110 : decode cX2_passYear 110 = .ok (.putfield 50, 3) := by decide +kernel
theorem dX2_passYear_113 : decode cX2_passYear 113 = .ok (.aload_n 0, 1) := by decide +kernel
theorem dX2_passYear_114 : decode cX2_passYear 114 = .ok (.getfield 21, 3) := by decide +kernel
theorem dX2_passYear_117 : decode cX2_passYear 117 = .ok (.aload_n 0, 1) := by decide +kernel
theorem dX2_passYear_118 : decode cX2_passYear 118 = .ok (.getfield 12, 3) := by decide +kernel
theorem dX2_passYear_121 : decode cX2_passYear 121 = .ok (.getfield 104, 3) := by decide +kernel
theorem dX2_passYear_124 : decode cX2_passYear 124 = .ok (.putfield 63, 3) := by decide +kernel
theorem dX2_passYear_127 : decode cX2_passYear 127 = .ok (.aload_n 0, 1) := by decide +kernel
theorem dX2_passYear_128 : decode cX2_passYear 128 = .ok (.getfield 21, 3) := by decide +kernel
theorem dX2_passYear_131 : decode cX2_passYear 131 = .ok (.dup, 1) := by decide +kernel
theorem dX2_passYear_132 : decode cX2_passYear 132 = .ok (.getfield 105, 3) := by decide +kernel
theorem dX2_passYear_135 : decode cX2_passYear 135 = .ok (.iconst 1, 1) := by decide +kernel
theorem dX2_passYear_136 : decode cX2_passYear 136 = .ok (.iadd, 1) := by decide +kernel
theorem dX2_passYear_137 : decode cX2_passYear 137 = .ok (.putfield 105, 3) := by decide +kernel
theorem dX2_passYear_140 : decode cX2_passYear 140 = .ok (.return_, 1) := by decide +kernel
theorem dX2_hurtVillage_0 : decode cX2_hurtVillage 0 = .ok (.aload_n 0, 1) := by decide +kernel
theorem dX2_hurtVillage_1 : decode cX2_hurtVillage 1 = .ok (.getfield 12, 3) := by decide +kernel
theorem dX2_hurtVillage_4 : decode cX2_hurtVillage 4 = .ok (.getfield 108, 3) := by decide +kernel
theorem dX2_hurtVillage_7 : decode cX2_hurtVillage 7 = .ok (.iload_n 1, 1) := by decide +kernel
theorem dX2_hurtVillage_8 : decode cX2_hurtVillage 8 = .ok (.iaload, 1) := by decide +kernel
theorem dX2_hurtVillage_9 : decode cX2_hurtVillage 9 = .ok (.invokestatic 111, 3) := by decide +kernel
theorem dX2_hurtVillage_12 : decode cX2_hurtVillage 12 = .ok (.istore_n 3, 1) := by decide +kernel
theorem dX2_hurtVillage_13 : decode cX2_hurtVillage 13 = .ok (.iload_n 3, 1) := by decide +kernel
theorem dX2_hurtVillage_14 : decode cX2_hurtVillage 14 = .ok (.ifCond .ne 4, 3) := by decide +kernel
theorem dX2_hurtVillage_17 : decode cX2_hurtVillage 17 = .ok (.return_, 1) := by decide +kernel
theorem dX2_hurtVillage_18 : decode cX2_hurtVillage 18 = .ok (.iload_n 2, 1) := by decide +kernel
theorem dX2_hurtVillage_19 : decode cX2_hurtVillage 19 = .ok (.iload_n 3, 1) := by decide +kernel
theorem dX2_hurtVillage_20 : decode cX2_hurtVillage 20 = .ok (.idiv, 1) := by decide +kernel
theorem dX2_hurtVillage_21 : decode cX2_hurtVillage 21 = .ok (.istore 4, 2) := by decide +kernel
theorem dX2_hurtVillage_23 : decode cX2_hurtVillage 23 = .ok (.iconst 0, 1) := by decide +kernel
theorem dX2_hurtVillage_24 : decode cX2_hurtVillage 24 = .ok (.istore 5, 2) := by decide +kernel
theorem dX2_hurtVillage_26 : decode cX2_hurtVillage 26 = .ok (.iload 5, 2) := by decide +kernel
theorem dX2_hurtVillage_28 : decode cX2_hurtVillage 28 = .ok (.aload_n 0, 1) := by decide +kernel
theorem dX2_hurtVillage_29 : decode cX2_hurtVillage 29 = .ok (.getfield 12, 3) := by decide +kernel
theorem dX2_hurtVillage_32 : decode cX2_hurtVillage 32 = .ok (.getfield 32, 3) := by decide +kernel
theorem dX2_hurtVillage_35 : decode cX2_hurtVillage 35 = .ok (.if_icmp .ge 34, 3) := by decide +kernel
theorem dX2_hurtVillage_38 : decode cX2_hurtVillage 38 = .ok (.aload_n 0, 1) := by decide +kernel
theorem dX2_hurtVillage_39 : decode cX2_hurtVillage 39 = .ok (.getfield 12, 3) := by decide +kernel
theorem dX2_hurtVillage_42 : decode cX2_hurtVillage 42 = .ok (.getfield 117, 3) := by decide +kernel
theorem dX2_hurtVillage_45 : decode cX2_hurtVillage 45 = .ok (.iload 5, 2) := by decide +kernel
theorem dX2_hurtVillage_47 : decode cX2_hurtVillage 47 = .ok (.iaload, 1) := by decide +kernel
theorem dX2_hurtVillage_48 : decode cX2_hurtVillage 48 = .ok (.iload_n 1, 1) := by decide +kernel
theorem dX2_hurtVillage_49 : decode cX2_hurtVillage 49 = .ok (.if_icmp .ne 14, 3) := by decide +kernel
theorem dX2_hurtVillage_52 : decode cX2_hurtVillage 52 = .ok (.aload_n 0, 1) := by decide +kernel
theorem dX2_hurtVillage_53 : decode cX2_hurtVillage 53 = .ok (.getfield 21, 3) := by decide +kernel
theorem dX2_hurtVillage_56 : decode cX2_hurtVillage 56 = .ok (.iload 5, 2) := by decide +kernel
theorem dX2_hurtVillage_58 : decode cX2_hurtVillage 58 = .ok (.iload 4, 2) := by decide +kernel
theorem dX2_hurtVillage_60 : decode cX2_hurtVillage 60 = .ok (.invokevirtual 95, 3) := by decide +kernel
theorem dX2_hurtVillage_63 : decode cX2_hurtVillage 63 = .ok (.iinc 5 1, 3) := by decide +kernel
theorem dX2_hurtVillage_66 : decode cX2_hurtVillage 66 = .ok (.goto (-40), 3) := by decide +kernel
theorem dX2_hurtVillage_69 : decode cX2_hurtVillage 69 = .ok (.return_, 1) := by decide +kernel
theorem dX2_actByDraws_0 : decode cX2_actByDraws 0 = .ok (.aload_n 0, 1) := by decide +kernel
theorem dX2_actByDraws_1 : decode cX2_actByDraws 1 = .ok (.getfield 12, 3) := by decide +kernel
theorem dX2_actByDraws_4 : decode cX2_actByDraws 4 = .ok (.getfield 32, 3) := by decide +kernel
theorem dX2_actByDraws_7 : decode cX2_actByDraws 7 = .ok (.ifCond .ne 4, 3) := by decide +kernel
theorem dX2_actByDraws_10 : decode cX2_actByDraws 10 = .ok (.return_, 1) := by decide +kernel
theorem dX2_actByDraws_11 : decode cX2_actByDraws 11 = .ok (.aload_n 1, 1) := by decide +kernel
theorem dX2_actByDraws_12 : decode cX2_actByDraws 12 = .ok (.iconst 4, 1) := by decide +kernel
theorem dX2_actByDraws_13 : decode cX2_actByDraws 13 = .ok (.invokevirtual 120, 3) := by decide +kernel
theorem dX2_actByDraws_16 : decode cX2_actByDraws 16 = .ok (.istore_n 2, 1) := by decide +kernel
theorem dX2_actByDraws_17 : decode cX2_actByDraws 17 = .ok (.aload_n 1, 1) := by decide +kernel
theorem dX2_actByDraws_18 : decode cX2_actByDraws 18 = .ok (.aload_n 0, 1) := by decide +kernel
theorem dX2_actByDraws_19 : decode cX2_actByDraws 19 = .ok (.getfield 12, 3) := by decide +kernel
theorem dX2_actByDraws_22 : decode cX2_actByDraws 22 = .ok (.getfield 32, 3) := by decide +kernel
theorem dX2_actByDraws_25 : decode cX2_actByDraws 25 = .ok (.invokevirtual 120, 3) := by decide +kernel
theorem dX2_actByDraws_28 : decode cX2_actByDraws 28 = .ok (.istore_n 3, 1) := by decide +kernel
theorem dX2_actByDraws_29 : decode cX2_actByDraws 29 = .ok (.aload_n 1, 1) := by decide +kernel
theorem dX2_actByDraws_30 : decode cX2_actByDraws 30 = .ok (.bipush 100, 2) := by decide +kernel
theorem dX2_actByDraws_32 : decode cX2_actByDraws 32 = .ok (.invokevirtual 120, 3) := by decide +kernel
theorem dX2_actByDraws_35 : decode cX2_actByDraws 35 = .ok (.istore 4, 2) := by decide +kernel
theorem dX2_actByDraws_37 : decode cX2_actByDraws 37 = .ok (.aload_n 0, 1) := by decide +kernel
theorem dX2_actByDraws_38 : decode cX2_actByDraws 38 = .ok (.iload_n 3, 1) := by decide +kernel
theorem dX2_actByDraws_39 : decode cX2_actByDraws 39 = .ok (.invokevirtual 125, 3) := by decide +kernel
theorem dX2_actByDraws_42 : decode cX2_actByDraws 42 = .ok (.ifCond .ne 4, 3) := by decide +kernel
theorem dX2_actByDraws_45 : decode cX2_actByDraws 45 = .ok (.return_, 1) := by decide +kernel
theorem dX2_actByDraws_46 : decode cX2_actByDraws 46 = .ok (.iload_n 2, 1) := by decide +kernel
theorem dX2_actByDraws_47 : decode cX2_actByDraws 47 = .ok (.iconst 1, 1) := by decide +kernel
theorem dX2_actByDraws_48 : decode cX2_actByDraws 48 = .ok (.if_icmp .gt 13, 3) := by decide +kernel
theorem dX2_actByDraws_51 : decode cX2_actByDraws 51 = .ok (.aload_n 0, 1) := by decide +kernel
theorem dX2_actByDraws_52 : decode cX2_actByDraws 52 = .ok (.iload_n 3, 1) := by decide +kernel
theorem dX2_actByDraws_53 : decode cX2_actByDraws 53 = .ok (.iload 4, 2) := by decide +kernel
theorem dX2_actByDraws_55 : decode cX2_actByDraws 55 = .ok (.invokevirtual 128, 3) := by decide +kernel
theorem dX2_actByDraws_58 : decode cX2_actByDraws 58 = .ok (.goto 42, 3) := by decide +kernel
theorem dX2_actByDraws_61 : decode cX2_actByDraws 61 = .ok (.iload_n 2, 1) := by decide +kernel
theorem dX2_actByDraws_62 : decode cX2_actByDraws 62 = .ok (.iconst 3, 1) := by decide +kernel
theorem dX2_actByDraws_63 : decode cX2_actByDraws 63 = .ok (.if_icmp .ne 22, 3) := by decide +kernel
theorem dX2_actByDraws_66 : decode cX2_actByDraws 66 = .ok (.aload_n 0, 1) := by decide +kernel
theorem dX2_actByDraws_67 : decode cX2_actByDraws 67 = .ok (.getfield 21, 3) := by decide +kernel
theorem dX2_actByDraws_70 : decode cX2_actByDraws 70 = .ok (.getfield 60, 3) := by decide +kernel
theorem dX2_actByDraws_73 : decode cX2_actByDraws 73 = .ok (.iload_n 3, 1) := by decide +kernel
theorem dX2_actByDraws_74 : decode cX2_actByDraws 74 = .ok (.iload 4, 2) := by decide +kernel
theorem dX2_actByDraws_76 : decode cX2_actByDraws 76 = .ok (.bipush 9, 2) := by decide +kernel
theorem dX2_actByDraws_78 : decode cX2_actByDraws 78 = .ok (.irem, 1) := by decide +kernel
theorem dX2_actByDraws_79 : decode cX2_actByDraws 79 = .ok (.iconst 1, 1) := by decide +kernel
theorem dX2_actByDraws_80 : decode cX2_actByDraws 80 = .ok (.iadd, 1) := by decide +kernel
theorem dX2_actByDraws_81 : decode cX2_actByDraws 81 = .ok (.iastore, 1) := by decide +kernel
theorem dX2_actByDraws_82 : decode cX2_actByDraws 82 = .ok (.goto 18, 3) := by decide +kernel
theorem dX2_actByDraws_85 : decode cX2_actByDraws 85 = .ok (.aload_n 0, 1) := by decide +kernel
theorem dX2_actByDraws_86 : decode cX2_actByDraws 86 = .ok (.iload_n 3, 1) := by decide +kernel
theorem dX2_actByDraws_87 : decode cX2_actByDraws 87 = .ok (.iload_n 3, 1) := by decide +kernel
theorem dX2_actByDraws_88 : decode cX2_actByDraws 88 = .ok (.invokevirtual 131, 3) := by decide +kernel
theorem dX2_actByDraws_91 : decode cX2_actByDraws 91 = .ok (.ifCond .eq 9, 3) := by decide +kernel
theorem dX2_actByDraws_94 : decode cX2_actByDraws 94 = .ok (.aload_n 0, 1) := by decide +kernel
theorem dX2_actByDraws_95 : decode cX2_actByDraws 95 = .ok (.iload_n 3, 1) := by decide +kernel
theorem dX2_actByDraws_96 : decode cX2_actByDraws 96 = .ok (.iload_n 3, 1) := by decide +kernel
theorem dX2_actByDraws_97 : decode cX2_actByDraws 97 = .ok (.invokevirtual 135, 3) := by decide +kernel
theorem dX2_actByDraws_100 : decode cX2_actByDraws 100 = .ok (.return_, 1) := by decide +kernel
theorem dX2_canTake_0 : decode cX2_canTake 0 = .ok (.aload_n 0, 1) := by decide +kernel
theorem dX2_canTake_1 : decode cX2_canTake 1 = .ok (.getfield 12, 3) := by decide +kernel
theorem dX2_canTake_4 : decode cX2_canTake 4 = .ok (.getfield 108, 3) := by decide +kernel
theorem dX2_canTake_7 : decode cX2_canTake 7 = .ok (.iload_n 1, 1) := by decide +kernel
theorem dX2_canTake_8 : decode cX2_canTake 8 = .ok (.iaload, 1) := by decide +kernel
theorem dX2_canTake_9 : decode cX2_canTake 9 = .ok (.istore_n 3, 1) := by decide +kernel
theorem dX2_canTake_10 : decode cX2_canTake 10 = .ok (.iload_n 3, 1) := by decide +kernel
theorem dX2_canTake_11 : decode cX2_canTake 11 = .ok (.ifCond .eq 23, 3) := by decide +kernel
theorem dX2_canTake_14 : decode cX2_canTake 14 = .ok (.iload_n 3, 1) := by decide +kernel
theorem dX2_canTake_15 : decode cX2_canTake 15 = .ok (.iload_n 2, 1) := by decide +kernel
theorem dX2_canTake_16 : decode cX2_canTake 16 = .ok (.iconst (-1), 1) := by decide +kernel
theorem dX2_canTake_17 : decode cX2_canTake 17 = .ok (.ixor, 1) := by decide +kernel
theorem dX2_canTake_18 : decode cX2_canTake 18 = .ok (.iand, 1) := by decide +kernel
theorem dX2_canTake_19 : decode cX2_canTake 19 = .ok (.ifCond .ne 15, 3) := by decide +kernel
theorem dX2_canTake_22 : decode cX2_canTake 22 = .ok (.aload_n 0, 1) := by decide +kernel
theorem dX2_canTake_23 : decode cX2_canTake 23 = .ok (.getfield 21, 3) := by decide +kernel
theorem dX2_canTake_26 : decode cX2_canTake 26 = .ok (.getfield 138, 3) := by decide +kernel
theorem dX2_canTake_29 : decode cX2_canTake 29 = .ok (.iload_n 1, 1) := by decide +kernel
theorem dX2_canTake_30 : decode cX2_canTake 30 = .ok (.iaload, 1) := by decide +kernel
theorem dX2_canTake_31 : decode cX2_canTake 31 = .ok (.goto 4, 3) := by decide +kernel
theorem dX2_canTake_34 : decode cX2_canTake 34 = .ok (.iconst 0, 1) := by decide +kernel
theorem dX2_canTake_35 : decode cX2_canTake 35 = .ok (.ireturn, 1) := by decide +kernel
theorem dX2_taken_0 : decode cX2_taken 0 = .ok (.iload_n 2, 1) := by decide +kernel
theorem dX2_taken_1 : decode cX2_taken 1 = .ok (.aload_n 0, 1) := by decide +kernel
theorem dX2_taken_2 : decode cX2_taken 2 = .ok (.iload_n 1, 1) := by decide +kernel
theorem dX2_taken_3 : decode cX2_taken 3 = .ok (.aload_n 0, 1) := by decide +kernel
theorem dX2_taken_4 : decode cX2_taken 4 = .ok (.invokevirtual 141, 3) := by decide +kernel
theorem dX2_taken_7 : decode cX2_taken 7 = .ok (.invokevirtual 144, 3) := by decide +kernel
theorem dX2_taken_10 : decode cX2_taken 10 = .ok (.invokestatic 92, 3) := by decide +kernel
theorem dX2_taken_13 : decode cX2_taken 13 = .ok (.ireturn, 1) := by decide +kernel
theorem dX2_canTakeTogether_0 : decode cX2_canTakeTogether 0 = .ok (.iconst 0, 1) := by decide +kernel
theorem dX2_canTakeTogether_1 : decode cX2_canTakeTogether 1 = .ok (.istore_n 2, 1) := by decide +kernel
theorem dX2_canTakeTogether_2 : decode cX2_canTakeTogether 2 = .ok (.iconst 0, 1) := by decide +kernel
theorem dX2_canTakeTogether_3 : decode cX2_canTakeTogether 3 = .ok (.istore_n 3, 1) := by decide +kernel
theorem dX2_canTakeTogether_4 : decode cX2_canTakeTogether 4 = .ok (.iload_n 3, 1) := by decide +kernel
theorem dX2_canTakeTogether_5 : decode cX2_canTakeTogether 5 = .ok (.aload_n 0, 1) := by decide +kernel
theorem dX2_canTakeTogether_6 : decode cX2_canTakeTogether 6 = .ok (.getfield 12, 3) := by decide +kernel
theorem dX2_canTakeTogether_9 : decode cX2_canTakeTogether 9 = .ok (.getfield 36, 3) := by decide +kernel
theorem dX2_canTakeTogether_12 : decode cX2_canTakeTogether 12 = .ok (.if_icmp .ge 18, 3) := by decide +kernel
theorem dX2_canTakeTogether_15 : decode cX2_canTakeTogether 15 = .ok (.iload_n 2, 1) := by decide +kernel
theorem dX2_canTakeTogether_16 : decode cX2_canTakeTogether 16 = .ok (.aload_n 0, 1) := by decide +kernel
theorem dX2_canTakeTogether_17 : decode cX2_canTakeTogether 17 = .ok (.iload_n 3, 1) := by decide +kernel
theorem dX2_canTakeTogether_18 : decode cX2_canTakeTogether 18 = .ok (.iload_n 1, 1) := by decide +kernel
theorem dX2_canTakeTogether_19 : decode cX2_canTakeTogether 19 = .ok (.invokevirtual 144, 3) := by decide +kernel
theorem dX2_canTakeTogether_22 : decode cX2_canTakeTogether 22 = .ok (.iadd, 1) := by decide +kernel
theorem dX2_canTakeTogether_23 : decode cX2_canTakeTogether 23 = .ok (.istore_n 2, 1) := by decide +kernel
theorem dX2_canTakeTogether_24 : decode cX2_canTakeTogether 24 = .ok (.iinc 3 1, 3) := by decide +kernel
theorem dX2_canTakeTogether_27 : decode cX2_canTakeTogether 27 = .ok (.goto (-23), 3) := by decide +kernel
theorem dX2_canTakeTogether_30 : decode cX2_canTakeTogether 30 = .ok (.iload_n 2, 1) := by decide +kernel
theorem dX2_canTakeTogether_31 : decode cX2_canTakeTogether 31 = .ok (.ireturn, 1) := by decide +kernel
theorem dX2_had_0 : decode cX2_had 0 = .ok (.aload_n 0, 1) := by decide +kernel
theorem dX2_had_1 : decode cX2_had 1 = .ok (.getfield 21, 3) := by decide +kernel
theorem dX2_had_4 : decode cX2_had 4 = .ok (.getfield 89, 3) := by decide +kernel
theorem dX2_had_7 : decode cX2_had 7 = .ok (.istore_n 2, 1) := by decide +kernel
theorem dX2_had_8 : decode cX2_had 8 = .ok (.iconst 0, 1) := by decide +kernel
theorem dX2_had_9 : decode cX2_had 9 = .ok (.istore_n 3, 1) := by decide +kernel
theorem dX2_had_10 : decode cX2_had 10 = .ok (.iload_n 3, 1) := by decide +kernel
theorem dX2_had_11 : decode cX2_had 11 = .ok (.iload_n 1, 1) := by decide +kernel
theorem dX2_had_12 : decode cX2_had 12 = .ok (.if_icmp .ge 18, 3) := by decide +kernel
theorem dX2_had_15 : decode cX2_had 15 = .ok (.iload_n 2, 1) := by decide +kernel
theorem dX2_had_16 : decode cX2_had 16 = .ok (.aload_n 0, 1) := by decide +kernel
theorem dX2_had_17 : decode cX2_had 17 = .ok (.iload_n 3, 1) := by decide +kernel
theorem dX2_had_18 : decode cX2_had 18 = .ok (.iload_n 2, 1) := by decide +kernel
theorem dX2_had_19 : decode cX2_had 19 = .ok (.invokevirtual 98, 3) := by decide +kernel
theorem dX2_had_22 : decode cX2_had 22 = .ok (.isub, 1) := by decide +kernel
theorem dX2_had_23 : decode cX2_had 23 = .ok (.istore_n 2, 1) := by decide +kernel
theorem dX2_had_24 : decode cX2_had 24 = .ok (.iinc 3 1, 3) := by decide +kernel
theorem dX2_had_27 : decode cX2_had 27 = .ok (.goto (-17), 3) := by decide +kernel
theorem dX2_had_30 : decode cX2_had 30 = .ok (.aload_n 0, 1) := by decide +kernel
theorem dX2_had_31 : decode cX2_had 31 = .ok (.iload_n 1, 1) := by decide +kernel
theorem dX2_had_32 : decode cX2_had 32 = .ok (.iload_n 2, 1) := by decide +kernel
theorem dX2_had_33 : decode cX2_had 33 = .ok (.invokevirtual 98, 3) := by decide +kernel
theorem dX2_had_36 : decode cX2_had 36 = .ok (.ireturn, 1) := by decide +kernel
theorem dX2_isBorne_0 : decode cX2_isBorne 0 = .ok (.aload_n 0, 1) := by decide +kernel
theorem dX2_isBorne_1 : decode cX2_isBorne 1 = .ok (.getfield 21, 3) := by decide +kernel
theorem dX2_isBorne_4 : decode cX2_isBorne 4 = .ok (.getfield 89, 3) := by decide +kernel
theorem dX2_isBorne_7 : decode cX2_isBorne 7 = .ok (.aload_n 0, 1) := by decide +kernel
theorem dX2_isBorne_8 : decode cX2_isBorne 8 = .ok (.aload_n 0, 1) := by decide +kernel
theorem dX2_isBorne_9 : decode cX2_isBorne 9 = .ok (.invokevirtual 141, 3) := by decide +kernel
theorem dX2_isBorne_12 : decode cX2_isBorne 12 = .ok (.invokevirtual 147, 3) := by decide +kernel
theorem dX2_isBorne_15 : decode cX2_isBorne 15 = .ok (.if_icmp .gt 7, 3) := by decide +kernel
theorem dX2_isBorne_18 : decode cX2_isBorne 18 = .ok (.iconst 1, 1) := by decide +kernel
theorem dX2_isBorne_19 : decode cX2_isBorne 19 = .ok (.goto 4, 3) := by decide +kernel
theorem dX2_isBorne_22 : decode cX2_isBorne 22 = .ok (.iconst 0, 1) := by decide +kernel
theorem dX2_isBorne_23 : decode cX2_isBorne 23 = .ok (.ireturn, 1) := by decide +kernel
theorem dX2_madeUp_0 : decode cX2_madeUp 0 = .ok (.aload_n 0, 1) := by decide +kernel
theorem dX2_madeUp_1 : decode cX2_madeUp 1 = .ok (.getfield 21, 3) := by decide +kernel
theorem dX2_madeUp_4 : decode cX2_madeUp 4 = .ok (.getfield 89, 3) := by decide +kernel
theorem dX2_madeUp_7 : decode cX2_madeUp 7 = .ok (.istore_n 1, 1) := by decide +kernel
theorem dX2_madeUp_8 : decode cX2_madeUp 8 = .ok (.aload_n 0, 1) := by decide +kernel
theorem dX2_madeUp_9 : decode cX2_madeUp 9 = .ok (.aload_n 0, 1) := by decide +kernel
theorem dX2_madeUp_10 : decode cX2_madeUp 10 = .ok (.getfield 12, 3) := by decide +kernel
theorem dX2_madeUp_13 : decode cX2_madeUp 13 = .ok (.invokevirtual 39, 3) := by decide +kernel
theorem dX2_madeUp_16 : decode cX2_madeUp 16 = .ok (.invokevirtual 147, 3) := by decide +kernel
theorem dX2_madeUp_19 : decode cX2_madeUp 19 = .ok (.istore_n 2, 1) := by decide +kernel
theorem dX2_madeUp_20 : decode cX2_madeUp 20 = .ok (.iconst 0, 1) := by decide +kernel
theorem dX2_madeUp_21 : decode cX2_madeUp 21 = .ok (.istore_n 3, 1) := by decide +kernel
theorem dX2_madeUp_22 : decode cX2_madeUp 22 = .ok (.iload_n 3, 1) := by decide +kernel
theorem dX2_madeUp_23 : decode cX2_madeUp 23 = .ok (.bipush 60, 2) := by decide +kernel
theorem dX2_madeUp_25 : decode cX2_madeUp 25 = .ok (.if_icmp .gt 34, 3) := by decide +kernel
theorem dX2_madeUp_28 : decode cX2_madeUp 28 = .ok (.iload_n 1, 1) := by decide +kernel
theorem dX2_madeUp_29 : decode cX2_madeUp 29 = .ok (.ifCond .gt 5, 3) := by decide +kernel
theorem dX2_madeUp_32 : decode cX2_madeUp 32 = .ok (.iload_n 3, 1) := by decide +kernel
theorem dX2_madeUp_33 : decode cX2_madeUp 33 = .ok (.ireturn, 1) := by decide +kernel
theorem dX2_madeUp_34 : decode cX2_madeUp 34 = .ok (.iload_n 1, 1) := by decide +kernel
theorem dX2_madeUp_35 : decode cX2_madeUp 35 = .ok (.iload_n 3, 1) := by decide +kernel
theorem dX2_madeUp_36 : decode cX2_madeUp 36 = .ok (.ifCond .ne 14, 3) := by decide +kernel
theorem dX2_madeUp_39 : decode cX2_madeUp 39 = .ok (.aload_n 0, 1) := by decide +kernel
theorem dX2_madeUp_40 : decode cX2_madeUp 40 = .ok (.aload_n 0, 1) := by decide +kernel
theorem dX2_madeUp_41 : decode cX2_madeUp 41 = .ok (.invokevirtual 141, 3) := by decide +kernel
theorem dX2_madeUp_44 : decode cX2_madeUp 44 = .ok (.invokevirtual 147, 3) := by decide +kernel
theorem dX2_madeUp_47 : decode cX2_madeUp 47 = .ok (.goto 4, 3) := by decide +kernel
theorem dX2_madeUp_50 : decode cX2_madeUp 50 = .ok (.iload_n 2, 1) := by decide +kernel
theorem dX2_madeUp_51 : decode cX2_madeUp 51 = .ok (.isub, 1) := by decide +kernel
theorem dX2_madeUp_52 : decode cX2_madeUp 52 = .ok (.istore_n 1, 1) := by decide +kernel
theorem dX2_madeUp_53 : decode cX2_madeUp 53 = .ok (.iinc 3 1, 3) := by decide +kernel
theorem dX2_madeUp_56 : decode cX2_madeUp 56 = .ok (.goto (-34), 3) := by decide +kernel
theorem dX2_madeUp_59 : decode cX2_madeUp 59 = .ok (.iconst (-1), 1) := by decide +kernel
theorem dX2_madeUp_60 : decode cX2_madeUp 60 = .ok (.ireturn, 1) := by decide +kernel
theorem dX2_rid_0 : decode cX2_rid 0 = .ok (.iconst 0, 1) := by decide +kernel
theorem dX2_rid_1 : decode cX2_rid 1 = .ok (.istore_n 2, 1) := by decide +kernel
theorem dX2_rid_2 : decode cX2_rid 2 = .ok (.bipush 64, 2) := by decide +kernel
theorem dX2_rid_4 : decode cX2_rid 4 = .ok (.istore_n 3, 1) := by decide +kernel
theorem dX2_rid_5 : decode cX2_rid 5 = .ok (.iload_n 3, 1) := by decide +kernel
theorem dX2_rid_6 : decode cX2_rid 6 = .ok (.ifCond .le 35, 3) := by decide +kernel
theorem dX2_rid_9 : decode cX2_rid 9 = .ok (.iload_n 2, 1) := by decide +kernel
theorem dX2_rid_10 : decode cX2_rid 10 = .ok (.iload_n 3, 1) := by decide +kernel
theorem dX2_rid_11 : decode cX2_rid 11 = .ok (.iadd, 1) := by decide +kernel
theorem dX2_rid_12 : decode cX2_rid 12 = .ok (.istore 4, 2) := by decide +kernel
theorem dX2_rid_14 : decode cX2_rid 14 = .ok (.iload 4, 2) := by decide +kernel
theorem dX2_rid_16 : decode cX2_rid 16 = .ok (.bipush 99, 2) := by decide +kernel
theorem dX2_rid_18 : decode cX2_rid 18 = .ok (.if_icmp .gt 16, 3) := by decide +kernel
theorem dX2_rid_21 : decode cX2_rid 21 = .ok (.aload_n 0, 1) := by decide +kernel
theorem dX2_rid_22 : decode cX2_rid 22 = .ok (.iload_n 1, 1) := by decide +kernel
theorem dX2_rid_23 : decode cX2_rid 23 = .ok (.iload 4, 2) := by decide +kernel
theorem dX2_rid_25 : decode cX2_rid 25 = .ok (.invokevirtual 80, 3) := by decide +kernel
theorem dX2_rid_28 : decode cX2_rid 28 = .ok (.ifCond .ne 6, 3) := by decide +kernel
theorem dX2_rid_31 : decode cX2_rid 31 = .ok (.iload 4, 2) := by decide +kernel
theorem dX2_rid_33 : decode cX2_rid 33 = .ok (.istore_n 2, 1) := by decide +kernel
theorem dX2_rid_34 : decode cX2_rid 34 = .ok (.iload_n 3, 1) := by decide +kernel
theorem dX2_rid_35 : decode cX2_rid 35 = .ok (.iconst 2, 1) := by decide +kernel
theorem dX2_rid_36 : decode cX2_rid 36 = .ok (.idiv, 1) := by decide +kernel
theorem dX2_rid_37 : decode cX2_rid 37 = .ok (.istore_n 3, 1) := by decide +kernel
theorem dX2_rid_38 : decode cX2_rid 38 = .ok (.goto (-33), 3) := by decide +kernel
theorem dX2_rid_41 : decode cX2_rid 41 = .ok (.iload_n 2, 1) := by decide +kernel
theorem dX2_rid_42 : decode cX2_rid 42 = .ok (.ireturn, 1) := by decide +kernel
theorem dX2_bestFor_0 : decode cX2_bestFor 0 = .ok (.iconst (-1), 1) := by decide +kernel
theorem dX2_bestFor_1 : decode cX2_bestFor 1 = .ok (.istore_n 2, 1) := by decide +kernel
theorem dX2_bestFor_2 : decode cX2_bestFor 2 = .ok (.bipush 100, 2) := by decide +kernel
theorem dX2_bestFor_4 : decode cX2_bestFor 4 = .ok (.istore_n 3, 1) := by decide +kernel
theorem dX2_bestFor_5 : decode cX2_bestFor 5 = .ok (.iconst 0, 1) := by decide +kernel
theorem dX2_bestFor_6 : decode cX2_bestFor 6 = .ok (.istore 4, 2) := by decide +kernel
theorem dX2_bestFor_8 : decode cX2_bestFor 8 = .ok (.iload 4, 2) := by decide +kernel
theorem dX2_bestFor_10 : decode cX2_bestFor 10 = .ok (.aload_n 0, 1) := by decide +kernel
theorem dX2_bestFor_11 : decode cX2_bestFor 11 = .ok (.getfield 12, 3) := by decide +kernel
theorem dX2_bestFor_14 : decode cX2_bestFor 14 = .ok (.getfield 32, 3) := by decide +kernel
theorem dX2_bestFor_17 : decode cX2_bestFor 17 = .ok (.if_icmp .ge 42, 3) := by decide +kernel
theorem dX2_bestFor_20 : decode cX2_bestFor 20 = .ok (.aload_n 0, 1) := by decide +kernel
theorem dX2_bestFor_21 : decode cX2_bestFor 21 = .ok (.iload 4, 2) := by decide +kernel
theorem dX2_bestFor_23 : decode cX2_bestFor 23 = .ok (.invokevirtual 53, 3) := by decide +kernel
theorem dX2_bestFor_26 : decode cX2_bestFor 26 = .ok (.ifCond .ne 6, 3) := by decide +kernel
theorem dX2_bestFor_29 : decode cX2_bestFor 29 = .ok (.goto 24, 3) := by decide +kernel
theorem dX2_bestFor_32 : decode cX2_bestFor 32 = .ok (.aload_n 0, 1) := by decide +kernel
theorem dX2_bestFor_33 : decode cX2_bestFor 33 = .ok (.iload 4, 2) := by decide +kernel
theorem dX2_bestFor_35 : decode cX2_bestFor 35 = .ok (.iload_n 1, 1) := by decide +kernel
theorem dX2_bestFor_36 : decode cX2_bestFor 36 = .ok (.invokevirtual 80, 3) := by decide +kernel
theorem dX2_bestFor_39 : decode cX2_bestFor 39 = .ok (.istore 5, 2) := by decide +kernel
theorem dX2_bestFor_41 : decode cX2_bestFor 41 = .ok (.iload 5, 2) := by decide +kernel
theorem dX2_bestFor_43 : decode cX2_bestFor 43 = .ok (.iload_n 3, 1) := by decide +kernel
theorem dX2_bestFor_44 : decode cX2_bestFor 44 = .ok (.if_icmp .ge 9, 3) := by decide +kernel
theorem dX2_bestFor_47 : decode cX2_bestFor 47 = .ok (.iload 5, 2) := by decide +kernel
theorem dX2_bestFor_49 : decode cX2_bestFor 49 = .ok (.istore_n 3, 1) := by decide +kernel
theorem dX2_bestFor_50 : decode cX2_bestFor 50 = .ok (.iload 4, 2) := by decide +kernel
theorem dX2_bestFor_52 : decode cX2_bestFor 52 = .ok (.istore_n 2, 1) := by decide +kernel
theorem dX2_bestFor_53 : decode cX2_bestFor 53 = .ok (.iinc 4 1, 3) := by decide +kernel
theorem dX2_bestFor_56 : decode cX2_bestFor 56 = .ok (.goto (-48), 3) := by decide +kernel
theorem dX2_bestFor_59 : decode cX2_bestFor 59 = .ok (.iload_n 2, 1) := by decide +kernel
theorem dX2_bestFor_60 : decode cX2_bestFor 60 = .ok (.ireturn, 1) := by decide +kernel
theorem dX2_worst_0 : decode cX2_worst 0 = .ok (.iconst (-1), 1) := by decide +kernel
theorem dX2_worst_1 : decode cX2_worst 1 = .ok (.istore_n 1, 1) := by decide +kernel
theorem dX2_worst_2 : decode cX2_worst 2 = .ok (.iconst (-1), 1) := by decide +kernel
theorem dX2_worst_3 : decode cX2_worst 3 = .ok (.istore_n 2, 1) := by decide +kernel
theorem dX2_worst_4 : decode cX2_worst 4 = .ok (.iconst 0, 1) := by decide +kernel
theorem dX2_worst_5 : decode cX2_worst 5 = .ok (.istore_n 3, 1) := by decide +kernel
theorem dX2_worst_6 : decode cX2_worst 6 = .ok (.iload_n 3, 1) := by decide +kernel
theorem dX2_worst_7 : decode cX2_worst 7 = .ok (.aload_n 0, 1) := by decide +kernel
theorem dX2_worst_8 : decode cX2_worst 8 = .ok (.getfield 12, 3) := by decide +kernel
theorem dX2_worst_11 : decode cX2_worst 11 = .ok (.getfield 32, 3) := by decide +kernel
theorem dX2_worst_14 : decode cX2_worst 14 = .ok (.if_icmp .ge 34, 3) := by decide +kernel
theorem dX2_worst_17 : decode cX2_worst 17 = .ok (.aload_n 0, 1) := by decide +kernel
theorem dX2_worst_18 : decode cX2_worst 18 = .ok (.getfield 21, 3) := by decide +kernel
theorem dX2_worst_21 : decode cX2_worst 21 = .ok (.getfield 150, 3) := by decide +kernel
theorem dX2_worst_24 : decode cX2_worst 24 = .ok (.iload_n 3, 1) := by decide +kernel
theorem dX2_worst_25 : decode cX2_worst 25 = .ok (.iaload, 1) := by decide +kernel
theorem dX2_worst_26 : decode cX2_worst 26 = .ok (.iload_n 2, 1) := by decide +kernel
theorem dX2_worst_27 : decode cX2_worst 27 = .ok (.if_icmp .le 15, 3) := by decide +kernel
theorem dX2_worst_30 : decode cX2_worst 30 = .ok (.aload_n 0, 1) := by decide +kernel
theorem dX2_worst_31 : decode cX2_worst 31 = .ok (.getfield 21, 3) := by decide +kernel
theorem dX2_worst_34 : decode cX2_worst 34 = .ok (.getfield 150, 3) := by decide +kernel
theorem dX2_worst_37 : decode cX2_worst 37 = .ok (.iload_n 3, 1) := by decide +kernel
theorem dX2_worst_38 : decode cX2_worst 38 = .ok (.iaload, 1) := by decide +kernel
theorem dX2_worst_39 : decode cX2_worst 39 = .ok (.istore_n 2, 1) := by decide +kernel
theorem dX2_worst_40 : decode cX2_worst 40 = .ok (.iload_n 3, 1) := by decide +kernel
theorem dX2_worst_41 : decode cX2_worst 41 = .ok (.istore_n 1, 1) := by decide +kernel
theorem dX2_worst_42 : decode cX2_worst 42 = .ok (.iinc 3 1, 3) := by decide +kernel
theorem dX2_worst_45 : decode cX2_worst 45 = .ok (.goto (-39), 3) := by decide +kernel
theorem dX2_worst_48 : decode cX2_worst 48 = .ok (.iload_n 1, 1) := by decide +kernel
theorem dX2_worst_49 : decode cX2_worst 49 = .ok (.ireturn, 1) := by decide +kernel
theorem dX2_harmIn_0 : decode cX2_harmIn 0 = .ok (.iconst 0, 1) := by decide +kernel
theorem dX2_harmIn_1 : decode cX2_harmIn 1 = .ok (.istore_n 2, 1) := by decide +kernel
theorem dX2_harmIn_2 : decode cX2_harmIn 2 = .ok (.iconst 0, 1) := by decide +kernel
theorem dX2_harmIn_3 : decode cX2_harmIn 3 = .ok (.istore_n 3, 1) := by decide +kernel
theorem dX2_harmIn_4 : decode cX2_harmIn 4 = .ok (.iload_n 3, 1) := by decide +kernel
theorem dX2_harmIn_5 : decode cX2_harmIn 5 = .ok (.aload_n 0, 1) := by decide +kernel
theorem dX2_harmIn_6 : decode cX2_harmIn 6 = .ok (.getfield 12, 3) := by decide +kernel
theorem dX2_harmIn_9 : decode cX2_harmIn 9 = .ok (.getfield 32, 3) := by decide +kernel
theorem dX2_harmIn_12 : decode cX2_harmIn 12 = .ok (.if_icmp .ge 34, 3) := by decide +kernel
theorem dX2_harmIn_15 : decode cX2_harmIn 15 = .ok (.aload_n 0, 1) := by decide +kernel
theorem dX2_harmIn_16 : decode cX2_harmIn 16 = .ok (.getfield 12, 3) := by decide +kernel
theorem dX2_harmIn_19 : decode cX2_harmIn 19 = .ok (.getfield 117, 3) := by decide +kernel
theorem dX2_harmIn_22 : decode cX2_harmIn 22 = .ok (.iload_n 3, 1) := by decide +kernel
theorem dX2_harmIn_23 : decode cX2_harmIn 23 = .ok (.iaload, 1) := by decide +kernel
theorem dX2_harmIn_24 : decode cX2_harmIn 24 = .ok (.iload_n 1, 1) := by decide +kernel
theorem dX2_harmIn_25 : decode cX2_harmIn 25 = .ok (.if_icmp .ne 15, 3) := by decide +kernel
theorem dX2_harmIn_28 : decode cX2_harmIn 28 = .ok (.iload_n 2, 1) := by decide +kernel
theorem dX2_harmIn_29 : decode cX2_harmIn 29 = .ok (.aload_n 0, 1) := by decide +kernel
theorem dX2_harmIn_30 : decode cX2_harmIn 30 = .ok (.getfield 21, 3) := by decide +kernel
theorem dX2_harmIn_33 : decode cX2_harmIn 33 = .ok (.getfield 150, 3) := by decide +kernel
theorem dX2_harmIn_36 : decode cX2_harmIn 36 = .ok (.iload_n 3, 1) := by decide +kernel
theorem dX2_harmIn_37 : decode cX2_harmIn 37 = .ok (.iaload, 1) := by decide +kernel
theorem dX2_harmIn_38 : decode cX2_harmIn 38 = .ok (.iadd, 1) := by decide +kernel
theorem dX2_harmIn_39 : decode cX2_harmIn 39 = .ok (.istore_n 2, 1) := by decide +kernel
theorem dX2_harmIn_40 : decode cX2_harmIn 40 = .ok (.iinc 3 1, 3) := by decide +kernel
theorem dX2_harmIn_43 : decode cX2_harmIn 43 = .ok (.goto (-39), 3) := by decide +kernel
theorem dX2_harmIn_46 : decode cX2_harmIn 46 = .ok (.iload_n 2, 1) := by decide +kernel
theorem dX2_harmIn_47 : decode cX2_harmIn 47 = .ok (.ireturn, 1) := by decide +kernel
theorem dX2_shareOf_0 : decode cX2_shareOf 0 = .ok (.aload_n 0, 1) := by decide +kernel
theorem dX2_shareOf_1 : decode cX2_shareOf 1 = .ok (.iload_n 1, 1) := by decide +kernel
theorem dX2_shareOf_2 : decode cX2_shareOf 2 = .ok (.invokevirtual 153, 3) := by decide +kernel
theorem dX2_shareOf_5 : decode cX2_shareOf 5 = .ok (.istore_n 3, 1) := by decide +kernel
theorem dX2_shareOf_6 : decode cX2_shareOf 6 = .ok (.iload_n 3, 1) := by decide +kernel
theorem dX2_shareOf_7 : decode cX2_shareOf 7 = .ok (.iconst (-1), 1) := by decide +kernel
theorem dX2_shareOf_8 : decode cX2_shareOf 8 = .ok (.if_icmp .ne 5, 3) := by decide +kernel
theorem dX2_shareOf_11 : decode cX2_shareOf 11 = .ok (.iconst (-1), 1) := by decide +kernel
theorem dX2_shareOf_12 : decode cX2_shareOf 12 = .ok (.ireturn, 1) := by decide +kernel
theorem dX2_shareOf_13 : decode cX2_shareOf 13 = .ok (.iload_n 1, 1) := by decide +kernel
theorem dX2_shareOf_14 : decode cX2_shareOf 14 = .ok (.istore 4, 2) := by decide +kernel
theorem dX2_shareOf_16 : decode cX2_shareOf 16 = .ok (.iconst 0, 1) := by decide +kernel
theorem dX2_shareOf_17 : decode cX2_shareOf 17 = .ok (.istore 5, 2) := by decide +kernel
theorem dX2_shareOf_19 : decode cX2_shareOf 19 = .ok (.iload 5, 2) := by decide +kernel
theorem dX2_shareOf_21 : decode cX2_shareOf 21 = .ok (.iload_n 2, 1) := by decide +kernel
theorem dX2_shareOf_22 : decode cX2_shareOf 22 = .ok (.if_icmp .ge 23, 3) := by decide +kernel
theorem dX2_shareOf_25 : decode cX2_shareOf 25 = .ok (.iload 4, 2) := by decide +kernel
theorem dX2_shareOf_27 : decode cX2_shareOf 27 = .ok (.aload_n 0, 1) := by decide +kernel
theorem dX2_shareOf_28 : decode cX2_shareOf 28 = .ok (.iload 4, 2) := by decide +kernel
theorem dX2_shareOf_30 : decode cX2_shareOf 30 = .ok (.iload 5, 2) := by decide +kernel
theorem dX2_shareOf_32 : decode cX2_shareOf 32 = .ok (.iload_n 3, 1) := by decide +kernel
theorem dX2_shareOf_33 : decode cX2_shareOf 33 = .ok (.invokevirtual 156, 3) := by decide +kernel
theorem dX2_shareOf_36 : decode cX2_shareOf 36 = .ok (.isub, 1) := by decide +kernel
theorem dX2_shareOf_37 : decode cX2_shareOf 37 = .ok (.istore 4, 2) := by decide +kernel
theorem dX2_shareOf_39 : decode cX2_shareOf 39 = .ok (.iinc 5 1, 3) := by decide +kernel
theorem dX2_shareOf_42 : decode cX2_shareOf 42 = .ok (.goto (-23), 3) := by decide +kernel
theorem dX2_shareOf_45 : decode cX2_shareOf 45 = .ok (.aload_n 0, 1) := by decide +kernel
theorem dX2_shareOf_46 : decode cX2_shareOf 46 = .ok (.iload 4, 2) := by decide +kernel
theorem dX2_shareOf_48 : decode cX2_shareOf 48 = .ok (.iload_n 2, 1) := by decide +kernel
theorem dX2_shareOf_49 : decode cX2_shareOf 49 = .ok (.iload_n 3, 1) := by decide +kernel
theorem dX2_shareOf_50 : decode cX2_shareOf 50 = .ok (.invokevirtual 156, 3) := by decide +kernel
theorem dX2_shareOf_53 : decode cX2_shareOf 53 = .ok (.ireturn, 1) := by decide +kernel
theorem dX2_shareAhead_0 : decode cX2_shareAhead 0 = .ok (.iconst 0, 1) := by decide +kernel
theorem dX2_shareAhead_1 : decode cX2_shareAhead 1 = .ok (.iload_n 1, 1) := by decide +kernel
theorem dX2_shareAhead_2 : decode cX2_shareAhead 2 = .ok (.aload_n 0, 1) := by decide +kernel
theorem dX2_shareAhead_3 : decode cX2_shareAhead 3 = .ok (.iload_n 2, 1) := by decide +kernel
theorem dX2_shareAhead_4 : decode cX2_shareAhead 4 = .ok (.iconst 1, 1) := by decide +kernel
theorem dX2_shareAhead_5 : decode cX2_shareAhead 5 = .ok (.iadd, 1) := by decide +kernel
theorem dX2_shareAhead_6 : decode cX2_shareAhead 6 = .ok (.iload_n 3, 1) := by decide +kernel
theorem dX2_shareAhead_7 : decode cX2_shareAhead 7 = .ok (.invokevirtual 160, 3) := by decide +kernel
theorem dX2_shareAhead_10 : decode cX2_shareAhead 10 = .ok (.isub, 1) := by decide +kernel
theorem dX2_shareAhead_11 : decode cX2_shareAhead 11 = .ok (.invokestatic 84, 3) := by decide +kernel
theorem dX2_shareAhead_14 : decode cX2_shareAhead 14 = .ok (.ireturn, 1) := by decide +kernel
theorem dX2_leastCeiling_0 : decode cX2_leastCeiling 0 = .ok (.iconst 0, 1) := by decide +kernel
theorem dX2_leastCeiling_1 : decode cX2_leastCeiling 1 = .ok (.istore_n 2, 1) := by decide +kernel
theorem dX2_leastCeiling_2 : decode cX2_leastCeiling 2 = .ok (.iload_n 2, 1) := by decide +kernel
theorem dX2_leastCeiling_3 : decode cX2_leastCeiling 3 = .ok (.bipush 99, 2) := by decide +kernel
theorem dX2_leastCeiling_5 : decode cX2_leastCeiling 5 = .ok (.if_icmp .gt 21, 3) := by decide +kernel
theorem dX2_leastCeiling_8 : decode cX2_leastCeiling 8 = .ok (.aload_n 0, 1) := by decide +kernel
theorem dX2_leastCeiling_9 : decode cX2_leastCeiling 9 = .ok (.iconst 0, 1) := by decide +kernel
theorem dX2_leastCeiling_10 : decode cX2_leastCeiling 10 = .ok (.iload_n 2, 1) := by decide +kernel
theorem dX2_leastCeiling_11 : decode cX2_leastCeiling 11 = .ok (.invokevirtual 160, 3) := by decide +kernel
theorem dX2_leastCeiling_14 : decode cX2_leastCeiling 14 = .ok (.iload_n 1, 1) := by decide +kernel
theorem dX2_leastCeiling_15 : decode cX2_leastCeiling 15 = .ok (.if_icmp .lt 5, 3) := by decide +kernel
theorem dX2_leastCeiling_18 : decode cX2_leastCeiling 18 = .ok (.iload_n 2, 1) := by decide +kernel
theorem dX2_leastCeiling_19 : decode cX2_leastCeiling 19 = .ok (.ireturn, 1) := by decide +kernel
theorem dX2_leastCeiling_20 : decode cX2_leastCeiling 20 = .ok (.iinc 2 1, 3) := by decide +kernel
theorem dX2_leastCeiling_23 : decode cX2_leastCeiling 23 = .ok (.goto (-21), 3) := by decide +kernel
theorem dX2_leastCeiling_26 : decode cX2_leastCeiling 26 = .ok (.iconst (-1), 1) := by decide +kernel
theorem dX2_leastCeiling_27 : decode cX2_leastCeiling 27 = .ok (.ireturn, 1) := by decide +kernel
theorem dX2_roomFrom_0 : decode cX2_roomFrom 0 = .ok (.iconst 0, 1) := by decide +kernel
theorem dX2_roomFrom_1 : decode cX2_roomFrom 1 = .ok (.istore_n 3, 1) := by decide +kernel
theorem dX2_roomFrom_2 : decode cX2_roomFrom 2 = .ok (.iload_n 1, 1) := by decide +kernel
theorem dX2_roomFrom_3 : decode cX2_roomFrom 3 = .ok (.istore 4, 2) := by decide +kernel
theorem dX2_roomFrom_5 : decode cX2_roomFrom 5 = .ok (.iload 4, 2) := by decide +kernel
theorem dX2_roomFrom_7 : decode cX2_roomFrom 7 = .ok (.aload_n 0, 1) := by decide +kernel
theorem dX2_roomFrom_8 : decode cX2_roomFrom 8 = .ok (.getfield 12, 3) := by decide +kernel
theorem dX2_roomFrom_11 : decode cX2_roomFrom 11 = .ok (.getfield 36, 3) := by decide +kernel
theorem dX2_roomFrom_14 : decode cX2_roomFrom 14 = .ok (.if_icmp .ge 26, 3) := by decide +kernel
theorem dX2_roomFrom_17 : decode cX2_roomFrom 17 = .ok (.iload_n 3, 1) := by decide +kernel
theorem dX2_roomFrom_18 : decode cX2_roomFrom 18 = .ok (.iload_n 2, 1) := by decide +kernel
theorem dX2_roomFrom_19 : decode cX2_roomFrom 19 = .ok (.aload_n 0, 1) := by decide +kernel
theorem dX2_roomFrom_20 : decode cX2_roomFrom 20 = .ok (.getfield 21, 3) := by decide +kernel
theorem dX2_roomFrom_23 : decode cX2_roomFrom 23 = .ok (.getfield 138, 3) := by decide +kernel
theorem dX2_roomFrom_26 : decode cX2_roomFrom 26 = .ok (.iload 4, 2) := by decide +kernel
theorem dX2_roomFrom_28 : decode cX2_roomFrom 28 = .ok (.iaload, 1) := by decide +kernel
theorem dX2_roomFrom_29 : decode cX2_roomFrom 29 = .ok (.invokestatic 92, 3) := by decide +kernel
theorem dX2_roomFrom_32 : decode cX2_roomFrom 32 = .ok (.iadd, 1) := by decide +kernel
theorem dX2_roomFrom_33 : decode cX2_roomFrom 33 = .ok (.istore_n 3, 1) := by decide +kernel
theorem dX2_roomFrom_34 : decode cX2_roomFrom 34 = .ok (.iinc 4 1, 3) := by decide +kernel
theorem dX2_roomFrom_37 : decode cX2_roomFrom 37 = .ok (.goto (-32), 3) := by decide +kernel
theorem dX2_roomFrom_40 : decode cX2_roomFrom 40 = .ok (.iload_n 3, 1) := by decide +kernel
theorem dX2_roomFrom_41 : decode cX2_roomFrom 41 = .ok (.ireturn, 1) := by decide +kernel
theorem dX3_init_0 : decode cX3_init 0 = .ok (.aload_n 0, 1) := by decide +kernel
theorem dX3_init_1 : decode cX3_init 1 = .ok (.invokespecial 1, 3) := by decide +kernel
theorem dX3_init_4 : decode cX3_init 4 = .ok (.return_, 1) := by decide +kernel
theorem dX3_next_0 : decode cX3_next 0 = .ok (.aload_n 0, 1) := by decide +kernel
theorem dX3_next_1 : decode cX3_next 1 = .ok (.aload_n 0, 1) := by decide +kernel
theorem dX3_next_2 : decode cX3_next 2 = .ok (.getfield 7, 3) := by decide +kernel
theorem dX3_next_5 : decode cX3_next 5 = .ok (.i2l, 1) := by decide +kernel
theorem dX3_next_6 : decode cX3_next 6 = .ok (.ldc2_w 13, 3) := by decide +kernel
theorem dX3_next_9 : decode cX3_next 9 = .ok (.lmul, 1) := by decide +kernel
theorem dX3_next_10 : decode cX3_next 10 = .ok (.ldc2_w 15, 3) := by decide +kernel
theorem dX3_next_13 : decode cX3_next 13 = .ok (.ladd, 1) := by decide +kernel
theorem dX3_next_14 : decode cX3_next 14 = .ok (.ldc2_w 17, 3) := by decide +kernel
theorem dX3_next_17 : decode cX3_next 17 = .ok (.land, 1) := by decide +kernel
theorem dX3_next_18 : decode cX3_next 18 = .ok (.l2i, 1) := by decide +kernel
theorem dX3_next_19 : decode cX3_next 19 = .ok (.putfield 7, 3) := by decide +kernel
theorem dX3_next_22 : decode cX3_next 22 = .ok (.iload_n 1, 1) := by decide +kernel
theorem dX3_next_23 : decode cX3_next 23 = .ok (.ifCond .le 15, 3) := by decide +kernel
theorem dX3_next_26 : decode cX3_next 26 = .ok (.aload_n 0, 1) := by decide +kernel
theorem dX3_next_27 : decode cX3_next 27 = .ok (.getfield 7, 3) := by decide +kernel
theorem dX3_next_30 : decode cX3_next 30 = .ok (.ldc 19, 2) := by decide +kernel
theorem dX3_next_32 : decode cX3_next 32 = .ok (.idiv, 1) := by decide +kernel
theorem dX3_next_33 : decode cX3_next 33 = .ok (.iload_n 1, 1) := by decide +kernel
theorem dX3_next_34 : decode cX3_next 34 = .ok (.irem, 1) := by decide +kernel
theorem dX3_next_35 : decode cX3_next 35 = .ok (.goto 4, 3) := by decide +kernel
theorem dX3_next_38 : decode cX3_next 38 = .ok (.iconst 0, 1) := by decide +kernel
theorem dX3_next_39 : decode cX3_next 39 = .ok (.ireturn, 1) := by decide +kernel
theorem dX4_init_0 : decode cX4_init 0 = .ok (.aload_n 0, 1) := by decide +kernel
theorem dX4_init_1 : decode cX4_init 1 = .ok (.invokespecial 3, 3) := by decide +kernel
theorem dX4_init_4 : decode cX4_init 4 = .ok (.aload_n 0, 1) := by decide +kernel
theorem dX4_init_5 : decode cX4_init 5 = .ok (.bipush 7, 2) := by decide +kernel
theorem dX4_init_7 : decode cX4_init 7 = .ok (.newarray .int, 2) := by decide +kernel
theorem dX4_init_9 : decode cX4_init 9 = .ok (.putfield 9, 3) := by decide +kernel
theorem dX4_init_12 : decode cX4_init 12 = .ok (.aload_n 0, 1) := by decide +kernel
theorem dX4_init_13 : decode cX4_init 13 = .ok (.bipush 7, 2) := by decide +kernel
theorem dX4_init_15 : decode cX4_init 15 = .ok (.newarray .int, 2) := by decide +kernel
theorem dX4_init_17 : decode cX4_init 17 = .ok (.putfield 15, 3) := by decide +kernel
theorem dX4_init_20 : decode cX4_init 20 = .ok (.aload_n 0, 1) := by decide +kernel
theorem dX4_init_21 : decode cX4_init 21 = .ok (.bipush 7, 2) := by decide +kernel
theorem dX4_init_23 : decode cX4_init 23 = .ok (.newarray .int, 2) := by decide +kernel
theorem dX4_init_25 : decode cX4_init 25 = .ok (.putfield 18, 3) := by decide +kernel
theorem dX4_init_28 : decode cX4_init 28 = .ok (.aload_n 0, 1) := by decide +kernel
theorem dX4_init_29 : decode cX4_init 29 = .ok (.bipush 7, 2) := by decide +kernel
theorem dX4_init_31 : decode cX4_init 31 = .ok (.newarray .int, 2) := by decide +kernel
theorem dX4_init_33 : decode cX4_init 33 = .ok (.putfield 21, 3) := by decide +kernel
theorem dX4_init_36 : decode cX4_init 36 = .ok (.aload_n 0, 1) := by decide +kernel
theorem dX4_init_37 : decode cX4_init 37 = .ok (.iconst 4, 1) := by decide +kernel
theorem dX4_init_38 : decode cX4_init 38 = .ok (.newarray .int, 2) := by decide +kernel
theorem dX4_init_40 : decode cX4_init 40 = .ok (.putfield 24, 3) := by decide +kernel
theorem dX4_init_43 : decode cX4_init 43 = .ok (.aload_n 0, 1) := by decide +kernel
theorem dX4_init_44 : decode cX4_init 44 = .ok (.iconst 4, 1) := by decide +kernel
theorem dX4_init_45 : decode cX4_init 45 = .ok (.newarray .int, 2) := by decide +kernel
theorem dX4_init_47 : decode cX4_init 47 = .ok (.putfield 27, 3) := by decide +kernel
theorem dX4_init_50 : decode cX4_init 50 = .ok (.return_, 1) := by decide +kernel
theorem dX4_clear_0 : decode cX4_clear 0 = .ok (.aload_n 0, 1) := by decide +kernel
theorem dX4_clear_1 : decode cX4_clear 1 = .ok (.iconst 0, 1) := by decide +kernel
theorem dX4_clear_2 : decode cX4_clear 2 = .ok (.putfield 30, 3) := by decide +kernel
theorem dX4_clear_5 : decode cX4_clear 5 = .ok (.aload_n 0, 1) := by decide +kernel
theorem dX4_clear_6 : decode cX4_clear 6 = .ok (.iconst 0, 1) := by decide +kernel
theorem dX4_clear_7 : decode cX4_clear 7 = .ok (.putfield 34, 3) := by decide +kernel
theorem dX4_clear_10 : decode cX4_clear 10 = .ok (.aload_n 0, 1) := by decide +kernel
theorem dX4_clear_11 : decode cX4_clear 11 = .ok (.iconst 0, 1) := by decide +kernel
theorem dX4_clear_12 : decode cX4_clear 12 = .ok (.putfield 38, 3) := by decide +kernel
theorem dX4_clear_15 : decode cX4_clear 15 = .ok (.aload_n 0, 1) := by decide +kernel
theorem dX4_clear_16 : decode cX4_clear 16 = .ok (.iconst 0, 1) := by decide +kernel
theorem dX4_clear_17 : decode cX4_clear 17 = .ok (.putfield 41, 3) := by decide +kernel
theorem dX4_clear_20 : decode cX4_clear 20 = .ok (.aload_n 0, 1) := by decide +kernel
theorem dX4_clear_21 : decode cX4_clear 21 = .ok (.iconst 0, 1) := by decide +kernel
theorem dX4_clear_22 : decode cX4_clear 22 = .ok (.putfield 44, 3) := by decide +kernel
theorem dX4_clear_25 : decode cX4_clear 25 = .ok (.aload_n 0, 1) := by decide +kernel
theorem dX4_clear_26 : decode cX4_clear 26 = .ok (.getfield 27, 3) := by decide +kernel
theorem dX4_clear_29 : decode cX4_clear 29 = .ok (.iconst 0, 1) := by decide +kernel
theorem dX4_clear_30 : decode cX4_clear 30 = .ok (.invokestatic 47, 3) := by decide +kernel
theorem dX4_clear_33 : decode cX4_clear 33 = .ok (.return_, 1) := by decide +kernel
theorem dX4_addVillage_0 : decode cX4_addVillage 0 = .ok (.aload_n 0, 1) := by decide +kernel
theorem dX4_addVillage_1 : decode cX4_addVillage 1 = .ok (.getfield 41, 3) := by decide +kernel
theorem dX4_addVillage_4 : decode cX4_addVillage 4 = .ok (.iconst 4, 1) := by decide +kernel
theorem dX4_addVillage_5 : decode cX4_addVillage 5 = .ok (.if_icmp .lt 4, 3) := by decide +kernel
theorem dX4_addVillage_8 : decode cX4_addVillage 8 = .ok (.return_, 1) := by decide +kernel
theorem dX4_addVillage_9 : decode cX4_addVillage 9 = .ok (.aload_n 0, 1) := by decide +kernel
theorem dX4_addVillage_10 : decode cX4_addVillage 10 = .ok (.getfield 24, 3) := by decide +kernel
theorem dX4_addVillage_13 : decode cX4_addVillage 13 = .ok (.aload_n 0, 1) := by decide +kernel
theorem dX4_addVillage_14 : decode cX4_addVillage 14 = .ok (.getfield 41, 3) := by decide +kernel
theorem dX4_addVillage_17 : decode cX4_addVillage 17 = .ok (.iload_n 1, 1) := by decide +kernel
theorem dX4_addVillage_18 : decode cX4_addVillage 18 = .ok (.iastore, 1) := by decide +kernel
theorem dX4_addVillage_19 : decode cX4_addVillage 19 = .ok (.aload_n 0, 1) := by decide +kernel
theorem dX4_addVillage_20 : decode cX4_addVillage 20 = .ok (.dup, 1) := by decide +kernel
theorem dX4_addVillage_21 : decode cX4_addVillage 21 = .ok (.getfield 41, 3) := by decide +kernel
theorem dX4_addVillage_24 : decode cX4_addVillage 24 = .ok (.iconst 1, 1) := by decide +kernel
theorem dX4_addVillage_25 : decode cX4_addVillage 25 = .ok (.iadd, 1) := by decide +kernel
theorem dX4_addVillage_26 : decode cX4_addVillage 26 = .ok (.putfield 41, 3) := by decide +kernel
theorem dX4_addVillage_29 : decode cX4_addVillage 29 = .ok (.return_, 1) := by decide +kernel
theorem dX4_addPerson_0 : decode cX4_addPerson 0 = .ok (.aload_n 0, 1) := by decide +kernel
theorem dX4_addPerson_1 : decode cX4_addPerson 1 = .ok (.getfield 44, 3) := by decide +kernel
theorem dX4_addPerson_4 : decode cX4_addPerson 4 = .ok (.bipush 7, 2) := by decide +kernel
theorem dX4_addPerson_6 : decode cX4_addPerson 6 = .ok (.if_icmp .ge 15, 3) := by decide +kernel
theorem dX4_addPerson_9 : decode cX4_addPerson 9 = .ok (.iload_n 2, 1) := by decide +kernel
theorem dX4_addPerson_10 : decode cX4_addPerson 10 = .ok (.ifCond .lt 11, 3) := by decide +kernel
theorem dX4_addPerson_13 : decode cX4_addPerson 13 = .ok (.iload_n 2, 1) := by decide +kernel
theorem dX4_addPerson_14 : decode cX4_addPerson 14 = .ok (.aload_n 0, 1) := by decide +kernel
theorem dX4_addPerson_15 : decode cX4_addPerson 15 = .ok (.getfield 41, 3) := by decide +kernel
theorem dX4_addPerson_18 : decode cX4_addPerson 18 = .ok (.if_icmp .lt 4, 3) := by decide +kernel
theorem dX4_addPerson_21 : decode cX4_addPerson 21 = .ok (.return_, 1) := by decide +kernel
theorem dX4_addPerson_22 : decode cX4_addPerson 22 = .ok (.aload_n 0, 1) := by decide +kernel
theorem dX4_addPerson_23 : decode cX4_addPerson 23 = .ok (.getfield 9, 3) := by decide +kernel
theorem dX4_addPerson_26 : decode cX4_addPerson 26 = .ok (.aload_n 0, 1) := by decide +kernel
theorem dX4_addPerson_27 : decode cX4_addPerson 27 = .ok (.getfield 44, 3) := by decide +kernel
theorem dX4_addPerson_30 : decode cX4_addPerson 30 = .ok (.iload_n 1, 1) := by decide +kernel
theorem dX4_addPerson_31 : decode cX4_addPerson 31 = .ok (.iastore, 1) := by decide +kernel
theorem dX4_addPerson_32 : decode cX4_addPerson 32 = .ok (.aload_n 0, 1) := by decide +kernel
theorem dX4_addPerson_33 : decode cX4_addPerson 33 = .ok (.getfield 15, 3) := by decide +kernel
theorem dX4_addPerson_36 : decode cX4_addPerson 36 = .ok (.aload_n 0, 1) := by decide +kernel
theorem dX4_addPerson_37 : decode cX4_addPerson 37 = .ok (.getfield 44, 3) := by decide +kernel
theorem dX4_addPerson_40 : decode cX4_addPerson 40 = .ok (.iload_n 2, 1) := by decide +kernel
theorem dX4_addPerson_41 : decode cX4_addPerson 41 = .ok (.iastore, 1) := by decide +kernel
theorem dX4_addPerson_42 : decode cX4_addPerson 42 = .ok (.aload_n 0, 1) := by decide +kernel
theorem dX4_addPerson_43 : decode cX4_addPerson 43 = .ok (.getfield 18, 3) := by decide +kernel
theorem dX4_addPerson_46 : decode cX4_addPerson 46 = .ok (.aload_n 0, 1) := by decide +kernel
theorem dX4_addPerson_47 : decode cX4_addPerson 47 = .ok (.getfield 44, 3) := by decide +kernel
theorem dX4_addPerson_50 : decode cX4_addPerson 50 = .ok (.iload_n 3, 1) := by decide +kernel
theorem dX4_addPerson_51 : decode cX4_addPerson 51 = .ok (.iastore, 1) := by decide +kernel
theorem dX4_addPerson_52 : decode cX4_addPerson 52 = .ok (.aload_n 0, 1) := by decide +kernel
theorem dX4_addPerson_53 : decode cX4_addPerson 53 = .ok (.getfield 21, 3) := by decide +kernel
theorem dX4_addPerson_56 : decode cX4_addPerson 56 = .ok (.aload_n 0, 1) := by decide +kernel
theorem dX4_addPerson_57 : decode cX4_addPerson 57 = .ok (.getfield 44, 3) := by decide +kernel
theorem dX4_addPerson_60 : decode cX4_addPerson 60 = .ok (.iload 4, 2) := by decide +kernel
theorem dX4_addPerson_62 : decode cX4_addPerson 62 = .ok (.iastore, 1) := by decide +kernel
theorem dX4_addPerson_63 : decode cX4_addPerson 63 = .ok (.aload_n 0, 1) := by decide +kernel
theorem dX4_addPerson_64 : decode cX4_addPerson 64 = .ok (.getfield 27, 3) := by decide +kernel
theorem dX4_addPerson_67 : decode cX4_addPerson 67 = .ok (.iload_n 2, 1) := by decide +kernel
theorem dX4_addPerson_68 : decode cX4_addPerson 68 = .ok (.dup2, 1) := by decide +kernel
theorem dX4_addPerson_69 : decode cX4_addPerson 69 = .ok (.iaload, 1) := by decide +kernel
theorem dX4_addPerson_70 : decode cX4_addPerson 70 = .ok (.iconst 1, 1) := by decide +kernel
theorem dX4_addPerson_71 : decode cX4_addPerson 71 = .ok (.aload_n 0, 1) := by decide +kernel
theorem dX4_addPerson_72 : decode cX4_addPerson 72 = .ok (.getfield 44, 3) := by decide +kernel
theorem dX4_addPerson_75 : decode cX4_addPerson 75 = .ok (.ishl, 1) := by decide +kernel
theorem dX4_addPerson_76 : decode cX4_addPerson 76 = .ok (.ior, 1) := by decide +kernel
theorem dX4_addPerson_77 : decode cX4_addPerson 77 = .ok (.iastore, 1) := by decide +kernel
theorem dX4_addPerson_78 : decode cX4_addPerson 78 = .ok (.aload_n 0, 1) := by decide +kernel
theorem dX4_addPerson_79 : decode cX4_addPerson 79 = .ok (.dup, 1) := by decide +kernel
theorem dX4_addPerson_80 : decode cX4_addPerson 80 = .ok (.getfield 44, 3) := by decide +kernel
theorem dX4_addPerson_83 : decode cX4_addPerson 83 = .ok (.iconst 1, 1) := by decide +kernel
theorem dX4_addPerson_84 : decode cX4_addPerson 84 = .ok (.iadd, 1) := by decide +kernel
theorem dX4_addPerson_85 : decode cX4_addPerson 85 = .ok (.putfield 44, 3) := by decide +kernel
theorem dX4_addPerson_88 : decode cX4_addPerson 88 = .ok (.return_, 1) := by decide +kernel
theorem dX4_settleFrom_0 : decode cX4_settleFrom 0 = .ok (.iconst 0, 1) := by decide +kernel
theorem dX4_settleFrom_1 : decode cX4_settleFrom 1 = .ok (.istore_n 1, 1) := by decide +kernel
theorem dX4_settleFrom_2 : decode cX4_settleFrom 2 = .ok (.iload_n 1, 1) := by decide +kernel
theorem dX4_settleFrom_3 : decode cX4_settleFrom 3 = .ok (.aload_n 0, 1) := by decide +kernel
theorem dX4_settleFrom_4 : decode cX4_settleFrom 4 = .ok (.getfield 44, 3) := by decide +kernel
theorem dX4_settleFrom_7 : decode cX4_settleFrom 7 = .ok (.if_icmp .ge 29, 3) := by decide +kernel
theorem dX4_settleFrom_10 : decode cX4_settleFrom 10 = .ok (.aload_n 0, 1) := by decide +kernel
theorem dX4_settleFrom_11 : decode cX4_settleFrom 11 = .ok (.getfield 21, 3) := by decide +kernel
theorem dX4_settleFrom_14 : decode cX4_settleFrom 14 = .ok (.iload_n 1, 1) := by decide +kernel
theorem dX4_settleFrom_15 : decode cX4_settleFrom 15 = .ok (.iaload, 1) := by decide +kernel
theorem dX4_settleFrom_16 : decode cX4_settleFrom 16 = .ok (.aload_n 0, 1) := by decide +kernel
theorem dX4_settleFrom_17 : decode cX4_settleFrom 17 = .ok (.getfield 44, 3) := by decide +kernel
theorem dX4_settleFrom_20 : decode cX4_settleFrom 20 = .ok (.if_icmp .lt 10, 3) := by decide +kernel
theorem dX4_settleFrom_23 : decode cX4_settleFrom 23 = .ok (.aload_n 0, 1) := by decide +kernel
theorem dX4_settleFrom_24 : decode cX4_settleFrom 24 = .ok (.getfield 21, 3) := by decide +kernel
theorem dX4_settleFrom_27 : decode cX4_settleFrom 27 = .ok (.iload_n 1, 1) := by decide +kernel
theorem dX4_settleFrom_28 : decode cX4_settleFrom 28 = .ok (.iconst (-1), 1) := by decide +kernel
theorem dX4_settleFrom_29 : decode cX4_settleFrom 29 = .ok (.iastore, 1) := by decide +kernel
theorem dX4_settleFrom_30 : decode cX4_settleFrom 30 = .ok (.iinc 1 1, 3) := by decide +kernel
theorem dX4_settleFrom_33 : decode cX4_settleFrom 33 = .ok (.goto (-31), 3) := by decide +kernel
theorem dX4_settleFrom_36 : decode cX4_settleFrom 36 = .ok (.return_, 1) := by decide +kernel
theorem dX4_everybody_0 : decode cX4_everybody 0 = .ok (.iconst 1, 1) := by decide +kernel
theorem dX4_everybody_1 : decode cX4_everybody 1 = .ok (.aload_n 0, 1) := by decide +kernel
theorem dX4_everybody_2 : decode cX4_everybody 2 = .ok (.getfield 44, 3) := by decide +kernel
theorem dX4_everybody_5 : decode cX4_everybody 5 = .ok (.ishl, 1) := by decide +kernel
theorem dX4_everybody_6 : decode cX4_everybody 6 = .ok (.iconst 1, 1) := by decide +kernel
theorem dX4_everybody_7 : decode cX4_everybody 7 = .ok (.isub, 1) := by decide +kernel
theorem dX4_everybody_8 : decode cX4_everybody 8 = .ok (.ireturn, 1) := by decide +kernel
theorem dX4_ringOf_0 : decode cX4_ringOf 0 = .ok (.iload_n 1, 1) := by decide +kernel
theorem dX4_ringOf_1 : decode cX4_ringOf 1 = .ok (.istore_n 2, 1) := by decide +kernel
theorem dX4_ringOf_2 : decode cX4_ringOf 2 = .ok (.iconst 0, 1) := by decide +kernel
theorem dX4_ringOf_3 : decode cX4_ringOf 3 = .ok (.istore_n 3, 1) := by decide +kernel
theorem dX4_ringOf_4 : decode cX4_ringOf 4 = .ok (.iload_n 3, 1) := by decide +kernel
theorem dX4_ringOf_5 : decode cX4_ringOf 5 = .ok (.aload_n 0, 1) := by decide +kernel
theorem dX4_ringOf_6 : decode cX4_ringOf 6 = .ok (.getfield 44, 3) := by decide +kernel
theorem dX4_ringOf_9 : decode cX4_ringOf 9 = .ok (.if_icmp .ge 21, 3) := by decide +kernel
theorem dX4_ringOf_12 : decode cX4_ringOf 12 = .ok (.iload_n 2, 1) := by decide +kernel
theorem dX4_ringOf_13 : decode cX4_ringOf 13 = .ok (.iconst (-1), 1) := by decide +kernel
theorem dX4_ringOf_14 : decode cX4_ringOf 14 = .ok (.if_icmp .eq 16, 3) := by decide +kernel
theorem dX4_ringOf_17 : decode cX4_ringOf 17 = .ok (.aload_n 0, 1) := by decide +kernel
theorem dX4_ringOf_18 : decode cX4_ringOf 18 = .ok (.getfield 21, 3) := by decide +kernel
theorem dX4_ringOf_21 : decode cX4_ringOf 21 = .ok (.iload_n 2, 1) := by decide +kernel
theorem dX4_ringOf_22 : decode cX4_ringOf 22 = .ok (.iaload, 1) := by decide +kernel
theorem dX4_ringOf_23 : decode cX4_ringOf 23 = .ok (.istore_n 2, 1) := by decide +kernel
theorem dX4_ringOf_24 : decode cX4_ringOf 24 = .ok (.iinc 3 1, 3) := by decide +kernel
theorem dX4_ringOf_27 : decode cX4_ringOf 27 = .ok (.goto (-23), 3) := by decide +kernel
theorem dX4_ringOf_30 : decode cX4_ringOf 30 = .ok (.iload_n 2, 1) := by decide +kernel
theorem dX4_ringOf_31 : decode cX4_ringOf 31 = .ok (.iconst (-1), 1) := by decide +kernel
theorem dX4_ringOf_32 : decode cX4_ringOf 32 = .ok (.if_icmp .ne 5, 3) := by decide +kernel
theorem dX4_ringOf_35 : decode cX4_ringOf 35 = .ok (.iconst (-1), 1) := by decide +kernel
theorem dX4_ringOf_36 : decode cX4_ringOf 36 = .ok (.ireturn, 1) := by decide +kernel
theorem dX4_ringOf_37 : decode cX4_ringOf 37 = .ok (.iconst 1, 1) := by decide +kernel
theorem dX4_ringOf_38 : decode cX4_ringOf 38 = .ok (.istore_n 3, 1) := by decide +kernel
theorem dX4_ringOf_39 : decode cX4_ringOf 39 = .ok (.aload_n 0, 1) := by decide +kernel
theorem dX4_ringOf_40 : decode cX4_ringOf 40 = .ok (.getfield 21, 3) := by decide +kernel
theorem dX4_ringOf_43 : decode cX4_ringOf 43 = .ok (.iload_n 2, 1) := by decide +kernel
theorem dX4_ringOf_44 : decode cX4_ringOf 44 = .ok (.iaload, 1) := by decide +kernel
theorem dX4_ringOf_45 : decode cX4_ringOf 45 = .ok (.istore 4, 2) := by decide +kernel
theorem dX4_ringOf_47 : decode cX4_ringOf 47 = .ok (.iload 4, 2) := by decide +kernel
theorem dX4_ringOf_49 : decode cX4_ringOf 49 = .ok (.iload_n 2, 1) := by decide +kernel
theorem dX4_ringOf_50 : decode cX4_ringOf 50 = .ok (.if_icmp .eq 32, 3) := by decide +kernel
theorem dX4_ringOf_53 : decode cX4_ringOf 53 = .ok (.iload 4, 2) := by decide +kernel
theorem dX4_ringOf_55 : decode cX4_ringOf 55 = .ok (.iconst (-1), 1) := by decide +kernel
theorem dX4_ringOf_56 : decode cX4_ringOf 56 = .ok (.if_icmp .eq 26, 3) := by decide +kernel
theorem dX4_ringOf_59 : decode cX4_ringOf 59 = .ok (.iload_n 3, 1) := by decide +kernel
theorem dX4_ringOf_60 : decode cX4_ringOf 60 = .ok (.aload_n 0, 1) := by decide +kernel
theorem dX4_ringOf_61 : decode cX4_ringOf 61 = .ok (.getfield 44, 3) := by decide +kernel
theorem dX4_ringOf_64 : decode cX4_ringOf 64 = .ok (.if_icmp .ge 18, 3) := by decide +kernel
theorem dX4_ringOf_67 : decode cX4_ringOf 67 = .ok (.iinc 3 1, 3) := by decide +kernel
theorem dX4_ringOf_70 : decode cX4_ringOf 70 = .ok (.aload_n 0, 1) := by decide +kernel
theorem dX4_ringOf_71 : decode cX4_ringOf 71 = .ok (.getfield 21, 3) := by decide +kernel
theorem dX4_ringOf_74 : decode cX4_ringOf 74 = .ok (.iload 4, 2) := by decide +kernel
theorem dX4_ringOf_76 : decode cX4_ringOf 76 = .ok (.iaload, 1) := by decide +kernel
theorem dX4_ringOf_77 : decode cX4_ringOf 77 = .ok (.istore 4, 2) := by decide +kernel
theorem dX4_ringOf_79 : decode cX4_ringOf 79 = .ok (.goto (-32), 3) := by decide +kernel
theorem dX4_ringOf_82 : decode cX4_ringOf 82 = .ok (.iload_n 3, 1) := by decide +kernel
theorem dX4_ringOf_83 : decode cX4_ringOf 83 = .ok (.ireturn, 1) := by decide +kernel
theorem dX4_firstOf_0 : decode cX4_firstOf 0 = .ok (.iload_n 1, 1) := by decide +kernel
theorem dX4_firstOf_1 : decode cX4_firstOf 1 = .ok (.istore_n 2, 1) := by decide +kernel
theorem dX4_firstOf_2 : decode cX4_firstOf 2 = .ok (.iconst 0, 1) := by decide +kernel
theorem dX4_firstOf_3 : decode cX4_firstOf 3 = .ok (.istore_n 3, 1) := by decide +kernel
theorem dX4_firstOf_4 : decode cX4_firstOf 4 = .ok (.iload_n 3, 1) := by decide +kernel
theorem dX4_firstOf_5 : decode cX4_firstOf 5 = .ok (.aload_n 0, 1) := by decide +kernel
theorem dX4_firstOf_6 : decode cX4_firstOf 6 = .ok (.getfield 44, 3) := by decide +kernel
theorem dX4_firstOf_9 : decode cX4_firstOf 9 = .ok (.if_icmp .ge 28, 3) := by decide +kernel
theorem dX4_firstOf_12 : decode cX4_firstOf 12 = .ok (.aload_n 0, 1) := by decide +kernel
theorem dX4_firstOf_13 : decode cX4_firstOf 13 = .ok (.getfield 21, 3) := by decide +kernel
theorem dX4_firstOf_16 : decode cX4_firstOf 16 = .ok (.iload_n 2, 1) := by decide +kernel
theorem dX4_firstOf_17 : decode cX4_firstOf 17 = .ok (.iaload, 1) := by decide +kernel
theorem dX4_firstOf_18 : decode cX4_firstOf 18 = .ok (.iconst (-1), 1) := by decide +kernel
theorem dX4_firstOf_19 : decode cX4_firstOf 19 = .ok (.if_icmp .ne 5, 3) := by decide +kernel
theorem dX4_firstOf_22 : decode cX4_firstOf 22 = .ok (.iload_n 2, 1) := by decide +kernel
theorem dX4_firstOf_23 : decode cX4_firstOf 23 = .ok (.ireturn, 1) := by decide +kernel
theorem dX4_firstOf_24 : decode cX4_firstOf 24 = .ok (.aload_n 0, 1) := by decide +kernel
theorem dX4_firstOf_25 : decode cX4_firstOf 25 = .ok (.getfield 21, 3) := by decide +kernel
theorem dX4_firstOf_28 : decode cX4_firstOf 28 = .ok (.iload_n 2, 1) := by decide +kernel
theorem dX4_firstOf_29 : decode cX4_firstOf 29 = .ok (.iaload, 1) := by decide +kernel
theorem dX4_firstOf_30 : decode cX4_firstOf 30 = .ok (.istore_n 2, 1) := by decide +kernel
theorem dX4_firstOf_31 : decode cX4_firstOf 31 = .ok (.iinc 3 1, 3) := by decide +kernel
theorem dX4_firstOf_34 : decode cX4_firstOf 34 = .ok (.goto (-30), 3) := by decide +kernel
theorem dX4_firstOf_37 : decode cX4_firstOf 37 = .ok (.iconst (-1), 1) := by decide +kernel
theorem dX4_firstOf_38 : decode cX4_firstOf 38 = .ok (.ireturn, 1) := by decide +kernel
theorem dX5_init_0 : decode cX5_init 0 = .ok (.aload_n 0, 1) := by decide +kernel
theorem dX5_init_1 : decode cX5_init 1 = .ok (.invokespecial 3, 3) := by decide +kernel
theorem dX5_init_4 : decode cX5_init 4 = .ok (.aload_n 0, 1) := by decide +kernel
theorem dX5_init_5 : decode cX5_init 5 = .ok (.iconst 2, 1) := by decide +kernel
theorem dX5_init_6 : decode cX5_init 6 = .ok (.newarray .boolean, 2) := by decide +kernel
theorem dX5_init_8 : decode cX5_init 8 = .ok (.putfield 9, 3) := by decide +kernel
theorem dX5_init_11 : decode cX5_init 11 = .ok (.aload_n 0, 1) := by decide +kernel
theorem dX5_init_12 : decode cX5_init 12 = .ok (.iconst 2, 1) := by decide +kernel
theorem dX5_init_13 : decode cX5_init 13 = .ok (.anewarray 15, 3) := by decide +kernel
theorem dX5_init_16 : decode cX5_init 16 = .ok (.putfield 17, 3) := by decide +kernel
theorem dX5_init_19 : decode cX5_init 19 = .ok (.aload_n 0, 1) := by decide +kernel
theorem dX5_init_20 : decode cX5_init 20 = .ok (.iconst 2, 1) := by decide +kernel
theorem dX5_init_21 : decode cX5_init 21 = .ok (.newarray .int, 2) := by decide +kernel
theorem dX5_init_23 : decode cX5_init 23 = .ok (.putfield 21, 3) := by decide +kernel
theorem dX5_init_26 : decode cX5_init 26 = .ok (.iconst 0, 1) := by decide +kernel
theorem dX5_init_27 : decode cX5_init 27 = .ok (.istore_n 1, 1) := by decide +kernel
theorem dX5_init_28 : decode cX5_init 28 = .ok (.iload_n 1, 1) := by decide +kernel
theorem dX5_init_29 : decode cX5_init 29 = .ok (.iconst 2, 1) := by decide +kernel
theorem dX5_init_30 : decode cX5_init 30 = .ok (.if_icmp .ge 22, 3) := by decide +kernel
theorem dX5_init_33 : decode cX5_init 33 = .ok (.aload_n 0, 1) := by decide +kernel
theorem dX5_init_34 : decode cX5_init 34 = .ok (.getfield 17, 3) := by decide +kernel
theorem dX5_init_37 : decode cX5_init 37 = .ok (.iload_n 1, 1) := by decide +kernel
theorem dX5_init_38 : decode cX5_init 38 = .ok (.new 15, 3) := by decide +kernel
theorem dX5_init_41 : decode cX5_init 41 = .ok (.dup, 1) := by decide +kernel
theorem dX5_init_42 : decode cX5_init 42 = .ok (.invokespecial 25, 3) := by decide +kernel
theorem dX5_init_45 : decode cX5_init 45 = .ok (.aastore, 1) := by decide +kernel
theorem dX5_init_46 : decode cX5_init 46 = .ok (.iinc 1 1, 3) := by decide +kernel
theorem dX5_init_49 : decode cX5_init 49 = .ok (.goto (-21), 3) := by decide +kernel
theorem dX5_init_52 : decode cX5_init 52 = .ok (.return_, 1) := by decide +kernel
theorem dX5_take_0 : decode cX5_take 0 = .ok (.iload_n 1, 1) := by decide +kernel
theorem dX5_take_1 : decode cX5_take 1 = .ok (.ifCond .lt 8, 3) := by decide +kernel
theorem dX5_take_4 : decode cX5_take 4 = .ok (.iload_n 1, 1) := by decide +kernel
theorem dX5_take_5 : decode cX5_take 5 = .ok (.iconst 2, 1) := by decide +kernel
theorem dX5_take_6 : decode cX5_take 6 = .ok (.if_icmp .lt 4, 3) := by decide +kernel
theorem dX5_take_9 : decode cX5_take 9 = .ok (.return_, 1) := by decide +kernel
theorem dX5_take_10 : decode cX5_take 10 = .ok (.aload_n 0, 1) := by decide +kernel
theorem dX5_take_11 : decode cX5_take 11 = .ok (.getfield 17, 3) := by decide +kernel
theorem dX5_take_14 : decode cX5_take 14 = .ok (.iload_n 1, 1) := by decide +kernel
theorem dX5_take_15 : decode cX5_take 15 = .ok (.aaload, 1) := by decide +kernel
theorem dX5_take_16 : decode cX5_take 16 = .ok (.aload_n 2, 1) := by decide +kernel
theorem dX5_take_17 : decode cX5_take 17 = .ok (.invokevirtual 26, 3) := by decide +kernel
theorem dX5_take_20 : decode cX5_take 20 = .ok (.aload_n 0, 1) := by decide +kernel
theorem dX5_take_21 : decode cX5_take 21 = .ok (.getfield 21, 3) := by decide +kernel
theorem dX5_take_24 : decode cX5_take 24 = .ok (.iload_n 1, 1) := by decide +kernel
theorem dX5_take_25 : decode cX5_take 25 = .ok (.iload_n 3, 1) := by decide +kernel
theorem dX5_take_26 : decode cX5_take 26 = .ok (.iastore, 1) := by decide +kernel
theorem dX5_take_27 : decode cX5_take 27 = .ok (.aload_n 0, 1) := by decide +kernel
theorem dX5_take_28 : decode cX5_take 28 = .ok (.getfield 9, 3) := by decide +kernel
theorem dX5_take_31 : decode cX5_take 31 = .ok (.iload_n 1, 1) := by decide +kernel
theorem dX5_take_32 : decode cX5_take 32 = .ok (.iconst 1, 1) := by decide +kernel
theorem dX5_take_33 : decode cX5_take 33 = .ok (.bastore, 1) := by decide +kernel
theorem dX5_take_34 : decode cX5_take 34 = .ok (.return_, 1) := by decide +kernel
theorem dX5_forget_0 : decode cX5_forget 0 = .ok (.iconst 0, 1) := by decide +kernel
theorem dX5_forget_1 : decode cX5_forget 1 = .ok (.istore_n 1, 1) := by decide +kernel
theorem dX5_forget_2 : decode cX5_forget 2 = .ok (.iload_n 1, 1) := by decide +kernel
theorem dX5_forget_3 : decode cX5_forget 3 = .ok (.iconst 2, 1) := by decide +kernel
theorem dX5_forget_4 : decode cX5_forget 4 = .ok (.if_icmp .ge 16, 3) := by decide +kernel
theorem dX5_forget_7 : decode cX5_forget 7 = .ok (.aload_n 0, 1) := by decide +kernel
theorem dX5_forget_8 : decode cX5_forget 8 = .ok (.getfield 9, 3) := by decide +kernel
theorem dX5_forget_11 : decode cX5_forget 11 = .ok (.iload_n 1, 1) := by decide +kernel
theorem dX5_forget_12 : decode cX5_forget 12 = .ok (.iconst 0, 1) := by decide +kernel
theorem dX5_forget_13 : decode cX5_forget 13 = .ok (.bastore, 1) := by decide +kernel
theorem dX5_forget_14 : decode cX5_forget 14 = .ok (.iinc 1 1, 3) := by decide +kernel
theorem dX5_forget_17 : decode cX5_forget 17 = .ok (.goto (-15), 3) := by decide +kernel
theorem dX5_forget_20 : decode cX5_forget 20 = .ok (.return_, 1) := by decide +kernel
theorem dX6_init_0 : decode cX6_init 0 = .ok (.aload_n 0, 1) := by decide +kernel
theorem dX6_init_1 : decode cX6_init 1 = .ok (.invokespecial 3, 3) := by decide +kernel
theorem dX6_init_4 : decode cX6_init 4 = .ok (.aload_n 0, 1) := by decide +kernel
theorem dX6_init_5 : decode cX6_init 5 = .ok (.bipush 7, 2) := by decide +kernel
theorem dX6_init_7 : decode cX6_init 7 = .ok (.newarray .int, 2) := by decide +kernel
theorem dX6_init_9 : decode cX6_init 9 = .ok (.putfield 9, 3) := by decide +kernel
theorem dX6_init_12 : decode cX6_init 12 = .ok (.aload_n 0, 1) := by decide +kernel
theorem dX6_init_13 : decode cX6_init 13 = .ok (.bipush 49, 2) := by decide +kernel
theorem dX6_init_15 : decode cX6_init 15 = .ok (.newarray .int, 2) := by decide +kernel
theorem dX6_init_17 : decode cX6_init 17 = .ok (.putfield 15, 3) := by decide +kernel
theorem dX6_init_20 : decode cX6_init 20 = .ok (.aload_n 0, 1) := by decide +kernel
theorem dX6_init_21 : decode cX6_init 21 = .ok (.sipush 1024, 3) := by decide +kernel
theorem dX6_init_24 : decode cX6_init 24 = .ok (.newarray .int, 2) := by decide +kernel
theorem dX6_init_26 : decode cX6_init 26 = .ok (.putfield 18, 3) := by decide +kernel
theorem dX6_init_29 : decode cX6_init 29 = .ok (.aload_n 0, 1) := by decide +kernel
theorem dX6_init_30 : decode cX6_init 30 = .ok (.aload_n 1, 1) := by decide +kernel
theorem dX6_init_31 : decode cX6_init 31 = .ok (.putfield 21, 3) := by decide +kernel
theorem dX6_init_34 : decode cX6_init 34 = .ok (.return_, 1) := by decide +kernel
theorem dX6_work_0 : decode cX6_work 0 = .ok (.aload_n 0, 1) := by decide +kernel
theorem dX6_work_1 : decode cX6_work 1 = .ok (.aload_n 0, 1) := by decide +kernel
theorem dX6_work_2 : decode cX6_work 2 = .ok (.getfield 21, 3) := by decide +kernel
theorem dX6_work_5 : decode cX6_work 5 = .ok (.getfield 25, 3) := by decide +kernel
theorem dX6_work_8 : decode cX6_work 8 = .ok (.getfield 31, 3) := by decide +kernel
theorem dX6_work_11 : decode cX6_work 11 = .ok (.putfield 37, 3) := by decide +kernel
theorem dX6_work_14 : decode cX6_work 14 = .ok (.aload_n 0, 1) := by decide +kernel
theorem dX6_work_15 : decode cX6_work 15 = .ok (.invokevirtual 38, 3) := by decide +kernel
theorem dX6_work_18 : decode cX6_work 18 = .ok (.iconst 0, 1) := by decide +kernel
theorem dX6_work_19 : decode cX6_work 19 = .ok (.istore_n 1, 1) := by decide +kernel
theorem dX6_work_20 : decode cX6_work 20 = .ok (.iload_n 1, 1) := by decide +kernel
theorem dX6_work_21 : decode cX6_work 21 = .ok (.iconst 1, 1) := by decide +kernel
theorem dX6_work_22 : decode cX6_work 22 = .ok (.aload_n 0, 1) := by decide +kernel
theorem dX6_work_23 : decode cX6_work 23 = .ok (.getfield 37, 3) := by decide +kernel
theorem dX6_work_26 : decode cX6_work 26 = .ok (.ishl, 1) := by decide +kernel
theorem dX6_work_27 : decode cX6_work 27 = .ok (.if_icmp .ge 25, 3) := by decide +kernel
theorem dX6_work_30 : decode cX6_work 30 = .ok (.aload_n 0, 1) := by decide +kernel
theorem dX6_work_31 : decode cX6_work 31 = .ok (.getfield 18, 3) := by decide +kernel
theorem dX6_work_34 : decode cX6_work 34 = .ok (.aload_n 0, 1) := by decide +kernel
theorem dX6_work_35 : decode cX6_work 35 = .ok (.getfield 37, 3) := by decide +kernel
theorem dX6_work_38 : decode cX6_work 38 = .ok (.sipush 128, 3) := by decide +kernel
theorem dX6_work_41 : decode cX6_work 41 = .ok (.imul, 1) := by decide +kernel
theorem dX6_work_42 : decode cX6_work 42 = .ok (.iload_n 1, 1) := by decide +kernel
theorem dX6_work_43 : decode cX6_work 43 = .ok (.iadd, 1) := by decide +kernel
theorem dX6_work_44 : decode cX6_work 44 = .ok (.iconst 0, 1) := by decide +kernel
theorem dX6_work_45 : decode cX6_work 45 = .ok (.iastore, 1) := by decide +kernel
theorem dX6_work_46 : decode cX6_work 46 = .ok (.iinc 1 1, 3) := by decide +kernel
theorem dX6_work_49 : decode cX6_work 49 = .ok (.goto (-29), 3) := by decide +kernel
theorem dX6_work_52 : decode cX6_work 52 = .ok (.aload_n 0, 1) := by decide +kernel
theorem dX6_work_53 : decode cX6_work 53 = .ok (.getfield 37, 3) := by decide +kernel
theorem dX6_work_56 : decode cX6_work 56 = .ok (.iconst 1, 1) := by decide +kernel
theorem dX6_work_57 : decode cX6_work 57 = .ok (.isub, 1) := by decide +kernel
theorem dX6_work_58 : decode cX6_work 58 = .ok (.istore_n 1, 1) := by decide +kernel
theorem dX6_work_59 : decode cX6_work 59 = .ok (.iload_n 1, 1) := by decide +kernel
theorem dX6_work_60 : decode cX6_work 60 = .ok (.ifCond .lt 45, 3) := by decide +kernel
theorem dX6_work_63 : decode cX6_work 63 = .ok (.iconst 0, 1) := by decide +kernel
theorem dX6_work_64 : decode cX6_work 64 = .ok (.istore_n 2, 1) := by decide +kernel
theorem dX6_work_65 : decode cX6_work 65 = .ok (.iload_n 2, 1) := by decide +kernel
theorem dX6_work_66 : decode cX6_work 66 = .ok (.iconst 1, 1) := by decide +kernel
theorem dX6_work_67 : decode cX6_work 67 = .ok (.aload_n 0, 1) := by decide +kernel
theorem dX6_work_68 : decode cX6_work 68 = .ok (.getfield 37, 3) := by decide +kernel
theorem dX6_work_71 : decode cX6_work 71 = .ok (.ishl, 1) := by decide +kernel
theorem dX6_work_72 : decode cX6_work 72 = .ok (.if_icmp .ge 27, 3) := by decide +kernel
theorem dX6_work_75 : decode cX6_work 75 = .ok (.aload_n 0, 1) := by decide +kernel
theorem dX6_work_76 : decode cX6_work 76 = .ok (.getfield 18, 3) := by decide +kernel
theorem dX6_work_79 : decode cX6_work 79 = .ok (.iload_n 1, 1) := by decide +kernel
theorem dX6_work_80 : decode cX6_work 80 = .ok (.sipush 128, 3) := by decide +kernel
theorem dX6_work_83 : decode cX6_work 83 = .ok (.imul, 1) := by decide +kernel
theorem dX6_work_84 : decode cX6_work 84 = .ok (.iload_n 2, 1) := by decide +kernel
theorem dX6_work_85 : decode cX6_work 85 = .ok (.iadd, 1) := by decide +kernel
theorem dX6_work_86 : decode cX6_work 86 = .ok (.aload_n 0, 1) := by decide +kernel
theorem dX6_work_87 : decode cX6_work 87 = .ok (.iload_n 1, 1) := by decide +kernel
theorem dX6_work_88 : decode cX6_work 88 = .ok (.iload_n 2, 1) := by decide +kernel
theorem dX6_work_89 : decode cX6_work 89 = .ok (.invokevirtual 41, 3) := by decide +kernel
theorem dX6_work_92 : decode cX6_work 92 = .ok (.iastore, 1) := by decide +kernel
theorem dX6_work_93 : decode cX6_work 93 = .ok (.iinc 2 1, 3) := by decide +kernel
theorem dX6_work_96 : decode cX6_work 96 = .ok (.goto (-31), 3) := by decide +kernel
theorem dX6_work_99 : decode cX6_work 99 = .ok (.iinc 1 (-1), 3) := by decide +kernel
theorem dX6_work_102 : decode cX6_work 102 = .ok (.goto (-43), 3) := by decide +kernel
theorem dX6_work_105 : decode cX6_work 105 = .ok (.aload_n 0, 1) := by decide +kernel
theorem dX6_work_106 : decode cX6_work 106 = .ok (.invokevirtual 45, 3) := by decide +kernel
theorem dX6_work_109 : decode cX6_work 109 = .ok (.return_, 1) := by decide +kernel
theorem dX6_total_0 : decode cX6_total 0 = .ok (.aload_n 0, 1) := by decide +kernel
theorem dX6_total_1 : decode cX6_total 1 = .ok (.getfield 18, 3) := by decide +kernel
theorem dX6_total_4 : decode cX6_total 4 = .ok (.iconst 0, 1) := by decide +kernel
theorem dX6_total_5 : decode cX6_total 5 = .ok (.iaload, 1) := by decide +kernel
theorem dX6_total_6 : decode cX6_total 6 = .ok (.ireturn, 1) := by decide +kernel
theorem dX6_tryAll_0 : decode cX6_tryAll 0 = .ok (.iconst 0, 1) := by decide +kernel
theorem dX6_tryAll_1 : decode cX6_tryAll 1 = .ok (.istore_n 1, 1) := by decide +kernel
theorem dX6_tryAll_2 : decode cX6_tryAll 2 = .ok (.iload_n 1, 1) := by decide +kernel
theorem dX6_tryAll_3 : decode cX6_tryAll 3 = .ok (.aload_n 0, 1) := by decide +kernel
theorem dX6_tryAll_4 : decode cX6_tryAll 4 = .ok (.getfield 37, 3) := by decide +kernel
theorem dX6_tryAll_7 : decode cX6_tryAll 7 = .ok (.if_icmp .ge 68, 3) := by decide +kernel
theorem dX6_tryAll_10 : decode cX6_tryAll 10 = .ok (.iconst 0, 1) := by decide +kernel
theorem dX6_tryAll_11 : decode cX6_tryAll 11 = .ok (.istore_n 2, 1) := by decide +kernel
theorem dX6_tryAll_12 : decode cX6_tryAll 12 = .ok (.iload_n 2, 1) := by decide +kernel
theorem dX6_tryAll_13 : decode cX6_tryAll 13 = .ok (.aload_n 0, 1) := by decide +kernel
theorem dX6_tryAll_14 : decode cX6_tryAll 14 = .ok (.getfield 37, 3) := by decide +kernel
theorem dX6_tryAll_17 : decode cX6_tryAll 17 = .ok (.if_icmp .ge 52, 3) := by decide +kernel
theorem dX6_tryAll_20 : decode cX6_tryAll 20 = .ok (.aload_n 0, 1) := by decide +kernel
theorem dX6_tryAll_21 : decode cX6_tryAll 21 = .ok (.getfield 21, 3) := by decide +kernel
theorem dX6_tryAll_24 : decode cX6_tryAll 24 = .ok (.iload_n 1, 1) := by decide +kernel
theorem dX6_tryAll_25 : decode cX6_tryAll 25 = .ok (.iload_n 2, 1) := by decide +kernel
theorem dX6_tryAll_26 : decode cX6_tryAll 26 = .ok (.invokevirtual 48, 3) := by decide +kernel
theorem dX6_tryAll_29 : decode cX6_tryAll 29 = .ok (.ifCond .eq 34, 3) := by decide +kernel
theorem dX6_tryAll_32 : decode cX6_tryAll 32 = .ok (.aload_n 0, 1) := by decide +kernel
theorem dX6_tryAll_33 : decode cX6_tryAll 33 = .ok (.getfield 15, 3) := by decide +kernel
theorem dX6_tryAll_36 : decode cX6_tryAll 36 = .ok (.iload_n 1, 1) := by decide +kernel
theorem dX6_tryAll_37 : decode cX6_tryAll 37 = .ok (.bipush 7, 2) := by decide +kernel
theorem dX6_tryAll_39 : decode cX6_tryAll 39 = .ok (.imul, 1) := by decide +kernel
theorem dX6_tryAll_40 : decode cX6_tryAll 40 = .ok (.iload_n 2, 1) := by decide +kernel
theorem dX6_tryAll_41 : decode cX6_tryAll 41 = .ok (.iadd, 1) := by decide +kernel
theorem dX6_tryAll_42 : decode cX6_tryAll 42 = .ok (.aload_n 0, 1) := by decide +kernel
theorem dX6_tryAll_43 : decode cX6_tryAll 43 = .ok (.getfield 21, 3) := by decide +kernel
theorem dX6_tryAll_46 : decode cX6_tryAll 46 = .ok (.iload_n 2, 1) := by decide +kernel
theorem dX6_tryAll_47 : decode cX6_tryAll 47 = .ok (.aload_n 0, 1) := by decide +kernel
theorem dX6_tryAll_48 : decode cX6_tryAll 48 = .ok (.getfield 21, 3) := by decide +kernel
theorem dX6_tryAll_51 : decode cX6_tryAll 51 = .ok (.getfield 52, 3) := by decide +kernel
theorem dX6_tryAll_54 : decode cX6_tryAll 54 = .ok (.getfield 56, 3) := by decide +kernel
theorem dX6_tryAll_57 : decode cX6_tryAll 57 = .ok (.iload_n 1, 1) := by decide +kernel
theorem dX6_tryAll_58 : decode cX6_tryAll 58 = .ok (.iaload, 1) := by decide +kernel
theorem dX6_tryAll_59 : decode cX6_tryAll 59 = .ok (.invokevirtual 61, 3) := by decide +kernel
theorem dX6_tryAll_62 : decode cX6_tryAll 62 = .ok (.iastore, 1) := by decide +kernel
theorem dX6_tryAll_63 : decode cX6_tryAll 63 = .ok (.iinc 2 1, 3) := by decide +kernel
theorem dX6_tryAll_66 : decode cX6_tryAll 66 = .ok (.goto (-54), 3) := by decide +kernel
theorem dX6_tryAll_69 : decode cX6_tryAll 69 = .ok (.iinc 1 1, 3) := by decide +kernel
theorem dX6_tryAll_72 : decode cX6_tryAll 72 = .ok (.goto (-70), 3) := by decide +kernel
theorem dX6_tryAll_75 : decode cX6_tryAll 75 = .ok (.return_, 1) := by decide +kernel
theorem dX6_leastFrom_0 : decode cX6_leastFrom 0 = .ok (.aload_n 0, 1) := by decide +kernel
theorem dX6_leastFrom_1 : decode cX6_leastFrom 1 = .ok (.getfield 21, 3) := by decide +kernel
theorem dX6_leastFrom_4 : decode cX6_leastFrom 4 = .ok (.getfield 52, 3) := by decide +kernel
theorem dX6_leastFrom_7 : decode cX6_leastFrom 7 = .ok (.getfield 56, 3) := by decide +kernel
theorem dX6_leastFrom_10 : decode cX6_leastFrom 10 = .ok (.iload_n 1, 1) := by decide +kernel
theorem dX6_leastFrom_11 : decode cX6_leastFrom 11 = .ok (.iaload, 1) := by decide +kernel
theorem dX6_leastFrom_12 : decode cX6_leastFrom 12 = .ok (.aload_n 0, 1) := by decide +kernel
theorem dX6_leastFrom_13 : decode cX6_leastFrom 13 = .ok (.getfield 18, 3) := by decide +kernel
theorem dX6_leastFrom_16 : decode cX6_leastFrom 16 = .ok (.iload_n 1, 1) := by decide +kernel
theorem dX6_leastFrom_17 : decode cX6_leastFrom 17 = .ok (.iconst 1, 1) := by decide +kernel
theorem dX6_leastFrom_18 : decode cX6_leastFrom 18 = .ok (.iadd, 1) := by decide +kernel
theorem dX6_leastFrom_19 : decode cX6_leastFrom 19 = .ok (.sipush 128, 3) := by decide +kernel
theorem dX6_leastFrom_22 : decode cX6_leastFrom 22 = .ok (.imul, 1) := by decide +kernel
theorem dX6_leastFrom_23 : decode cX6_leastFrom 23 = .ok (.iload_n 2, 1) := by decide +kernel
theorem dX6_leastFrom_24 : decode cX6_leastFrom 24 = .ok (.iadd, 1) := by decide +kernel
theorem dX6_leastFrom_25 : decode cX6_leastFrom 25 = .ok (.iaload, 1) := by decide +kernel
theorem dX6_leastFrom_26 : decode cX6_leastFrom 26 = .ok (.iadd, 1) := by decide +kernel
theorem dX6_leastFrom_27 : decode cX6_leastFrom 27 = .ok (.istore_n 3, 1) := by decide +kernel
theorem dX6_leastFrom_28 : decode cX6_leastFrom 28 = .ok (.iconst 0, 1) := by decide +kernel
theorem dX6_leastFrom_29 : decode cX6_leastFrom 29 = .ok (.istore 4, 2) := by decide +kernel
theorem dX6_leastFrom_31 : decode cX6_leastFrom 31 = .ok (.iload 4, 2) := by decide +kernel
theorem dX6_leastFrom_33 : decode cX6_leastFrom 33 = .ok (.aload_n 0, 1) := by decide +kernel
theorem dX6_leastFrom_34 : decode cX6_leastFrom 34 = .ok (.getfield 37, 3) := by decide +kernel
theorem dX6_leastFrom_37 : decode cX6_leastFrom 37 = .ok (.if_icmp .ge 33, 3) := by decide +kernel
theorem dX6_leastFrom_40 : decode cX6_leastFrom 40 = .ok (.aload_n 0, 1) := by decide +kernel
theorem dX6_leastFrom_41 : decode cX6_leastFrom 41 = .ok (.iload_n 1, 1) := by decide +kernel
theorem dX6_leastFrom_42 : decode cX6_leastFrom 42 = .ok (.iload 4, 2) := by decide +kernel
theorem dX6_leastFrom_44 : decode cX6_leastFrom 44 = .ok (.iload_n 2, 1) := by decide +kernel
theorem dX6_leastFrom_45 : decode cX6_leastFrom 45 = .ok (.invokevirtual 64, 3) := by decide +kernel
theorem dX6_leastFrom_48 : decode cX6_leastFrom 48 = .ok (.ifCond .eq 16, 3) := by decide +kernel
theorem dX6_leastFrom_51 : decode cX6_leastFrom 51 = .ok (.iload_n 3, 1) := by decide +kernel
theorem dX6_leastFrom_52 : decode cX6_leastFrom 52 = .ok (.aload_n 0, 1) := by decide +kernel
theorem dX6_leastFrom_53 : decode cX6_leastFrom 53 = .ok (.iload_n 1, 1) := by decide +kernel
theorem dX6_leastFrom_54 : decode cX6_leastFrom 54 = .ok (.iload 4, 2) := by decide +kernel
theorem dX6_leastFrom_56 : decode cX6_leastFrom 56 = .ok (.iload_n 2, 1) := by decide +kernel
theorem dX6_leastFrom_57 : decode cX6_leastFrom 57 = .ok (.invokevirtual 68, 3) := by decide +kernel
theorem dX6_leastFrom_60 : decode cX6_leastFrom 60 = .ok (.invokestatic 72, 3) := by decide +kernel
theorem dX6_leastFrom_63 : decode cX6_leastFrom 63 = .ok (.istore_n 3, 1) := by decide +kernel
theorem dX6_leastFrom_64 : decode cX6_leastFrom 64 = .ok (.iinc 4 1, 3) := by decide +kernel
theorem dX6_leastFrom_67 : decode cX6_leastFrom 67 = .ok (.goto (-36), 3) := by decide +kernel
theorem dX6_leastFrom_70 : decode cX6_leastFrom 70 = .ok (.iload_n 3, 1) := by decide +kernel
theorem dX6_leastFrom_71 : decode cX6_leastFrom 71 = .ok (.ireturn, 1) := by decide +kernel
theorem dX6_mayGo_0 : decode cX6_mayGo 0 = .ok (.iload_n 3, 1) := by decide +kernel
theorem dX6_mayGo_1 : decode cX6_mayGo 1 = .ok (.iload_n 2, 1) := by decide +kernel
theorem dX6_mayGo_2 : decode cX6_mayGo 2 = .ok (.ishr, 1) := by decide +kernel
theorem dX6_mayGo_3 : decode cX6_mayGo 3 = .ok (.iconst 1, 1) := by decide +kernel
theorem dX6_mayGo_4 : decode cX6_mayGo 4 = .ok (.iand, 1) := by decide +kernel
theorem dX6_mayGo_5 : decode cX6_mayGo 5 = .ok (.ifCond .ne 19, 3) := by decide +kernel
theorem dX6_mayGo_8 : decode cX6_mayGo 8 = .ok (.aload_n 0, 1) := by decide +kernel
theorem dX6_mayGo_9 : decode cX6_mayGo 9 = .ok (.getfield 21, 3) := by decide +kernel
theorem dX6_mayGo_12 : decode cX6_mayGo 12 = .ok (.iload_n 1, 1) := by decide +kernel
theorem dX6_mayGo_13 : decode cX6_mayGo 13 = .ok (.iload_n 2, 1) := by decide +kernel
theorem dX6_mayGo_14 : decode cX6_mayGo 14 = .ok (.invokevirtual 48, 3) := by decide +kernel
theorem dX6_mayGo_17 : decode cX6_mayGo 17 = .ok (.ifCond .eq 7, 3) := by decide +kernel
theorem dX6_mayGo_20 : decode cX6_mayGo 20 = .ok (.iconst 1, 1) := by decide +kernel
theorem dX6_mayGo_21 : decode cX6_mayGo 21 = .ok (.goto 4, 3) := by decide +kernel
theorem dX6_mayGo_24 : decode cX6_mayGo 24 = .ok (.iconst 0, 1) := by decide +kernel
theorem dX6_mayGo_25 : decode cX6_mayGo 25 = .ok (.ireturn, 1) := by decide +kernel
theorem dX6_leftWith_0 : decode cX6_leftWith 0 = .ok (.aload_n 0, 1) := by decide +kernel
theorem dX6_leftWith_1 : decode cX6_leftWith 1 = .ok (.getfield 15, 3) := by decide +kernel
theorem dX6_leftWith_4 : decode cX6_leftWith 4 = .ok (.iload_n 1, 1) := by decide +kernel
theorem dX6_leftWith_5 : decode cX6_leftWith 5 = .ok (.bipush 7, 2) := by decide +kernel
theorem dX6_leftWith_7 : decode cX6_leftWith 7 = .ok (.imul, 1) := by decide +kernel
theorem dX6_leftWith_8 : decode cX6_leftWith 8 = .ok (.iload_n 2, 1) := by decide +kernel
theorem dX6_leftWith_9 : decode cX6_leftWith 9 = .ok (.iadd, 1) := by decide +kernel
theorem dX6_leftWith_10 : decode cX6_leftWith 10 = .ok (.iaload, 1) := by decide +kernel
theorem dX6_leftWith_11 : decode cX6_leftWith 11 = .ok (.aload_n 0, 1) := by decide +kernel
theorem dX6_leftWith_12 : decode cX6_leftWith 12 = .ok (.getfield 18, 3) := by decide +kernel
theorem dX6_leftWith_15 : decode cX6_leftWith 15 = .ok (.iload_n 1, 1) := by decide +kernel
theorem dX6_leftWith_16 : decode cX6_leftWith 16 = .ok (.iconst 1, 1) := by decide +kernel
theorem dX6_leftWith_17 : decode cX6_leftWith 17 = .ok (.iadd, 1) := by decide +kernel
theorem dX6_leftWith_18 : decode cX6_leftWith 18 = .ok (.sipush 128, 3) := by decide +kernel
theorem dX6_leftWith_21 : decode cX6_leftWith 21 = .ok (.imul, 1) := by decide +kernel
theorem dX6_leftWith_22 : decode cX6_leftWith 22 = .ok (.iload_n 3, 1) := by decide +kernel
theorem dX6_leftWith_23 : decode cX6_leftWith 23 = .ok (.iconst 1, 1) := by decide +kernel
theorem dX6_leftWith_24 : decode cX6_leftWith 24 = .ok (.iload_n 2, 1) := by decide +kernel
theorem dX6_leftWith_25 : decode cX6_leftWith 25 = .ok (.ishl, 1) := by decide +kernel
theorem dX6_leftWith_26 : decode cX6_leftWith 26 = .ok (.ior, 1) := by decide +kernel
theorem dX6_leftWith_27 : decode cX6_leftWith 27 = .ok (.iadd, 1) := by decide +kernel
theorem dX6_leftWith_28 : decode cX6_leftWith 28 = .ok (.iaload, 1) := by decide +kernel
theorem dX6_leftWith_29 : decode cX6_leftWith 29 = .ok (.iadd, 1) := by decide +kernel
theorem dX6_leftWith_30 : decode cX6_leftWith 30 = .ok (.ireturn, 1) := by decide +kernel
theorem dX6_choose_0 : decode cX6_choose 0 = .ok (.iconst 0, 1) := by decide +kernel
theorem dX6_choose_1 : decode cX6_choose 1 = .ok (.istore_n 1, 1) := by decide +kernel
theorem dX6_choose_2 : decode cX6_choose 2 = .ok (.iconst 0, 1) := by decide +kernel
theorem dX6_choose_3 : decode cX6_choose 3 = .ok (.istore_n 2, 1) := by decide +kernel
theorem dX6_choose_4 : decode cX6_choose 4 = .ok (.iload_n 2, 1) := by decide +kernel
theorem dX6_choose_5 : decode cX6_choose 5 = .ok (.aload_n 0, 1) := by decide +kernel
theorem dX6_choose_6 : decode cX6_choose 6 = .ok (.getfield 37, 3) := by decide +kernel
theorem dX6_choose_9 : decode cX6_choose 9 = .ok (.if_icmp .ge 42, 3) := by decide +kernel
theorem dX6_choose_12 : decode cX6_choose 12 = .ok (.aload_n 0, 1) := by decide +kernel
theorem dX6_choose_13 : decode cX6_choose 13 = .ok (.getfield 9, 3) := by decide +kernel
theorem dX6_choose_16 : decode cX6_choose 16 = .ok (.iload_n 2, 1) := by decide +kernel
theorem dX6_choose_17 : decode cX6_choose 17 = .ok (.aload_n 0, 1) := by decide +kernel
theorem dX6_choose_18 : decode cX6_choose 18 = .ok (.iload_n 2, 1) := by decide +kernel
theorem dX6_choose_19 : decode cX6_choose 19 = .ok (.iload_n 1, 1) := by decide +kernel
theorem dX6_choose_20 : decode cX6_choose 20 = .ok (.invokevirtual 77, 3) := by decide +kernel
theorem dX6_choose_23 : decode cX6_choose 23 = .ok (.iastore, 1) := by decide +kernel
theorem dX6_choose_24 : decode cX6_choose 24 = .ok (.aload_n 0, 1) := by decide +kernel
theorem dX6_choose_25 : decode cX6_choose 25 = .ok (.getfield 9, 3) := by decide +kernel
theorem dX6_choose_28 : decode cX6_choose 28 = .ok (.iload_n 2, 1) := by decide +kernel
theorem dX6_choose_29 : decode cX6_choose 29 = .ok (.iaload, 1) := by decide +kernel
theorem dX6_choose_30 : decode cX6_choose 30 = .ok (.iconst (-1), 1) := by decide +kernel
theorem dX6_choose_31 : decode cX6_choose 31 = .ok (.if_icmp .eq 14, 3) := by decide +kernel
theorem dX6_choose_34 : decode cX6_choose 34 = .ok (.iload_n 1, 1) := by decide +kernel
theorem dX6_choose_35 : decode cX6_choose 35 = .ok (.iconst 1, 1) := by decide +kernel
theorem dX6_choose_36 : decode cX6_choose 36 = .ok (.aload_n 0, 1) := by decide +kernel
theorem dX6_choose_37 : decode cX6_choose 37 = .ok (.getfield 9, 3) := by decide +kernel
theorem dX6_choose_40 : decode cX6_choose 40 = .ok (.iload_n 2, 1) := by decide +kernel
theorem dX6_choose_41 : decode cX6_choose 41 = .ok (.iaload, 1) := by decide +kernel
theorem dX6_choose_42 : decode cX6_choose 42 = .ok (.ishl, 1) := by decide +kernel
theorem dX6_choose_43 : decode cX6_choose 43 = .ok (.ior, 1) := by decide +kernel
theorem dX6_choose_44 : decode cX6_choose 44 = .ok (.istore_n 1, 1) := by decide +kernel
theorem dX6_choose_45 : decode cX6_choose 45 = .ok (.iinc 2 1, 3) := by decide +kernel
theorem dX6_choose_48 : decode cX6_choose 48 = .ok (.goto (-44), 3) := by decide +kernel
theorem dX6_choose_51 : decode cX6_choose 51 = .ok (.return_, 1) := by decide +kernel
theorem dX6_firstGoer_0 : decode cX6_firstGoer 0 = .ok (.iconst 0, 1) := by decide +kernel
theorem dX6_firstGoer_1 : decode cX6_firstGoer 1 = .ok (.istore_n 3, 1) := by decide +kernel
theorem dX6_firstGoer_2 : decode cX6_firstGoer 2 = .ok (.iload_n 3, 1) := by decide +kernel
theorem dX6_firstGoer_3 : decode cX6_firstGoer 3 = .ok (.aload_n 0, 1) := by decide +kernel
theorem dX6_firstGoer_4 : decode cX6_firstGoer 4 = .ok (.getfield 37, 3) := by decide +kernel
theorem dX6_firstGoer_7 : decode cX6_firstGoer 7 = .ok (.if_icmp .ge 43, 3) := by decide +kernel
theorem dX6_firstGoer_10 : decode cX6_firstGoer 10 = .ok (.aload_n 0, 1) := by decide +kernel
theorem dX6_firstGoer_11 : decode cX6_firstGoer 11 = .ok (.iload_n 1, 1) := by decide +kernel
theorem dX6_firstGoer_12 : decode cX6_firstGoer 12 = .ok (.iload_n 3, 1) := by decide +kernel
theorem dX6_firstGoer_13 : decode cX6_firstGoer 13 = .ok (.iload_n 2, 1) := by decide +kernel
theorem dX6_firstGoer_14 : decode cX6_firstGoer 14 = .ok (.invokevirtual 64, 3) := by decide +kernel
theorem dX6_firstGoer_17 : decode cX6_firstGoer 17 = .ok (.ifCond .eq 27, 3) := by decide +kernel
theorem dX6_firstGoer_20 : decode cX6_firstGoer 20 = .ok (.aload_n 0, 1) := by decide +kernel
theorem dX6_firstGoer_21 : decode cX6_firstGoer 21 = .ok (.iload_n 1, 1) := by decide +kernel
theorem dX6_firstGoer_22 : decode cX6_firstGoer 22 = .ok (.iload_n 3, 1) := by decide +kernel
theorem dX6_firstGoer_23 : decode cX6_firstGoer 23 = .ok (.iload_n 2, 1) := by decide +kernel
theorem dX6_firstGoer_24 : decode cX6_firstGoer 24 = .ok (.invokevirtual 68, 3) := by decide +kernel
theorem dX6_firstGoer_27 : decode cX6_firstGoer 27 = .ok (.aload_n 0, 1) := by decide +kernel
theorem dX6_firstGoer_28 : decode cX6_firstGoer 28 = .ok (.getfield 18, 3) := by decide +kernel
theorem dX6_firstGoer_31 : decode cX6_firstGoer 31 = .ok (.iload_n 1, 1) := by decide +kernel
theorem dX6_firstGoer_32 : decode cX6_firstGoer 32 = .ok (.sipush 128, 3) := by decide +kernel
theorem dX6_firstGoer_35 : decode cX6_firstGoer 35 = .ok (.imul, 1) := by decide +kernel
theorem dX6_firstGoer_36 : decode cX6_firstGoer 36 = .ok (.iload_n 2, 1) := by decide +kernel
theorem dX6_firstGoer_37 : decode cX6_firstGoer 37 = .ok (.iadd, 1) := by decide +kernel
theorem dX6_firstGoer_38 : decode cX6_firstGoer 38 = .ok (.iaload, 1) := by decide +kernel
theorem dX6_firstGoer_39 : decode cX6_firstGoer 39 = .ok (.if_icmp .ne 5, 3) := by decide +kernel
theorem dX6_firstGoer_42 : decode cX6_firstGoer 42 = .ok (.iload_n 3, 1) := by decide +kernel
theorem dX6_firstGoer_43 : decode cX6_firstGoer 43 = .ok (.ireturn, 1) := by decide +kernel
theorem dX6_firstGoer_44 : decode cX6_firstGoer 44 = .ok (.iinc 3 1, 3) := by decide +kernel
theorem dX6_firstGoer_47 : decode cX6_firstGoer 47 = .ok (.goto (-45), 3) := by decide +kernel
theorem dX6_firstGoer_50 : decode cX6_firstGoer 50 = .ok (.iconst (-1), 1) := by decide +kernel
theorem dX6_firstGoer_51 : decode cX6_firstGoer 51 = .ok (.ireturn, 1) := by decide +kernel
theorem dX7_init_0 : decode cX7_init 0 = .ok (.aload_n 0, 1) := by decide +kernel
theorem dX7_init_1 : decode cX7_init 1 = .ok (.invokespecial 3, 3) := by decide +kernel
theorem dX7_init_4 : decode cX7_init 4 = .ok (.aload_n 0, 1) := by decide +kernel
theorem dX7_init_5 : decode cX7_init 5 = .ok (.bipush 16, 2) := by decide +kernel
theorem dX7_init_7 : decode cX7_init 7 = .ok (.anewarray 9, 3) := by decide +kernel
theorem dX7_init_10 : decode cX7_init 10 = .ok (.putfield 11, 3) := by decide +kernel
theorem dX7_init_13 : decode cX7_init 13 = .ok (.iconst 0, 1) := by decide +kernel
theorem dX7_init_14 : decode cX7_init 14 = .ok (.istore_n 1, 1) := by decide +kernel
theorem dX7_init_15 : decode cX7_init 15 = .ok (.iload_n 1, 1) := by decide +kernel
theorem dX7_init_16 : decode cX7_init 16 = .ok (.bipush 16, 2) := by decide +kernel
theorem dX7_init_18 : decode cX7_init 18 = .ok (.if_icmp .ge 22, 3) := by decide +kernel
theorem dX7_init_21 : decode cX7_init 21 = .ok (.aload_n 0, 1) := by decide +kernel
theorem dX7_init_22 : decode cX7_init 22 = .ok (.getfield 11, 3) := by decide +kernel
theorem dX7_init_25 : decode cX7_init 25 = .ok (.iload_n 1, 1) := by decide +kernel
theorem dX7_init_26 : decode cX7_init 26 = .ok (.new 9, 3) := by decide +kernel
theorem dX7_init_29 : decode cX7_init 29 = .ok (.dup, 1) := by decide +kernel
theorem dX7_init_30 : decode cX7_init 30 = .ok (.invokespecial 17, 3) := by decide +kernel
theorem dX7_init_33 : decode cX7_init 33 = .ok (.aastore, 1) := by decide +kernel
theorem dX7_init_34 : decode cX7_init 34 = .ok (.iinc 1 1, 3) := by decide +kernel
theorem dX7_init_37 : decode cX7_init 37 = .ok (.goto (-22), 3) := by decide +kernel
theorem dX7_init_40 : decode cX7_init 40 = .ok (.return_, 1) := by decide +kernel
theorem dX7_remember_0 : decode cX7_remember 0 = .ok (.aload_n 0, 1) := by decide +kernel
theorem dX7_remember_1 : decode cX7_remember 1 = .ok (.getfield 18, 3) := by decide +kernel
theorem dX7_remember_4 : decode cX7_remember 4 = .ok (.bipush 16, 2) := by decide +kernel
theorem dX7_remember_6 : decode cX7_remember 6 = .ok (.if_icmp .ne 26, 3) := by decide +kernel
theorem dX7_remember_9 : decode cX7_remember 9 = .ok (.aload_n 0, 1) := by decide +kernel
theorem dX7_remember_10 : decode cX7_remember 10 = .ok (.aload_n 0, 1) := by decide +kernel
theorem dX7_remember_11 : decode cX7_remember 11 = .ok (.getfield 22, 3) := by decide +kernel
theorem dX7_remember_14 : decode cX7_remember 14 = .ok (.iconst 1, 1) := by decide +kernel
theorem dX7_remember_15 : decode cX7_remember 15 = .ok (.iadd, 1) := by decide +kernel
theorem dX7_remember_16 : decode cX7_remember 16 = .ok (.bipush 16, 2) := by decide +kernel
theorem dX7_remember_18 : decode cX7_remember 18 = .ok (.irem, 1) := by decide +kernel
theorem dX7_remember_19 : decode cX7_remember 19 = .ok (.putfield 22, 3) := by decide +kernel
theorem dX7_remember_22 : decode cX7_remember 22 = .ok (.aload_n 0, 1) := by decide +kernel
theorem dX7_remember_23 : decode cX7_remember 23 = .ok (.dup, 1) := by decide +kernel
theorem dX7_remember_24 : decode cX7_remember 24 = .ok (.getfield 18, 3) := by decide +kernel
theorem dX7_remember_27 : decode cX7_remember 27 = .ok (.iconst 1, 1) := by decide +kernel
theorem dX7_remember_28 : decode cX7_remember 28 = .ok (.isub, 1) := by decide +kernel
theorem dX7_remember_29 : decode cX7_remember 29 = .ok (.putfield 18, 3) := by decide +kernel
theorem dX7_remember_32 : decode cX7_remember 32 = .ok (.aload_n 0, 1) := by decide +kernel
theorem dX7_remember_33 : decode cX7_remember 33 = .ok (.getfield 11, 3) := by decide +kernel
theorem dX7_remember_36 : decode cX7_remember 36 = .ok (.aload_n 0, 1) := by decide +kernel
theorem dX7_remember_37 : decode cX7_remember 37 = .ok (.getfield 22, 3) := by decide +kernel
theorem dX7_remember_40 : decode cX7_remember 40 = .ok (.aload_n 0, 1) := by decide +kernel
theorem dX7_remember_41 : decode cX7_remember 41 = .ok (.getfield 18, 3) := by decide +kernel
theorem dX7_remember_44 : decode cX7_remember 44 = .ok (.iadd, 1) := by decide +kernel
theorem dX7_remember_45 : decode cX7_remember 45 = .ok (.bipush 16, 2) := by decide +kernel
theorem dX7_remember_47 : decode cX7_remember 47 = .ok (.irem, 1) := by decide +kernel
theorem dX7_remember_48 : decode cX7_remember 48 = .ok (.aaload, 1) := by decide +kernel
theorem dX7_remember_49 : decode cX7_remember 49 = .ok (.aload_n 1, 1) := by decide +kernel
theorem dX7_remember_50 : decode cX7_remember 50 = .ok (.invokevirtual 25, 3) := by decide +kernel
theorem dX7_remember_53 : decode cX7_remember 53 = .ok (.aload_n 0, 1) := by decide +kernel
theorem dX7_remember_54 : decode cX7_remember 54 = .ok (.dup, 1) := by decide +kernel
theorem dX7_remember_55 : decode cX7_remember 55 = .ok (.getfield 18, 3) := by decide +kernel
theorem dX7_remember_58 : decode cX7_remember 58 = .ok (.iconst 1, 1) := by decide +kernel
theorem dX7_remember_59 : decode cX7_remember 59 = .ok (.iadd, 1) := by decide +kernel
theorem dX7_remember_60 : decode cX7_remember 60 = .ok (.putfield 18, 3) := by decide +kernel
theorem dX7_remember_63 : decode cX7_remember 63 = .ok (.return_, 1) := by decide +kernel
theorem dX7_restore_0 : decode cX7_restore 0 = .ok (.aload_n 0, 1) := by decide +kernel
theorem dX7_restore_1 : decode cX7_restore 1 = .ok (.getfield 18, 3) := by decide +kernel
theorem dX7_restore_4 : decode cX7_restore 4 = .ok (.ifCond .ne 4, 3) := by decide +kernel
theorem dX7_restore_7 : decode cX7_restore 7 = .ok (.return_, 1) := by decide +kernel
theorem dX7_restore_8 : decode cX7_restore 8 = .ok (.aload_n 0, 1) := by decide +kernel
theorem dX7_restore_9 : decode cX7_restore 9 = .ok (.dup, 1) := by decide +kernel
theorem dX7_restore_10 : decode cX7_restore 10 = .ok (.getfield 18, 3) := by decide +kernel
theorem dX7_restore_13 : decode cX7_restore 13 = .ok (.iconst 1, 1) := by decide +kernel
theorem dX7_restore_14 : decode cX7_restore 14 = .ok (.isub, 1) := by decide +kernel
theorem dX7_restore_15 : decode cX7_restore 15 = .ok (.putfield 18, 3) := by decide +kernel
theorem dX7_restore_18 : decode cX7_restore 18 = .ok (.aload_n 1, 1) := by decide +kernel
theorem dX7_restore_19 : decode cX7_restore 19 = .ok (.aload_n 0, 1) := by decide +kernel
theorem dX7_restore_20 : decode cX7_restore 20 = .ok (.getfield 11, 3) := by decide +kernel
theorem dX7_restore_23 : decode cX7_restore 23 = .ok (.aload_n 0, 1) := by decide +kernel
theorem dX7_restore_24 : decode cX7_restore 24 = .ok (.getfield 22, 3) := by decide +kernel
theorem dX7_restore_27 : decode cX7_restore 27 = .ok (.aload_n 0, 1) := by decide +kernel
theorem dX7_restore_28 : decode cX7_restore 28 = .ok (.getfield 18, 3) := by decide +kernel
theorem dX7_restore_31 : decode cX7_restore 31 = .ok (.iadd, 1) := by decide +kernel
theorem dX7_restore_32 : decode cX7_restore 32 = .ok (.bipush 16, 2) := by decide +kernel
theorem dX7_restore_34 : decode cX7_restore 34 = .ok (.irem, 1) := by decide +kernel
theorem dX7_restore_35 : decode cX7_restore 35 = .ok (.aaload, 1) := by decide +kernel
theorem dX7_restore_36 : decode cX7_restore 36 = .ok (.invokevirtual 25, 3) := by decide +kernel
theorem dX7_restore_39 : decode cX7_restore 39 = .ok (.return_, 1) := by decide +kernel
theorem dX7_forget_0 : decode cX7_forget 0 = .ok (.aload_n 0, 1) := by decide +kernel
theorem dX7_forget_1 : decode cX7_forget 1 = .ok (.iconst 0, 1) := by decide +kernel
theorem dX7_forget_2 : decode cX7_forget 2 = .ok (.putfield 18, 3) := by decide +kernel
theorem dX7_forget_5 : decode cX7_forget 5 = .ok (.return_, 1) := by decide +kernel
theorem dX8_init_0 : decode cX8_init 0 = .ok (.aload_n 0, 1) := by decide +kernel
theorem dX8_init_1 : decode cX8_init 1 = .ok (.invokespecial 3, 3) := by decide +kernel
theorem dX8_init_4 : decode cX8_init 4 = .ok (.aload_n 0, 1) := by decide +kernel
theorem dX8_init_5 : decode cX8_init 5 = .ok (.sipush 240, 3) := by decide +kernel
theorem dX8_init_8 : decode cX8_init 8 = .ok (.newarray .int, 2) := by decide +kernel
theorem dX8_init_10 : decode cX8_init 10 = .ok (.putfield 9, 3) := by decide +kernel
theorem dX8_init_13 : decode cX8_init 13 = .ok (.aload_n 0, 1) := by decide +kernel
theorem dX8_init_14 : decode cX8_init 14 = .ok (.iconst (-1), 1) := by decide +kernel
theorem dX8_init_15 : decode cX8_init 15 = .ok (.putfield 15, 3) := by decide +kernel
theorem dX8_init_18 : decode cX8_init 18 = .ok (.return_, 1) := by decide +kernel
theorem dX8_append_0 : decode cX8_append 0 = .ok (.aload_n 0, 1) := by decide +kernel
theorem dX8_append_1 : decode cX8_append 1 = .ok (.getfield 19, 3) := by decide +kernel
theorem dX8_append_4 : decode cX8_append 4 = .ok (.sipush 240, 3) := by decide +kernel
theorem dX8_append_7 : decode cX8_append 7 = .ok (.if_icmp .lt 4, 3) := by decide +kernel
theorem dX8_append_10 : decode cX8_append 10 = .ok (.return_, 1) := by decide +kernel
theorem dX8_append_11 : decode cX8_append 11 = .ok (.aload_n 0, 1) := by decide +kernel
theorem dX8_append_12 : decode cX8_append 12 = .ok (.getfield 9, 3) := by decide +kernel
theorem dX8_append_15 : decode cX8_append 15 = .ok (.aload_n 0, 1) := by decide +kernel
theorem dX8_append_16 : decode cX8_append 16 = .ok (.getfield 19, 3) := by decide +kernel
theorem dX8_append_19 : decode cX8_append 19 = .ok (.iload_n 1, 1) := by decide +kernel
theorem dX8_append_20 : decode cX8_append 20 = .ok (.iastore, 1) := by decide +kernel
theorem dX8_append_21 : decode cX8_append 21 = .ok (.aload_n 0, 1) := by decide +kernel
theorem dX8_append_22 : decode cX8_append 22 = .ok (.dup, 1) := by decide +kernel
theorem dX8_append_23 : decode cX8_append 23 = .ok (.getfield 19, 3) := by decide +kernel
theorem dX8_append_26 : decode cX8_append 26 = .ok (.iconst 1, 1) := by decide +kernel
theorem dX8_append_27 : decode cX8_append 27 = .ok (.iadd, 1) := by decide +kernel
theorem dX8_append_28 : decode cX8_append 28 = .ok (.putfield 19, 3) := by decide +kernel
theorem dX8_append_31 : decode cX8_append 31 = .ok (.return_, 1) := by decide +kernel
theorem dX8_read_0 : decode cX8_read 0 = .ok (.aload_n 1, 1) := by decide +kernel
theorem dX8_read_1 : decode cX8_read 1 = .ok (.invokevirtual 22, 3) := by decide +kernel
theorem dX8_read_4 : decode cX8_read 4 = .ok (.aload_n 0, 1) := by decide +kernel
theorem dX8_read_5 : decode cX8_read 5 = .ok (.iconst 0, 1) := by decide +kernel
theorem dX8_read_6 : decode cX8_read 6 = .ok (.putfield 27, 3) := by decide +kernel
theorem dX8_read_9 : decode cX8_read 9 = .ok (.aload_n 0, 1) := by decide +kernel
theorem dX8_read_10 : decode cX8_read 10 = .ok (.iconst (-1), 1) := by decide +kernel
theorem dX8_read_11 : decode cX8_read 11 = .ok (.putfield 15, 3) := by decide +kernel
theorem dX8_read_14 : decode cX8_read 14 = .ok (.aload_n 0, 1) := by decide +kernel
theorem dX8_read_15 : decode cX8_read 15 = .ok (.iconst 0, 1) := by decide +kernel
theorem dX8_read_16 : decode cX8_read 16 = .ok (.putfield 30, 3) := by decide +kernel
theorem dX8_read_19 : decode cX8_read 19 = .ok (.aload_n 0, 1) := by decide +kernel
theorem dX8_read_20 : decode cX8_read 20 = .ok (.invokevirtual 33, 3) := by decide +kernel
theorem dX8_read_23 : decode cX8_read 23 = .ok (.iconst 0, 1) := by decide +kernel
theorem dX8_read_24 : decode cX8_read 24 = .ok (.istore_n 2, 1) := by decide +kernel
theorem dX8_read_25 : decode cX8_read 25 = .ok (.iload_n 2, 1) := by decide +kernel
theorem dX8_read_26 : decode cX8_read 26 = .ok (.sipush 240, 3) := by decide +kernel
theorem dX8_read_29 : decode cX8_read 29 = .ok (.if_icmp .ge 36, 3) := by decide +kernel
theorem dX8_read_32 : decode cX8_read 32 = .ok (.aload_n 0, 1) := by decide +kernel
theorem dX8_read_33 : decode cX8_read 33 = .ok (.getfield 30, 3) := by decide +kernel
theorem dX8_read_36 : decode cX8_read 36 = .ok (.aload_n 0, 1) := by decide +kernel
theorem dX8_read_37 : decode cX8_read 37 = .ok (.getfield 19, 3) := by decide +kernel
theorem dX8_read_40 : decode cX8_read 40 = .ok (.if_icmp .ge 25, 3) := by decide +kernel
theorem dX8_read_43 : decode cX8_read 43 = .ok (.aload_n 0, 1) := by decide +kernel
theorem dX8_read_44 : decode cX8_read 44 = .ok (.getfield 27, 3) := by decide +kernel
theorem dX8_read_47 : decode cX8_read 47 = .ok (.ifCond .ne 18, 3) := by decide +kernel
theorem dX8_read_50 : decode cX8_read 50 = .ok (.aload_n 0, 1) := by decide +kernel
theorem dX8_read_51 : decode cX8_read 51 = .ok (.aload_n 1, 1) := by decide +kernel
theorem dX8_read_52 : decode cX8_read 52 = .ok (.invokevirtual 36, 3) := by decide +kernel
theorem dX8_read_55 : decode cX8_read 55 = .ok (.aload_n 0, 1) := by decide +kernel
theorem dX8_read_56 : decode cX8_read 56 = .ok (.invokevirtual 33, 3) := by decide +kernel
theorem dX8_read_59 : decode cX8_read 59 = .ok (.iinc 2 1, 3) := by decide +kernel
theorem dX8_read_62 : decode cX8_read 62 = .ok (.goto (-37), 3) := by decide +kernel
theorem dX8_read_65 : decode cX8_read 65 = .ok (.aload_n 1, 1) := by decide +kernel
theorem dX8_read_66 : decode cX8_read 66 = .ok (.invokevirtual 40, 3) := by decide +kernel
theorem dX8_read_69 : decode cX8_read 69 = .ok (.aload_n 0, 1) := by decide +kernel
theorem dX8_read_70 : decode cX8_read 70 = .ok (.iconst 0, 1) := by decide +kernel
theorem dX8_read_71 : decode cX8_read 71 = .ok (.putfield 19, 3) := by decide +kernel
theorem dX8_read_74 : decode cX8_read 74 = .ok (.return_, 1) := by decide +kernel
theorem dX8_readClause_0 : decode cX8_readClause 0 = .ok (.aload_n 0, 1) := by decide +kernel
theorem dX8_readClause_1 : decode cX8_readClause 1 = .ok (.invokevirtual 43, 3) := by decide +kernel
theorem dX8_readClause_4 : decode cX8_readClause 4 = .ok (.istore_n 2, 1) := by decide +kernel
theorem dX8_readClause_5 : decode cX8_readClause 5 = .ok (.iload_n 2, 1) := by decide +kernel
theorem dX8_readClause_6 : decode cX8_readClause 6 = .ok (.aload_n 1, 1) := by decide +kernel
theorem dX8_readClause_7 : decode cX8_readClause 7 = .ok (.invokestatic 47, 3) := by decide +kernel
theorem dX8_readClause_10 : decode cX8_readClause 10 = .ok (.istore_n 3, 1) := by decide +kernel
theorem dX8_readClause_11 : decode cX8_readClause 11 = .ok (.iload_n 3, 1) := by decide +kernel
theorem dX8_readClause_12 : decode cX8_readClause 12 = .ok (.ifCond .eq 13, 3) := by decide +kernel
theorem dX8_readClause_15 : decode cX8_readClause 15 = .ok (.aload_n 0, 1) := by decide +kernel
theorem dX8_readClause_16 : decode cX8_readClause 16 = .ok (.iload_n 3, 1) := by decide +kernel
theorem dX8_readClause_17 : decode cX8_readClause 17 = .ok (.aload_n 0, 1) := by decide +kernel
theorem dX8_readClause_18 : decode cX8_readClause 18 = .ok (.getfield 30, 3) := by decide +kernel
theorem dX8_readClause_21 : decode cX8_readClause 21 = .ok (.invokevirtual 51, 3) := by decide +kernel
theorem dX8_readClause_24 : decode cX8_readClause 24 = .ok (.return_, 1) := by decide +kernel
theorem dX8_readClause_25 : decode cX8_readClause 25 = .ok (.aload_n 0, 1) := by decide +kernel
theorem dX8_readClause_26 : decode cX8_readClause 26 = .ok (.dup, 1) := by decide +kernel
theorem dX8_readClause_27 : decode cX8_readClause 27 = .ok (.getfield 30, 3) := by decide +kernel
theorem dX8_readClause_30 : decode cX8_readClause 30 = .ok (.iconst 1, 1) := by decide +kernel
theorem dX8_readClause_31 : decode cX8_readClause 31 = .ok (.iadd, 1) := by decide +kernel
theorem dX8_readClause_32 : decode cX8_readClause 32 = .ok (.putfield 30, 3) := by decide +kernel
theorem dX8_readClause_35 : decode cX8_readClause 35 = .ok (.iload_n 2, 1) := by decide +kernel
theorem dX8_readClause_36 : decode cX8_readClause 36 = .ok (.bipush 111, 2) := by decide +kernel
theorem dX8_readClause_38 : decode cX8_readClause 38 = .ok (.if_icmp .ne 11, 3) := by decide +kernel
theorem dX8_readClause_41 : decode cX8_readClause 41 = .ok (.aload_n 0, 1) := by decide +kernel
theorem dX8_readClause_42 : decode cX8_readClause 42 = .ok (.aload_n 1, 1) := by decide +kernel
theorem dX8_readClause_43 : decode cX8_readClause 43 = .ok (.invokevirtual 55, 3) := by decide +kernel
theorem dX8_readClause_46 : decode cX8_readClause 46 = .ok (.goto 22, 3) := by decide +kernel
theorem dX8_readClause_49 : decode cX8_readClause 49 = .ok (.iload_n 2, 1) := by decide +kernel
theorem dX8_readClause_50 : decode cX8_readClause 50 = .ok (.bipush 118, 2) := by decide +kernel
theorem dX8_readClause_52 : decode cX8_readClause 52 = .ok (.if_icmp .ne 11, 3) := by decide +kernel
theorem dX8_readClause_55 : decode cX8_readClause 55 = .ok (.aload_n 0, 1) := by decide +kernel
theorem dX8_readClause_56 : decode cX8_readClause 56 = .ok (.aload_n 1, 1) := by decide +kernel
theorem dX8_readClause_57 : decode cX8_readClause 57 = .ok (.invokevirtual 58, 3) := by decide +kernel
theorem dX8_readClause_60 : decode cX8_readClause 60 = .ok (.goto 8, 3) := by decide +kernel
theorem dX8_readClause_63 : decode cX8_readClause 63 = .ok (.aload_n 0, 1) := by decide +kernel
theorem dX8_readClause_64 : decode cX8_readClause 64 = .ok (.aload_n 1, 1) := by decide +kernel
theorem dX8_readClause_65 : decode cX8_readClause 65 = .ok (.invokevirtual 61, 3) := by decide +kernel
theorem dX8_readClause_68 : decode cX8_readClause 68 = .ok (.return_, 1) := by decide +kernel
theorem dX8_faultOfWord_0 : decode cX8_faultOfWord 0 = .ok (.aload_n 1, 1) := by decide +kernel
end
section
theorem dX8_faultOfWord_1 : decode cX8_faultOfWord 1 = .ok (.getfield 64, 3) := by decide +kernel
theorem dX8_faultOfWord_4 : decode cX8_faultOfWord 4 = .ok (.ifCond .ne 15, 3) := by decide +kernel
theorem dX8_faultOfWord_7 : decode cX8_faultOfWord 7 = .ok (.iload_n 0, 1) := by decide +kernel
theorem dX8_faultOfWord_8 : decode cX8_faultOfWord 8 = .ok (.bipush 111, 2) := by decide +kernel
theorem dX8_faultOfWord_10 : decode cX8_faultOfWord 10 = .ok (.if_icmp .ne 7, 3) := by decide +kernel
theorem dX8_faultOfWord_13 : decode cX8_faultOfWord 13 = .ok (.iconst 0, 1) := by decide +kernel
theorem dX8_faultOfWord_14 : decode cX8_faultOfWord 14 = .ok (.goto 4, 3) := by decide +kernel
theorem dX8_faultOfWord_17 : decode cX8_faultOfWord 17 = .ok (.iconst 1, 1) := by decide +kernel
theorem dX8_faultOfWord_18 : decode cX8_faultOfWord 18 = .ok (.ireturn, 1) := by decide +kernel
theorem dX8_faultOfWord_19 : decode cX8_faultOfWord 19 = .ok (.iload_n 0, 1) := by decide +kernel
theorem dX8_faultOfWord_20 : decode cX8_faultOfWord 20 = .ok (.bipush 111, 2) := by decide +kernel
theorem dX8_faultOfWord_22 : decode cX8_faultOfWord 22 = .ok (.if_icmp .ne 5, 3) := by decide +kernel
theorem dX8_faultOfWord_25 : decode cX8_faultOfWord 25 = .ok (.iconst 3, 1) := by decide +kernel
theorem dX8_faultOfWord_26 : decode cX8_faultOfWord 26 = .ok (.ireturn, 1) := by decide +kernel
theorem dX8_faultOfWord_27 : decode cX8_faultOfWord 27 = .ok (.iload_n 0, 1) := by decide +kernel
theorem dX8_faultOfWord_28 : decode cX8_faultOfWord 28 = .ok (.bipush 118, 2) := by decide +kernel
theorem dX8_faultOfWord_30 : decode cX8_faultOfWord 30 = .ok (.if_icmp .ne 17, 3) := by decide +kernel
theorem dX8_faultOfWord_33 : decode cX8_faultOfWord 33 = .ok (.aload_n 1, 1) := by decide +kernel
theorem dX8_faultOfWord_34 : decode cX8_faultOfWord 34 = .ok (.getfield 68, 3) := by decide +kernel
theorem dX8_faultOfWord_37 : decode cX8_faultOfWord 37 = .ok (.iconst 4, 1) := by decide +kernel
theorem dX8_faultOfWord_38 : decode cX8_faultOfWord 38 = .ok (.if_icmp .ge 7, 3) := by decide +kernel
theorem dX8_faultOfWord_41 : decode cX8_faultOfWord 41 = .ok (.iconst 0, 1) := by decide +kernel
theorem dX8_faultOfWord_42 : decode cX8_faultOfWord 42 = .ok (.goto 4, 3) := by decide +kernel
theorem dX8_faultOfWord_45 : decode cX8_faultOfWord 45 = .ok (.iconst 3, 1) := by decide +kernel
theorem dX8_faultOfWord_46 : decode cX8_faultOfWord 46 = .ok (.ireturn, 1) := by decide +kernel
theorem dX8_faultOfWord_47 : decode cX8_faultOfWord 47 = .ok (.iload_n 0, 1) := by decide +kernel
theorem dX8_faultOfWord_48 : decode cX8_faultOfWord 48 = .ok (.bipush 112, 2) := by decide +kernel
theorem dX8_faultOfWord_50 : decode cX8_faultOfWord 50 = .ok (.if_icmp .ne 18, 3) := by decide +kernel
theorem dX8_faultOfWord_53 : decode cX8_faultOfWord 53 = .ok (.aload_n 1, 1) := by decide +kernel
theorem dX8_faultOfWord_54 : decode cX8_faultOfWord 54 = .ok (.getfield 71, 3) := by decide +kernel
theorem dX8_faultOfWord_57 : decode cX8_faultOfWord 57 = .ok (.bipush 7, 2) := by decide +kernel
theorem dX8_faultOfWord_59 : decode cX8_faultOfWord 59 = .ok (.if_icmp .ge 7, 3) := by decide +kernel
theorem dX8_faultOfWord_62 : decode cX8_faultOfWord 62 = .ok (.iconst 0, 1) := by decide +kernel
theorem dX8_faultOfWord_63 : decode cX8_faultOfWord 63 = .ok (.goto 4, 3) := by decide +kernel
theorem dX8_faultOfWord_66 : decode cX8_faultOfWord 66 = .ok (.iconst 3, 1) := by decide +kernel
theorem dX8_faultOfWord_67 : decode cX8_faultOfWord 67 = .ok (.ireturn, 1) := by decide +kernel
theorem dX8_faultOfWord_68 : decode cX8_faultOfWord 68 = .ok (.iconst 1, 1) := by decide +kernel
theorem dX8_faultOfWord_69 : decode cX8_faultOfWord 69 = .ok (.ireturn, 1) := by decide +kernel
theorem dX8_readOracle_0 : decode cX8_readOracle 0 = .ok (.aload_n 1, 1) := by decide +kernel
theorem dX8_readOracle_1 : decode cX8_readOracle 1 = .ok (.aload_n 0, 1) := by decide +kernel
theorem dX8_readOracle_2 : decode cX8_readOracle 2 = .ok (.iconst 1, 1) := by decide +kernel
theorem dX8_readOracle_3 : decode cX8_readOracle 3 = .ok (.bipush 20, 2) := by decide +kernel
theorem dX8_readOracle_5 : decode cX8_readOracle 5 = .ok (.invokevirtual 74, 3) := by decide +kernel
theorem dX8_readOracle_8 : decode cX8_readOracle 8 = .ok (.putfield 78, 3) := by decide +kernel
theorem dX8_readOracle_11 : decode cX8_readOracle 11 = .ok (.aload_n 1, 1) := by decide +kernel
theorem dX8_readOracle_12 : decode cX8_readOracle 12 = .ok (.aload_n 0, 1) := by decide +kernel
theorem dX8_readOracle_13 : decode cX8_readOracle 13 = .ok (.iconst 1, 1) := by decide +kernel
theorem dX8_readOracle_14 : decode cX8_readOracle 14 = .ok (.bipush 9, 2) := by decide +kernel
theorem dX8_readOracle_16 : decode cX8_readOracle 16 = .ok (.invokevirtual 74, 3) := by decide +kernel
theorem dX8_readOracle_19 : decode cX8_readOracle 19 = .ok (.putfield 81, 3) := by decide +kernel
theorem dX8_readOracle_22 : decode cX8_readOracle 22 = .ok (.aload_n 0, 1) := by decide +kernel
theorem dX8_readOracle_23 : decode cX8_readOracle 23 = .ok (.invokevirtual 84, 3) := by decide +kernel
theorem dX8_readOracle_26 : decode cX8_readOracle 26 = .ok (.aload_n 1, 1) := by decide +kernel
theorem dX8_readOracle_27 : decode cX8_readOracle 27 = .ok (.iconst 1, 1) := by decide +kernel
theorem dX8_readOracle_28 : decode cX8_readOracle 28 = .ok (.putfield 64, 3) := by decide +kernel
theorem dX8_readOracle_31 : decode cX8_readOracle 31 = .ok (.return_, 1) := by decide +kernel
theorem dX8_readVillage_0 : decode cX8_readVillage 0 = .ok (.aload_n 0, 1) := by decide +kernel
theorem dX8_readVillage_1 : decode cX8_readVillage 1 = .ok (.iconst 0, 1) := by decide +kernel
theorem dX8_readVillage_2 : decode cX8_readVillage 2 = .ok (.bipush 99, 2) := by decide +kernel
theorem dX8_readVillage_4 : decode cX8_readVillage 4 = .ok (.invokevirtual 74, 3) := by decide +kernel
theorem dX8_readVillage_7 : decode cX8_readVillage 7 = .ok (.istore_n 2, 1) := by decide +kernel
theorem dX8_readVillage_8 : decode cX8_readVillage 8 = .ok (.aload_n 0, 1) := by decide +kernel
theorem dX8_readVillage_9 : decode cX8_readVillage 9 = .ok (.invokevirtual 84, 3) := by decide +kernel
theorem dX8_readVillage_12 : decode cX8_readVillage 12 = .ok (.aload_n 1, 1) := by decide +kernel
theorem dX8_readVillage_13 : decode cX8_readVillage 13 = .ok (.iload_n 2, 1) := by decide +kernel
theorem dX8_readVillage_14 : decode cX8_readVillage 14 = .ok (.invokevirtual 87, 3) := by decide +kernel
theorem dX8_readVillage_17 : decode cX8_readVillage 17 = .ok (.return_, 1) := by decide +kernel
theorem dX8_readPerson_0 : decode cX8_readPerson 0 = .ok (.aload_n 0, 1) := by decide +kernel
theorem dX8_readPerson_1 : decode cX8_readPerson 1 = .ok (.iconst 0, 1) := by decide +kernel
theorem dX8_readPerson_2 : decode cX8_readPerson 2 = .ok (.iconst 3, 1) := by decide +kernel
theorem dX8_readPerson_3 : decode cX8_readPerson 3 = .ok (.invokevirtual 74, 3) := by decide +kernel
theorem dX8_readPerson_6 : decode cX8_readPerson 6 = .ok (.istore_n 2, 1) := by decide +kernel
theorem dX8_readPerson_7 : decode cX8_readPerson 7 = .ok (.aload_n 0, 1) := by decide +kernel
theorem dX8_readPerson_8 : decode cX8_readPerson 8 = .ok (.iconst 0, 1) := by decide +kernel
theorem dX8_readPerson_9 : decode cX8_readPerson 9 = .ok (.aload_n 1, 1) := by decide +kernel
theorem dX8_readPerson_10 : decode cX8_readPerson 10 = .ok (.getfield 68, 3) := by decide +kernel
theorem dX8_readPerson_13 : decode cX8_readPerson 13 = .ok (.iconst 1, 1) := by decide +kernel
theorem dX8_readPerson_14 : decode cX8_readPerson 14 = .ok (.isub, 1) := by decide +kernel
theorem dX8_readPerson_15 : decode cX8_readPerson 15 = .ok (.invokevirtual 74, 3) := by decide +kernel
theorem dX8_readPerson_18 : decode cX8_readPerson 18 = .ok (.istore_n 3, 1) := by decide +kernel
theorem dX8_readPerson_19 : decode cX8_readPerson 19 = .ok (.aload_n 0, 1) := by decide +kernel
theorem dX8_readPerson_20 : decode cX8_readPerson 20 = .ok (.iconst 1, 1) := by decide +kernel
theorem dX8_readPerson_21 : decode cX8_readPerson 21 = .ok (.bipush 9, 2) := by decide +kernel
theorem dX8_readPerson_23 : decode cX8_readPerson 23 = .ok (.invokevirtual 74, 3) := by decide +kernel
theorem dX8_readPerson_26 : decode cX8_readPerson 26 = .ok (.istore 4, 2) := by decide +kernel
theorem dX8_readPerson_28 : decode cX8_readPerson 28 = .ok (.aload_n 0, 1) := by decide +kernel
theorem dX8_readPerson_29 : decode cX8_readPerson 29 = .ok (.iconst 0, 1) := by decide +kernel
theorem dX8_readPerson_30 : decode cX8_readPerson 30 = .ok (.bipush 9, 2) := by decide +kernel
theorem dX8_readPerson_32 : decode cX8_readPerson 32 = .ok (.invokevirtual 74, 3) := by decide +kernel
theorem dX8_readPerson_35 : decode cX8_readPerson 35 = .ok (.istore 5, 2) := by decide +kernel
theorem dX8_readPerson_37 : decode cX8_readPerson 37 = .ok (.iload 5, 2) := by decide +kernel
theorem dX8_readPerson_39 : decode cX8_readPerson 39 = .ok (.bipush 7, 2) := by decide +kernel
theorem dX8_readPerson_41 : decode cX8_readPerson 41 = .ok (.if_icmp .eq 10, 3) := by decide +kernel
theorem dX8_readPerson_44 : decode cX8_readPerson 44 = .ok (.iload 5, 2) := by decide +kernel
theorem dX8_readPerson_46 : decode cX8_readPerson 46 = .ok (.bipush 8, 2) := by decide +kernel
theorem dX8_readPerson_48 : decode cX8_readPerson 48 = .ok (.if_icmp .ne 12, 3) := by decide +kernel
theorem dX8_readPerson_51 : decode cX8_readPerson 51 = .ok (.aload_n 0, 1) := by decide +kernel
theorem dX8_readPerson_52 : decode cX8_readPerson 52 = .ok (.iconst 2, 1) := by decide +kernel
theorem dX8_readPerson_53 : decode cX8_readPerson 53 = .ok (.aload_n 0, 1) := by decide +kernel
theorem dX8_readPerson_54 : decode cX8_readPerson 54 = .ok (.getfield 91, 3) := by decide +kernel
theorem dX8_readPerson_57 : decode cX8_readPerson 57 = .ok (.invokevirtual 51, 3) := by decide +kernel
theorem dX8_readPerson_60 : decode cX8_readPerson 60 = .ok (.aload_n 0, 1) := by decide +kernel
theorem dX8_readPerson_61 : decode cX8_readPerson 61 = .ok (.invokevirtual 84, 3) := by decide +kernel
theorem dX8_readPerson_64 : decode cX8_readPerson 64 = .ok (.aload_n 0, 1) := by decide +kernel
theorem dX8_readPerson_65 : decode cX8_readPerson 65 = .ok (.getfield 27, 3) := by decide +kernel
theorem dX8_readPerson_68 : decode cX8_readPerson 68 = .ok (.ifCond .ne 13, 3) := by decide +kernel
theorem dX8_readPerson_71 : decode cX8_readPerson 71 = .ok (.aload_n 1, 1) := by decide +kernel
theorem dX8_readPerson_72 : decode cX8_readPerson 72 = .ok (.iload_n 2, 1) := by decide +kernel
theorem dX8_readPerson_73 : decode cX8_readPerson 73 = .ok (.iload_n 3, 1) := by decide +kernel
theorem dX8_readPerson_74 : decode cX8_readPerson 74 = .ok (.iload 4, 2) := by decide +kernel
theorem dX8_readPerson_76 : decode cX8_readPerson 76 = .ok (.iload 5, 2) := by decide +kernel
theorem dX8_readPerson_78 : decode cX8_readPerson 78 = .ok (.invokevirtual 94, 3) := by decide +kernel
theorem dX8_readPerson_81 : decode cX8_readPerson 81 = .ok (.return_, 1) := by decide +kernel
theorem dX8_readNumber_0 : decode cX8_readNumber 0 = .ok (.aload_n 0, 1) := by decide +kernel
theorem dX8_readNumber_1 : decode cX8_readNumber 1 = .ok (.getfield 27, 3) := by decide +kernel
theorem dX8_readNumber_4 : decode cX8_readNumber 4 = .ok (.ifCond .eq 5, 3) := by decide +kernel
theorem dX8_readNumber_7 : decode cX8_readNumber 7 = .ok (.iconst 0, 1) := by decide +kernel
theorem dX8_readNumber_8 : decode cX8_readNumber 8 = .ok (.ireturn, 1) := by decide +kernel
theorem dX8_readNumber_9 : decode cX8_readNumber 9 = .ok (.aload_n 0, 1) := by decide +kernel
theorem dX8_readNumber_10 : decode cX8_readNumber 10 = .ok (.invokevirtual 33, 3) := by decide +kernel
theorem dX8_readNumber_13 : decode cX8_readNumber 13 = .ok (.aload_n 0, 1) := by decide +kernel
theorem dX8_readNumber_14 : decode cX8_readNumber 14 = .ok (.aload_n 0, 1) := by decide +kernel
theorem dX8_readNumber_15 : decode cX8_readNumber 15 = .ok (.getfield 30, 3) := by decide +kernel
theorem dX8_readNumber_18 : decode cX8_readNumber 18 = .ok (.putfield 91, 3) := by decide +kernel
theorem dX8_readNumber_21 : decode cX8_readNumber 21 = .ok (.iconst 0, 1) := by decide +kernel
theorem dX8_readNumber_22 : decode cX8_readNumber 22 = .ok (.istore_n 3, 1) := by decide +kernel
theorem dX8_readNumber_23 : decode cX8_readNumber 23 = .ok (.aload_n 0, 1) := by decide +kernel
theorem dX8_readNumber_24 : decode cX8_readNumber 24 = .ok (.getfield 30, 3) := by decide +kernel
theorem dX8_readNumber_27 : decode cX8_readNumber 27 = .ok (.aload_n 0, 1) := by decide +kernel
theorem dX8_readNumber_28 : decode cX8_readNumber 28 = .ok (.getfield 19, 3) := by decide +kernel
theorem dX8_readNumber_31 : decode cX8_readNumber 31 = .ok (.if_icmp .ge 52, 3) := by decide +kernel
theorem dX8_readNumber_34 : decode cX8_readNumber 34 = .ok (.aload_n 0, 1) := by decide +kernel
theorem dX8_readNumber_35 : decode cX8_readNumber 35 = .ok (.invokevirtual 43, 3) := by decide +kernel
theorem dX8_readNumber_38 : decode cX8_readNumber 38 = .ok (.invokestatic 98, 3) := by decide +kernel
theorem dX8_readNumber_41 : decode cX8_readNumber 41 = .ok (.ifCond .eq 42, 3) := by decide +kernel
theorem dX8_readNumber_44 : decode cX8_readNumber 44 = .ok (.aload_n 0, 1) := by decide +kernel
theorem dX8_readNumber_45 : decode cX8_readNumber 45 = .ok (.getfield 30, 3) := by decide +kernel
theorem dX8_readNumber_48 : decode cX8_readNumber 48 = .ok (.aload_n 0, 1) := by decide +kernel
theorem dX8_readNumber_49 : decode cX8_readNumber 49 = .ok (.getfield 91, 3) := by decide +kernel
theorem dX8_readNumber_52 : decode cX8_readNumber 52 = .ok (.isub, 1) := by decide +kernel
theorem dX8_readNumber_53 : decode cX8_readNumber 53 = .ok (.iconst 4, 1) := by decide +kernel
theorem dX8_readNumber_54 : decode cX8_readNumber 54 = .ok (.if_icmp .ge 16, 3) := by decide +kernel
theorem dX8_readNumber_57 : decode cX8_readNumber 57 = .ok (.iload_n 3, 1) := by decide +kernel
theorem dX8_readNumber_58 : decode cX8_readNumber 58 = .ok (.bipush 10, 2) := by decide +kernel
theorem dX8_readNumber_60 : decode cX8_readNumber 60 = .ok (.imul, 1) := by decide +kernel
theorem dX8_readNumber_61 : decode cX8_readNumber 61 = .ok (.aload_n 0, 1) := by decide +kernel
theorem dX8_readNumber_62 : decode cX8_readNumber 62 = .ok (.invokevirtual 43, 3) := by decide +kernel
theorem dX8_readNumber_65 : decode cX8_readNumber 65 = .ok (.iadd, 1) := by decide +kernel
theorem dX8_readNumber_66 : decode cX8_readNumber 66 = .ok (.bipush 48, 2) := by decide +kernel
theorem dX8_readNumber_68 : decode cX8_readNumber 68 = .ok (.isub, 1) := by decide +kernel
theorem dX8_readNumber_69 : decode cX8_readNumber 69 = .ok (.istore_n 3, 1) := by decide +kernel
theorem dX8_readNumber_70 : decode cX8_readNumber 70 = .ok (.aload_n 0, 1) := by decide +kernel
theorem dX8_readNumber_71 : decode cX8_readNumber 71 = .ok (.dup, 1) := by decide +kernel
theorem dX8_readNumber_72 : decode cX8_readNumber 72 = .ok (.getfield 30, 3) := by decide +kernel
theorem dX8_readNumber_75 : decode cX8_readNumber 75 = .ok (.iconst 1, 1) := by decide +kernel
theorem dX8_readNumber_76 : decode cX8_readNumber 76 = .ok (.iadd, 1) := by decide +kernel
theorem dX8_readNumber_77 : decode cX8_readNumber 77 = .ok (.putfield 30, 3) := by decide +kernel
theorem dX8_readNumber_80 : decode cX8_readNumber 80 = .ok (.goto (-57), 3) := by decide +kernel
theorem dX8_readNumber_83 : decode cX8_readNumber 83 = .ok (.aload_n 0, 1) := by decide +kernel
theorem dX8_readNumber_84 : decode cX8_readNumber 84 = .ok (.getfield 30, 3) := by decide +kernel
theorem dX8_readNumber_87 : decode cX8_readNumber 87 = .ok (.aload_n 0, 1) := by decide +kernel
theorem dX8_readNumber_88 : decode cX8_readNumber 88 = .ok (.getfield 91, 3) := by decide +kernel
theorem dX8_readNumber_91 : decode cX8_readNumber 91 = .ok (.isub, 1) := by decide +kernel
theorem dX8_readNumber_92 : decode cX8_readNumber 92 = .ok (.istore 4, 2) := by decide +kernel
theorem dX8_readNumber_94 : decode cX8_readNumber 94 = .ok (.iload 4, 2) := by decide +kernel
theorem dX8_readNumber_96 : decode cX8_readNumber 96 = .ok (.ifCond .ne 15, 3) := by decide +kernel
theorem dX8_readNumber_99 : decode cX8_readNumber 99 = .ok (.aload_n 0, 1) := by decide +kernel
theorem dX8_readNumber_100 : decode cX8_readNumber 100 = .ok (.iconst 1, 1) := by decide +kernel
theorem dX8_readNumber_101 : decode cX8_readNumber 101 = .ok (.aload_n 0, 1) := by decide +kernel
theorem dX8_readNumber_102 : decode cX8_readNumber 102 = .ok (.getfield 91, 3) := by decide +kernel
theorem dX8_readNumber_105 : decode cX8_readNumber 105 = .ok (.invokevirtual 51, 3) := by decide +kernel
theorem dX8_readNumber_108 : decode cX8_readNumber 108 = .ok (.goto 28, 3) := by decide +kernel
theorem dX8_readNumber_111 : decode cX8_readNumber 111 = .ok (.iload 4, 2) := by decide +kernel
theorem dX8_readNumber_113 : decode cX8_readNumber 113 = .ok (.iconst 3, 1) := by decide +kernel
theorem dX8_readNumber_114 : decode cX8_readNumber 114 = .ok (.if_icmp .gt 13, 3) := by decide +kernel
theorem dX8_readNumber_117 : decode cX8_readNumber 117 = .ok (.iload_n 3, 1) := by decide +kernel
theorem dX8_readNumber_118 : decode cX8_readNumber 118 = .ok (.iload_n 1, 1) := by decide +kernel
theorem dX8_readNumber_119 : decode cX8_readNumber 119 = .ok (.if_icmp .lt 8, 3) := by decide +kernel
theorem dX8_readNumber_122 : decode cX8_readNumber 122 = .ok (.iload_n 3, 1) := by decide +kernel
theorem dX8_readNumber_123 : decode cX8_readNumber 123 = .ok (.iload_n 2, 1) := by decide +kernel
theorem dX8_readNumber_124 : decode cX8_readNumber 124 = .ok (.if_icmp .le 12, 3) := by decide +kernel
theorem dX8_readNumber_127 : decode cX8_readNumber 127 = .ok (.aload_n 0, 1) := by decide +kernel
theorem dX8_readNumber_128 : decode cX8_readNumber 128 = .ok (.iconst 2, 1) := by decide +kernel
theorem dX8_readNumber_129 : decode cX8_readNumber 129 = .ok (.aload_n 0, 1) := by decide +kernel
theorem dX8_readNumber_130 : decode cX8_readNumber 130 = .ok (.getfield 91, 3) := by decide +kernel
theorem dX8_readNumber_133 : decode cX8_readNumber 133 = .ok (.invokevirtual 51, 3) := by decide +kernel
theorem dX8_readNumber_136 : decode cX8_readNumber 136 = .ok (.iload_n 3, 1) := by decide +kernel
theorem dX8_readNumber_137 : decode cX8_readNumber 137 = .ok (.ireturn, 1) := by decide +kernel
theorem dX8_readEnd_0 : decode cX8_readEnd 0 = .ok (.aload_n 0, 1) := by decide +kernel
theorem dX8_readEnd_1 : decode cX8_readEnd 1 = .ok (.getfield 27, 3) := by decide +kernel
theorem dX8_readEnd_4 : decode cX8_readEnd 4 = .ok (.ifCond .eq 4, 3) := by decide +kernel
theorem dX8_readEnd_7 : decode cX8_readEnd 7 = .ok (.return_, 1) := by decide +kernel
theorem dX8_readEnd_8 : decode cX8_readEnd 8 = .ok (.aload_n 0, 1) := by decide +kernel
theorem dX8_readEnd_9 : decode cX8_readEnd 9 = .ok (.invokevirtual 33, 3) := by decide +kernel
theorem dX8_readEnd_12 : decode cX8_readEnd 12 = .ok (.aload_n 0, 1) := by decide +kernel
theorem dX8_readEnd_13 : decode cX8_readEnd 13 = .ok (.getfield 30, 3) := by decide +kernel
theorem dX8_readEnd_16 : decode cX8_readEnd 16 = .ok (.aload_n 0, 1) := by decide +kernel
theorem dX8_readEnd_17 : decode cX8_readEnd 17 = .ok (.getfield 19, 3) := by decide +kernel
theorem dX8_readEnd_20 : decode cX8_readEnd 20 = .ok (.if_icmp .ge 25, 3) := by decide +kernel
theorem dX8_readEnd_23 : decode cX8_readEnd 23 = .ok (.aload_n 0, 1) := by decide +kernel
theorem dX8_readEnd_24 : decode cX8_readEnd 24 = .ok (.invokevirtual 43, 3) := by decide +kernel
theorem dX8_readEnd_27 : decode cX8_readEnd 27 = .ok (.bipush 59, 2) := by decide +kernel
theorem dX8_readEnd_29 : decode cX8_readEnd 29 = .ok (.if_icmp .ne 16, 3) := by decide +kernel
theorem dX8_readEnd_32 : decode cX8_readEnd 32 = .ok (.aload_n 0, 1) := by decide +kernel
theorem dX8_readEnd_33 : decode cX8_readEnd 33 = .ok (.dup, 1) := by decide +kernel
theorem dX8_readEnd_34 : decode cX8_readEnd 34 = .ok (.getfield 30, 3) := by decide +kernel
theorem dX8_readEnd_37 : decode cX8_readEnd 37 = .ok (.iconst 1, 1) := by decide +kernel
theorem dX8_readEnd_38 : decode cX8_readEnd 38 = .ok (.iadd, 1) := by decide +kernel
theorem dX8_readEnd_39 : decode cX8_readEnd 39 = .ok (.putfield 30, 3) := by decide +kernel
theorem dX8_readEnd_42 : decode cX8_readEnd 42 = .ok (.goto 12, 3) := by decide +kernel
theorem dX8_readEnd_45 : decode cX8_readEnd 45 = .ok (.aload_n 0, 1) := by decide +kernel
theorem dX8_readEnd_46 : decode cX8_readEnd 46 = .ok (.iconst 1, 1) := by decide +kernel
theorem dX8_readEnd_47 : decode cX8_readEnd 47 = .ok (.aload_n 0, 1) := by decide +kernel
theorem dX8_readEnd_48 : decode cX8_readEnd 48 = .ok (.getfield 30, 3) := by decide +kernel
theorem dX8_readEnd_51 : decode cX8_readEnd 51 = .ok (.invokevirtual 51, 3) := by decide +kernel
theorem dX8_readEnd_54 : decode cX8_readEnd 54 = .ok (.return_, 1) := by decide +kernel
theorem dX8_skipBlanks_0 : decode cX8_skipBlanks 0 = .ok (.aload_n 0, 1) := by decide +kernel
theorem dX8_skipBlanks_1 : decode cX8_skipBlanks 1 = .ok (.getfield 27, 3) := by decide +kernel
theorem dX8_skipBlanks_4 : decode cX8_skipBlanks 4 = .ok (.ifCond .eq 4, 3) := by decide +kernel
theorem dX8_skipBlanks_7 : decode cX8_skipBlanks 7 = .ok (.return_, 1) := by decide +kernel
theorem dX8_skipBlanks_8 : decode cX8_skipBlanks 8 = .ok (.aload_n 0, 1) := by decide +kernel
theorem dX8_skipBlanks_9 : decode cX8_skipBlanks 9 = .ok (.getfield 30, 3) := by decide +kernel
theorem dX8_skipBlanks_12 : decode cX8_skipBlanks 12 = .ok (.aload_n 0, 1) := by decide +kernel
theorem dX8_skipBlanks_13 : decode cX8_skipBlanks 13 = .ok (.getfield 19, 3) := by decide +kernel
theorem dX8_skipBlanks_16 : decode cX8_skipBlanks 16 = .ok (.if_icmp .ge 25, 3) := by decide +kernel
theorem dX8_skipBlanks_19 : decode cX8_skipBlanks 19 = .ok (.aload_n 0, 1) := by decide +kernel
theorem dX8_skipBlanks_20 : decode cX8_skipBlanks 20 = .ok (.invokevirtual 43, 3) := by decide +kernel
theorem dX8_skipBlanks_23 : decode cX8_skipBlanks 23 = .ok (.bipush 32, 2) := by decide +kernel
theorem dX8_skipBlanks_25 : decode cX8_skipBlanks 25 = .ok (.if_icmp .ne 16, 3) := by decide +kernel
theorem dX8_skipBlanks_28 : decode cX8_skipBlanks 28 = .ok (.aload_n 0, 1) := by decide +kernel
theorem dX8_skipBlanks_29 : decode cX8_skipBlanks 29 = .ok (.dup, 1) := by decide +kernel
theorem dX8_skipBlanks_30 : decode cX8_skipBlanks 30 = .ok (.getfield 30, 3) := by decide +kernel
theorem dX8_skipBlanks_33 : decode cX8_skipBlanks 33 = .ok (.iconst 1, 1) := by decide +kernel
theorem dX8_skipBlanks_34 : decode cX8_skipBlanks 34 = .ok (.iadd, 1) := by decide +kernel
theorem dX8_skipBlanks_35 : decode cX8_skipBlanks 35 = .ok (.putfield 30, 3) := by decide +kernel
theorem dX8_skipBlanks_38 : decode cX8_skipBlanks 38 = .ok (.goto (-30), 3) := by decide +kernel
theorem dX8_skipBlanks_41 : decode cX8_skipBlanks 41 = .ok (.return_, 1) := by decide +kernel
theorem dX8_isFigure_0 : decode cX8_isFigure 0 = .ok (.iload_n 0, 1) := by decide +kernel
theorem dX8_isFigure_1 : decode cX8_isFigure 1 = .ok (.bipush 48, 2) := by decide +kernel
theorem dX8_isFigure_3 : decode cX8_isFigure 3 = .ok (.if_icmp .lt 13, 3) := by decide +kernel
theorem dX8_isFigure_6 : decode cX8_isFigure 6 = .ok (.iload_n 0, 1) := by decide +kernel
theorem dX8_isFigure_7 : decode cX8_isFigure 7 = .ok (.bipush 57, 2) := by decide +kernel
theorem dX8_isFigure_9 : decode cX8_isFigure 9 = .ok (.if_icmp .gt 7, 3) := by decide +kernel
theorem dX8_isFigure_12 : decode cX8_isFigure 12 = .ok (.iconst 1, 1) := by decide +kernel
theorem dX8_isFigure_13 : decode cX8_isFigure 13 = .ok (.goto 4, 3) := by decide +kernel
theorem dX8_isFigure_16 : decode cX8_isFigure 16 = .ok (.iconst 0, 1) := by decide +kernel
theorem dX8_isFigure_17 : decode cX8_isFigure 17 = .ok (.ireturn, 1) := by decide +kernel
theorem dX8_letter_0 : decode cX8_letter 0 = .ok (.aload_n 0, 1) := by decide +kernel
theorem dX8_letter_1 : decode cX8_letter 1 = .ok (.getfield 30, 3) := by decide +kernel
theorem dX8_letter_4 : decode cX8_letter 4 = .ok (.ifCond .lt 36, 3) := by decide +kernel
theorem dX8_letter_7 : decode cX8_letter 7 = .ok (.aload_n 0, 1) := by decide +kernel
theorem dX8_letter_8 : decode cX8_letter 8 = .ok (.getfield 30, 3) := by decide +kernel
theorem dX8_letter_11 : decode cX8_letter 11 = .ok (.aload_n 0, 1) := by decide +kernel
theorem dX8_letter_12 : decode cX8_letter 12 = .ok (.getfield 19, 3) := by decide +kernel
theorem dX8_letter_15 : decode cX8_letter 15 = .ok (.if_icmp .ge 25, 3) := by decide +kernel
theorem dX8_letter_18 : decode cX8_letter 18 = .ok (.aload_n 0, 1) := by decide +kernel
theorem dX8_letter_19 : decode cX8_letter 19 = .ok (.getfield 30, 3) := by decide +kernel
theorem dX8_letter_22 : decode cX8_letter 22 = .ok (.sipush 240, 3) := by decide +kernel
theorem dX8_letter_25 : decode cX8_letter 25 = .ok (.if_icmp .ge 15, 3) := by decide +kernel
theorem dX8_letter_28 : decode cX8_letter 28 = .ok (.aload_n 0, 1) := by decide +kernel
theorem dX8_letter_29 : decode cX8_letter 29 = .ok (.getfield 9, 3) := by decide +kernel
theorem dX8_letter_32 : decode cX8_letter 32 = .ok (.aload_n 0, 1) := by decide +kernel
theorem dX8_letter_33 : decode cX8_letter 33 = .ok (.getfield 30, 3) := by decide +kernel
theorem dX8_letter_36 : decode cX8_letter 36 = .ok (.iaload, 1) := by decide +kernel
theorem dX8_letter_37 : decode cX8_letter 37 = .ok (.goto 4, 3) := by decide +kernel
theorem dX8_letter_40 : decode cX8_letter 40 = .ok (.iconst (-1), 1) := by decide +kernel
theorem dX8_letter_41 : decode cX8_letter 41 = .ok (.ireturn, 1) := by decide +kernel
theorem dX8_fail_0 : decode cX8_fail 0 = .ok (.aload_n 0, 1) := by decide +kernel
theorem dX8_fail_1 : decode cX8_fail 1 = .ok (.getfield 27, 3) := by decide +kernel
theorem dX8_fail_4 : decode cX8_fail 4 = .ok (.ifCond .eq 4, 3) := by decide +kernel
theorem dX8_fail_7 : decode cX8_fail 7 = .ok (.return_, 1) := by decide +kernel
theorem dX8_fail_8 : decode cX8_fail 8 = .ok (.aload_n 0, 1) := by decide +kernel
theorem dX8_fail_9 : decode cX8_fail 9 = .ok (.iload_n 1, 1) := by decide +kernel
theorem dX8_fail_10 : decode cX8_fail 10 = .ok (.putfield 27, 3) := by decide +kernel
theorem dX8_fail_13 : decode cX8_fail 13 = .ok (.aload_n 0, 1) := by decide +kernel
theorem dX8_fail_14 : decode cX8_fail 14 = .ok (.iload_n 2, 1) := by decide +kernel
theorem dX8_fail_15 : decode cX8_fail 15 = .ok (.putfield 15, 3) := by decide +kernel
theorem dX8_fail_18 : decode cX8_fail 18 = .ok (.return_, 1) := by decide +kernel
theorem dX9_init_0 : decode cX9_init 0 = .ok (.aload_n 0, 1) := by decide +kernel
theorem dX9_init_1 : decode cX9_init 1 = .ok (.invokespecial 3, 3) := by decide +kernel
theorem dX9_init_4 : decode cX9_init 4 = .ok (.aload_n 0, 1) := by decide +kernel
theorem dX9_init_5 : decode cX9_init 5 = .ok (.bipush 6, 2) := by decide +kernel
theorem dX9_init_7 : decode cX9_init 7 = .ok (.newarray .int, 2) := by decide +kernel
theorem dX9_init_9 : decode cX9_init 9 = .ok (.putfield 9, 3) := by decide +kernel
theorem dX9_init_12 : decode cX9_init 12 = .ok (.aload_n 0, 1) := by decide +kernel
theorem dX9_init_13 : decode cX9_init 13 = .ok (.bipush 24, 2) := by decide +kernel
theorem dX9_init_15 : decode cX9_init 15 = .ok (.newarray .int, 2) := by decide +kernel
theorem dX9_init_17 : decode cX9_init 17 = .ok (.putfield 15, 3) := by decide +kernel
theorem dX9_init_20 : decode cX9_init 20 = .ok (.return_, 1) := by decide +kernel
theorem dX9_add_0 : decode cX9_add 0 = .ok (.aload_n 0, 1) := by decide +kernel
theorem dX9_add_1 : decode cX9_add 1 = .ok (.getfield 18, 3) := by decide +kernel
theorem dX9_add_4 : decode cX9_add 4 = .ok (.bipush 6, 2) := by decide +kernel
theorem dX9_add_6 : decode cX9_add 6 = .ok (.if_icmp .lt 4, 3) := by decide +kernel
theorem dX9_add_9 : decode cX9_add 9 = .ok (.return_, 1) := by decide +kernel
theorem dX9_add_10 : decode cX9_add 10 = .ok (.aload_n 0, 1) := by decide +kernel
theorem dX9_add_11 : decode cX9_add 11 = .ok (.getfield 9, 3) := by decide +kernel
theorem dX9_add_14 : decode cX9_add 14 = .ok (.aload_n 0, 1) := by decide +kernel
theorem dX9_add_15 : decode cX9_add 15 = .ok (.getfield 18, 3) := by decide +kernel
theorem dX9_add_18 : decode cX9_add 18 = .ok (.iload_n 1, 1) := by decide +kernel
theorem dX9_add_19 : decode cX9_add 19 = .ok (.iastore, 1) := by decide +kernel
theorem dX9_add_20 : decode cX9_add 20 = .ok (.aload_n 2, 1) := by decide +kernel
theorem dX9_add_21 : decode cX9_add 21 = .ok (.iconst 0, 1) := by decide +kernel
theorem dX9_add_22 : decode cX9_add 22 = .ok (.aload_n 0, 1) := by decide +kernel
theorem dX9_add_23 : decode cX9_add 23 = .ok (.getfield 15, 3) := by decide +kernel
theorem dX9_add_26 : decode cX9_add 26 = .ok (.aload_n 0, 1) := by decide +kernel
theorem dX9_add_27 : decode cX9_add 27 = .ok (.getfield 18, 3) := by decide +kernel
theorem dX9_add_30 : decode cX9_add 30 = .ok (.iconst 4, 1) := by decide +kernel
theorem dX9_add_31 : decode cX9_add 31 = .ok (.imul, 1) := by decide +kernel
theorem dX9_add_32 : decode cX9_add 32 = .ok (.iconst 4, 1) := by decide +kernel
theorem dX9_add_33 : decode cX9_add 33 = .ok (.invokestatic 22, 3) := by decide +kernel
theorem dX9_add_36 : decode cX9_add 36 = .ok (.aload_n 0, 1) := by decide +kernel
theorem dX9_add_37 : decode cX9_add 37 = .ok (.dup, 1) := by decide +kernel
theorem dX9_add_38 : decode cX9_add 38 = .ok (.getfield 18, 3) := by decide +kernel
theorem dX9_add_41 : decode cX9_add 41 = .ok (.iconst 1, 1) := by decide +kernel
theorem dX9_add_42 : decode cX9_add 42 = .ok (.iadd, 1) := by decide +kernel
theorem dX9_add_43 : decode cX9_add 43 = .ok (.putfield 18, 3) := by decide +kernel
theorem dX9_add_46 : decode cX9_add 46 = .ok (.return_, 1) := by decide +kernel
theorem dX9_setsOf_0 : decode cX9_setsOf 0 = .ok (.aload_n 0, 1) := by decide +kernel
theorem dX9_setsOf_1 : decode cX9_setsOf 1 = .ok (.getfield 28, 3) := by decide +kernel
theorem dX9_setsOf_4 : decode cX9_setsOf 4 = .ok (.ifCond .eq 12, 3) := by decide +kernel
theorem dX9_setsOf_7 : decode cX9_setsOf 7 = .ok (.iconst 1, 1) := by decide +kernel
theorem dX9_setsOf_8 : decode cX9_setsOf 8 = .ok (.aload_n 0, 1) := by decide +kernel
theorem dX9_setsOf_9 : decode cX9_setsOf 9 = .ok (.getfield 34, 3) := by decide +kernel
theorem dX9_setsOf_12 : decode cX9_setsOf 12 = .ok (.ishl, 1) := by decide +kernel
theorem dX9_setsOf_13 : decode cX9_setsOf 13 = .ok (.goto 4, 3) := by decide +kernel
theorem dX9_setsOf_16 : decode cX9_setsOf 16 = .ok (.iconst 0, 1) := by decide +kernel
theorem dX9_setsOf_17 : decode cX9_setsOf 17 = .ok (.ireturn, 1) := by decide +kernel
theorem dX9_fits_0 : decode cX9_fits 0 = .ok (.iconst 0, 1) := by decide +kernel
theorem dX9_fits_1 : decode cX9_fits 1 = .ok (.istore_n 2, 1) := by decide +kernel
theorem dX9_fits_2 : decode cX9_fits 2 = .ok (.iload_n 2, 1) := by decide +kernel
theorem dX9_fits_3 : decode cX9_fits 3 = .ok (.aload_n 0, 1) := by decide +kernel
theorem dX9_fits_4 : decode cX9_fits 4 = .ok (.getfield 18, 3) := by decide +kernel
theorem dX9_fits_7 : decode cX9_fits 7 = .ok (.if_icmp .ge 26, 3) := by decide +kernel
theorem dX9_fits_10 : decode cX9_fits 10 = .ok (.aload_n 0, 1) := by decide +kernel
theorem dX9_fits_11 : decode cX9_fits 11 = .ok (.iload_n 1, 1) := by decide +kernel
theorem dX9_fits_12 : decode cX9_fits 12 = .ok (.iload_n 2, 1) := by decide +kernel
theorem dX9_fits_13 : decode cX9_fits 13 = .ok (.invokevirtual 37, 3) := by decide +kernel
theorem dX9_fits_16 : decode cX9_fits 16 = .ok (.aload_n 0, 1) := by decide +kernel
theorem dX9_fits_17 : decode cX9_fits 17 = .ok (.getfield 9, 3) := by decide +kernel
theorem dX9_fits_20 : decode cX9_fits 20 = .ok (.iload_n 2, 1) := by decide +kernel
theorem dX9_fits_21 : decode cX9_fits 21 = .ok (.iaload, 1) := by decide +kernel
theorem dX9_fits_22 : decode cX9_fits 22 = .ok (.if_icmp .eq 5, 3) := by decide +kernel
theorem dX9_fits_25 : decode cX9_fits 25 = .ok (.iconst 0, 1) := by decide +kernel
theorem dX9_fits_26 : decode cX9_fits 26 = .ok (.ireturn, 1) := by decide +kernel
theorem dX9_fits_27 : decode cX9_fits 27 = .ok (.iinc 2 1, 3) := by decide +kernel
theorem dX9_fits_30 : decode cX9_fits 30 = .ok (.goto (-28), 3) := by decide +kernel
theorem dX9_fits_33 : decode cX9_fits 33 = .ok (.iconst 1, 1) := by decide +kernel
theorem dX9_fits_34 : decode cX9_fits 34 = .ok (.ireturn, 1) := by decide +kernel
theorem dX9_takenBy_0 : decode cX9_takenBy 0 = .ok (.iconst 0, 1) := by decide +kernel
theorem dX9_takenBy_1 : decode cX9_takenBy 1 = .ok (.istore_n 3, 1) := by decide +kernel
theorem dX9_takenBy_2 : decode cX9_takenBy 2 = .ok (.iconst 0, 1) := by decide +kernel
theorem dX9_takenBy_3 : decode cX9_takenBy 3 = .ok (.istore 4, 2) := by decide +kernel
theorem dX9_takenBy_5 : decode cX9_takenBy 5 = .ok (.iload 4, 2) := by decide +kernel
theorem dX9_takenBy_7 : decode cX9_takenBy 7 = .ok (.iconst 4, 1) := by decide +kernel
theorem dX9_takenBy_8 : decode cX9_takenBy 8 = .ok (.if_icmp .ge 32, 3) := by decide +kernel
theorem dX9_takenBy_11 : decode cX9_takenBy 11 = .ok (.iload_n 1, 1) := by decide +kernel
theorem dX9_takenBy_12 : decode cX9_takenBy 12 = .ok (.iload 4, 2) := by decide +kernel
theorem dX9_takenBy_14 : decode cX9_takenBy 14 = .ok (.ishr, 1) := by decide +kernel
theorem dX9_takenBy_15 : decode cX9_takenBy 15 = .ok (.iconst 1, 1) := by decide +kernel
theorem dX9_takenBy_16 : decode cX9_takenBy 16 = .ok (.iand, 1) := by decide +kernel
theorem dX9_takenBy_17 : decode cX9_takenBy 17 = .ok (.ifCond .eq 17, 3) := by decide +kernel
theorem dX9_takenBy_20 : decode cX9_takenBy 20 = .ok (.iload_n 3, 1) := by decide +kernel
theorem dX9_takenBy_21 : decode cX9_takenBy 21 = .ok (.aload_n 0, 1) := by decide +kernel
theorem dX9_takenBy_22 : decode cX9_takenBy 22 = .ok (.getfield 15, 3) := by decide +kernel
theorem dX9_takenBy_25 : decode cX9_takenBy 25 = .ok (.iload_n 2, 1) := by decide +kernel
theorem dX9_takenBy_26 : decode cX9_takenBy 26 = .ok (.iconst 4, 1) := by decide +kernel
theorem dX9_takenBy_27 : decode cX9_takenBy 27 = .ok (.imul, 1) := by decide +kernel
theorem dX9_takenBy_28 : decode cX9_takenBy 28 = .ok (.iload 4, 2) := by decide +kernel
theorem dX9_takenBy_30 : decode cX9_takenBy 30 = .ok (.iadd, 1) := by decide +kernel
theorem dX9_takenBy_31 : decode cX9_takenBy 31 = .ok (.iaload, 1) := by decide +kernel
theorem dX9_takenBy_32 : decode cX9_takenBy 32 = .ok (.iadd, 1) := by decide +kernel
theorem dX9_takenBy_33 : decode cX9_takenBy 33 = .ok (.istore_n 3, 1) := by decide +kernel
theorem dX9_takenBy_34 : decode cX9_takenBy 34 = .ok (.iinc 4 1, 3) := by decide +kernel
theorem dX9_takenBy_37 : decode cX9_takenBy 37 = .ok (.goto (-32), 3) := by decide +kernel
theorem dX9_takenBy_40 : decode cX9_takenBy 40 = .ok (.iload_n 3, 1) := by decide +kernel
theorem dX9_takenBy_41 : decode cX9_takenBy 41 = .ok (.ireturn, 1) := by decide +kernel
theorem dX9_countSets_0 : decode cX9_countSets 0 = .ok (.aload_n 0, 1) := by decide +kernel
theorem dX9_countSets_1 : decode cX9_countSets 1 = .ok (.aload_n 1, 1) := by decide +kernel
theorem dX9_countSets_2 : decode cX9_countSets 2 = .ok (.iconst 0, 1) := by decide +kernel
theorem dX9_countSets_3 : decode cX9_countSets 3 = .ok (.invokevirtual 41, 3) := by decide +kernel
theorem dX9_countSets_6 : decode cX9_countSets 6 = .ok (.ireturn, 1) := by decide +kernel
theorem dX9_countWith_0 : decode cX9_countWith 0 = .ok (.iconst 0, 1) := by decide +kernel
theorem dX9_countWith_1 : decode cX9_countWith 1 = .ok (.istore_n 3, 1) := by decide +kernel
theorem dX9_countWith_2 : decode cX9_countWith 2 = .ok (.iconst 0, 1) := by decide +kernel
theorem dX9_countWith_3 : decode cX9_countWith 3 = .ok (.istore 4, 2) := by decide +kernel
theorem dX9_countWith_5 : decode cX9_countWith 5 = .ok (.iload 4, 2) := by decide +kernel
theorem dX9_countWith_7 : decode cX9_countWith 7 = .ok (.aload_n 1, 1) := by decide +kernel
theorem dX9_countWith_8 : decode cX9_countWith 8 = .ok (.invokestatic 45, 3) := by decide +kernel
theorem dX9_countWith_11 : decode cX9_countWith 11 = .ok (.if_icmp .ge 29, 3) := by decide +kernel
theorem dX9_countWith_14 : decode cX9_countWith 14 = .ok (.iload 4, 2) := by decide +kernel
theorem dX9_countWith_16 : decode cX9_countWith 16 = .ok (.iload_n 2, 1) := by decide +kernel
theorem dX9_countWith_17 : decode cX9_countWith 17 = .ok (.iand, 1) := by decide +kernel
theorem dX9_countWith_18 : decode cX9_countWith 18 = .ok (.iload_n 2, 1) := by decide +kernel
theorem dX9_countWith_19 : decode cX9_countWith 19 = .ok (.if_icmp .ne 15, 3) := by decide +kernel
theorem dX9_countWith_22 : decode cX9_countWith 22 = .ok (.aload_n 0, 1) := by decide +kernel
theorem dX9_countWith_23 : decode cX9_countWith 23 = .ok (.iload 4, 2) := by decide +kernel
theorem dX9_countWith_25 : decode cX9_countWith 25 = .ok (.invokevirtual 49, 3) := by decide +kernel
theorem dX9_countWith_28 : decode cX9_countWith 28 = .ok (.ifCond .eq 6, 3) := by decide +kernel
theorem dX9_countWith_31 : decode cX9_countWith 31 = .ok (.iinc 3 1, 3) := by decide +kernel
theorem dX9_countWith_34 : decode cX9_countWith 34 = .ok (.iinc 4 1, 3) := by decide +kernel
theorem dX9_countWith_37 : decode cX9_countWith 37 = .ok (.goto (-32), 3) := by decide +kernel
theorem dX9_countWith_40 : decode cX9_countWith 40 = .ok (.iload_n 3, 1) := by decide +kernel
theorem dX9_countWith_41 : decode cX9_countWith 41 = .ok (.ireturn, 1) := by decide +kernel
theorem dX9_inEach_0 : decode cX9_inEach 0 = .ok (.iconst (-1), 1) := by decide +kernel
theorem dX9_inEach_1 : decode cX9_inEach 1 = .ok (.istore_n 2, 1) := by decide +kernel
theorem dX9_inEach_2 : decode cX9_inEach 2 = .ok (.iconst 0, 1) := by decide +kernel
theorem dX9_inEach_3 : decode cX9_inEach 3 = .ok (.istore_n 3, 1) := by decide +kernel
theorem dX9_inEach_4 : decode cX9_inEach 4 = .ok (.iload_n 3, 1) := by decide +kernel
theorem dX9_inEach_5 : decode cX9_inEach 5 = .ok (.aload_n 1, 1) := by decide +kernel
theorem dX9_inEach_6 : decode cX9_inEach 6 = .ok (.invokestatic 45, 3) := by decide +kernel
theorem dX9_inEach_9 : decode cX9_inEach 9 = .ok (.if_icmp .ge 21, 3) := by decide +kernel
theorem dX9_inEach_12 : decode cX9_inEach 12 = .ok (.aload_n 0, 1) := by decide +kernel
theorem dX9_inEach_13 : decode cX9_inEach 13 = .ok (.iload_n 3, 1) := by decide +kernel
theorem dX9_inEach_14 : decode cX9_inEach 14 = .ok (.invokevirtual 49, 3) := by decide +kernel
theorem dX9_inEach_17 : decode cX9_inEach 17 = .ok (.ifCond .eq 7, 3) := by decide +kernel
theorem dX9_inEach_20 : decode cX9_inEach 20 = .ok (.iload_n 2, 1) := by decide +kernel
theorem dX9_inEach_21 : decode cX9_inEach 21 = .ok (.iload_n 3, 1) := by decide +kernel
theorem dX9_inEach_22 : decode cX9_inEach 22 = .ok (.iand, 1) := by decide +kernel
theorem dX9_inEach_23 : decode cX9_inEach 23 = .ok (.istore_n 2, 1) := by decide +kernel
theorem dX9_inEach_24 : decode cX9_inEach 24 = .ok (.iinc 3 1, 3) := by decide +kernel
theorem dX9_inEach_27 : decode cX9_inEach 27 = .ok (.goto (-23), 3) := by decide +kernel
theorem dX9_inEach_30 : decode cX9_inEach 30 = .ok (.iload_n 2, 1) := by decide +kernel
theorem dX9_inEach_31 : decode cX9_inEach 31 = .ok (.ireturn, 1) := by decide +kernel
theorem dX9_ask_0 : decode cX9_ask 0 = .ok (.aload_n 0, 1) := by decide +kernel
theorem dX9_ask_1 : decode cX9_ask 1 = .ok (.aload_n 1, 1) := by decide +kernel
theorem dX9_ask_2 : decode cX9_ask 2 = .ok (.invokevirtual 53, 3) := by decide +kernel
theorem dX9_ask_5 : decode cX9_ask 5 = .ok (.istore_n 2, 1) := by decide +kernel
theorem dX9_ask_6 : decode cX9_ask 6 = .ok (.iconst (-1), 1) := by decide +kernel
theorem dX9_ask_7 : decode cX9_ask 7 = .ok (.istore_n 3, 1) := by decide +kernel
theorem dX9_ask_8 : decode cX9_ask 8 = .ok (.iload_n 2, 1) := by decide +kernel
theorem dX9_ask_9 : decode cX9_ask 9 = .ok (.istore 4, 2) := by decide +kernel
theorem dX9_ask_11 : decode cX9_ask 11 = .ok (.iconst 0, 1) := by decide +kernel
theorem dX9_ask_12 : decode cX9_ask 12 = .ok (.istore 5, 2) := by decide +kernel
theorem dX9_ask_14 : decode cX9_ask 14 = .ok (.iload 5, 2) := by decide +kernel
theorem dX9_ask_16 : decode cX9_ask 16 = .ok (.aload_n 1, 1) := by decide +kernel
theorem dX9_ask_17 : decode cX9_ask 17 = .ok (.getfield 34, 3) := by decide +kernel
theorem dX9_ask_20 : decode cX9_ask 20 = .ok (.if_icmp .ge 45, 3) := by decide +kernel
theorem dX9_ask_23 : decode cX9_ask 23 = .ok (.aload_n 0, 1) := by decide +kernel
theorem dX9_ask_24 : decode cX9_ask 24 = .ok (.aload_n 1, 1) := by decide +kernel
theorem dX9_ask_25 : decode cX9_ask 25 = .ok (.iconst 1, 1) := by decide +kernel
theorem dX9_ask_26 : decode cX9_ask 26 = .ok (.iload 5, 2) := by decide +kernel
theorem dX9_ask_28 : decode cX9_ask 28 = .ok (.ishl, 1) := by decide +kernel
theorem dX9_ask_29 : decode cX9_ask 29 = .ok (.invokevirtual 41, 3) := by decide +kernel
theorem dX9_ask_32 : decode cX9_ask 32 = .ok (.istore 6, 2) := by decide +kernel
theorem dX9_ask_34 : decode cX9_ask 34 = .ok (.iload 6, 2) := by decide +kernel
theorem dX9_ask_36 : decode cX9_ask 36 = .ok (.iload_n 2, 1) := by decide +kernel
theorem dX9_ask_37 : decode cX9_ask 37 = .ok (.iload 6, 2) := by decide +kernel
theorem dX9_ask_39 : decode cX9_ask 39 = .ok (.isub, 1) := by decide +kernel
theorem dX9_ask_40 : decode cX9_ask 40 = .ok (.invokestatic 56, 3) := by decide +kernel
theorem dX9_ask_43 : decode cX9_ask 43 = .ok (.istore 7, 2) := by decide +kernel
theorem dX9_ask_45 : decode cX9_ask 45 = .ok (.iload 7, 2) := by decide +kernel
theorem dX9_ask_47 : decode cX9_ask 47 = .ok (.iload 4, 2) := by decide +kernel
theorem dX9_ask_49 : decode cX9_ask 49 = .ok (.if_icmp .ge 10, 3) := by decide +kernel
theorem dX9_ask_52 : decode cX9_ask 52 = .ok (.iload 7, 2) := by decide +kernel
theorem dX9_ask_54 : decode cX9_ask 54 = .ok (.istore 4, 2) := by decide +kernel
theorem dX9_ask_56 : decode cX9_ask 56 = .ok (.iload 5, 2) := by decide +kernel
theorem dX9_ask_58 : decode cX9_ask 58 = .ok (.istore_n 3, 1) := by decide +kernel
theorem dX9_ask_59 : decode cX9_ask 59 = .ok (.iinc 5 1, 3) := by decide +kernel
theorem dX9_ask_62 : decode cX9_ask 62 = .ok (.goto (-48), 3) := by decide +kernel
theorem dX9_ask_65 : decode cX9_ask 65 = .ok (.iload_n 3, 1) := by decide +kernel
theorem dX9_ask_66 : decode cX9_ask 66 = .ok (.ireturn, 1) := by decide +kernel
theorem dX10_init_0 : decode cX10_init 0 = .ok (.aload_n 0, 1) := by decide +kernel
theorem dX10_init_1 : decode cX10_init 1 = .ok (.invokespecial 3, 3) := by decide +kernel
theorem dX10_init_4 : decode cX10_init 4 = .ok (.aload_n 0, 1) := by decide +kernel
theorem dX10_init_5 : decode cX10_init 5 = .ok (.bipush 7, 2) := by decide +kernel
theorem dX10_init_7 : decode cX10_init 7 = .ok (.newarray .int, 2) := by decide +kernel
theorem dX10_init_9 : decode cX10_init 9 = .ok (.putfield 9, 3) := by decide +kernel
theorem dX10_init_12 : decode cX10_init 12 = .ok (.aload_n 0, 1) := by decide +kernel
theorem dX10_init_13 : decode cX10_init 13 = .ok (.bipush 7, 2) := by decide +kernel
theorem dX10_init_15 : decode cX10_init 15 = .ok (.newarray .int, 2) := by decide +kernel
theorem dX10_init_17 : decode cX10_init 17 = .ok (.putfield 15, 3) := by decide +kernel
theorem dX10_init_20 : decode cX10_init 20 = .ok (.aload_n 0, 1) := by decide +kernel
theorem dX10_init_21 : decode cX10_init 21 = .ok (.bipush 7, 2) := by decide +kernel
theorem dX10_init_23 : decode cX10_init 23 = .ok (.newarray .int, 2) := by decide +kernel
theorem dX10_init_25 : decode cX10_init 25 = .ok (.putfield 18, 3) := by decide +kernel
theorem dX10_init_28 : decode cX10_init 28 = .ok (.aload_n 0, 1) := by decide +kernel
theorem dX10_init_29 : decode cX10_init 29 = .ok (.iconst 4, 1) := by decide +kernel
theorem dX10_init_30 : decode cX10_init 30 = .ok (.newarray .int, 2) := by decide +kernel
theorem dX10_init_32 : decode cX10_init 32 = .ok (.putfield 21, 3) := by decide +kernel
theorem dX10_init_35 : decode cX10_init 35 = .ok (.return_, 1) := by decide +kernel
theorem dX10_begin_0 : decode cX10_begin 0 = .ok (.aload_n 0, 1) := by decide +kernel
theorem dX10_begin_1 : decode cX10_begin 1 = .ok (.aload_n 1, 1) := by decide +kernel
theorem dX10_begin_2 : decode cX10_begin 2 = .ok (.getfield 24, 3) := by decide +kernel
theorem dX10_begin_5 : decode cX10_begin 5 = .ok (.putfield 30, 3) := by decide +kernel
theorem dX10_begin_8 : decode cX10_begin 8 = .ok (.aload_n 0, 1) := by decide +kernel
theorem dX10_begin_9 : decode cX10_begin 9 = .ok (.iconst 0, 1) := by decide +kernel
theorem dX10_begin_10 : decode cX10_begin 10 = .ok (.putfield 31, 3) := by decide +kernel
theorem dX10_begin_13 : decode cX10_begin 13 = .ok (.aload_n 0, 1) := by decide +kernel
theorem dX10_begin_14 : decode cX10_begin 14 = .ok (.iconst 0, 1) := by decide +kernel
theorem dX10_begin_15 : decode cX10_begin 15 = .ok (.putfield 34, 3) := by decide +kernel
theorem dX10_begin_18 : decode cX10_begin 18 = .ok (.aload_n 0, 1) := by decide +kernel
theorem dX10_begin_19 : decode cX10_begin 19 = .ok (.iconst 0, 1) := by decide +kernel
theorem dX10_begin_20 : decode cX10_begin 20 = .ok (.putfield 37, 3) := by decide +kernel
theorem dX10_begin_23 : decode cX10_begin 23 = .ok (.aload_n 0, 1) := by decide +kernel
theorem dX10_begin_24 : decode cX10_begin 24 = .ok (.iconst 0, 1) := by decide +kernel
theorem dX10_begin_25 : decode cX10_begin 25 = .ok (.putfield 40, 3) := by decide +kernel
theorem dX10_begin_28 : decode cX10_begin 28 = .ok (.aload_n 0, 1) := by decide +kernel
theorem dX10_begin_29 : decode cX10_begin 29 = .ok (.getfield 9, 3) := by decide +kernel
theorem dX10_begin_32 : decode cX10_begin 32 = .ok (.iconst 0, 1) := by decide +kernel
theorem dX10_begin_33 : decode cX10_begin 33 = .ok (.invokestatic 43, 3) := by decide +kernel
theorem dX10_begin_36 : decode cX10_begin 36 = .ok (.aload_n 0, 1) := by decide +kernel
theorem dX10_begin_37 : decode cX10_begin 37 = .ok (.getfield 15, 3) := by decide +kernel
theorem dX10_begin_40 : decode cX10_begin 40 = .ok (.iconst 0, 1) := by decide +kernel
theorem dX10_begin_41 : decode cX10_begin 41 = .ok (.invokestatic 43, 3) := by decide +kernel
theorem dX10_begin_44 : decode cX10_begin 44 = .ok (.aload_n 1, 1) := by decide +kernel
theorem dX10_begin_45 : decode cX10_begin 45 = .ok (.getfield 49, 3) := by decide +kernel
theorem dX10_begin_48 : decode cX10_begin 48 = .ok (.iconst 0, 1) := by decide +kernel
theorem dX10_begin_49 : decode cX10_begin 49 = .ok (.aload_n 0, 1) := by decide +kernel
theorem dX10_begin_50 : decode cX10_begin 50 = .ok (.getfield 18, 3) := by decide +kernel
theorem dX10_begin_53 : decode cX10_begin 53 = .ok (.iconst 0, 1) := by decide +kernel
theorem dX10_begin_54 : decode cX10_begin 54 = .ok (.bipush 7, 2) := by decide +kernel
theorem dX10_begin_56 : decode cX10_begin 56 = .ok (.invokestatic 50, 3) := by decide +kernel
theorem dX10_begin_59 : decode cX10_begin 59 = .ok (.aload_n 1, 1) := by decide +kernel
theorem dX10_begin_60 : decode cX10_begin 60 = .ok (.getfield 56, 3) := by decide +kernel
theorem dX10_begin_63 : decode cX10_begin 63 = .ok (.iconst 0, 1) := by decide +kernel
theorem dX10_begin_64 : decode cX10_begin 64 = .ok (.aload_n 0, 1) := by decide +kernel
theorem dX10_begin_65 : decode cX10_begin 65 = .ok (.getfield 21, 3) := by decide +kernel
theorem dX10_begin_68 : decode cX10_begin 68 = .ok (.iconst 0, 1) := by decide +kernel
theorem dX10_begin_69 : decode cX10_begin 69 = .ok (.iconst 4, 1) := by decide +kernel
theorem dX10_begin_70 : decode cX10_begin 70 = .ok (.invokestatic 50, 3) := by decide +kernel
theorem dX10_begin_73 : decode cX10_begin 73 = .ok (.return_, 1) := by decide +kernel
theorem dX10_copyFrom_0 : decode cX10_copyFrom 0 = .ok (.aload_n 0, 1) := by decide +kernel
theorem dX10_copyFrom_1 : decode cX10_copyFrom 1 = .ok (.aload_n 1, 1) := by decide +kernel
theorem dX10_copyFrom_2 : decode cX10_copyFrom 2 = .ok (.getfield 30, 3) := by decide +kernel
theorem dX10_copyFrom_5 : decode cX10_copyFrom 5 = .ok (.putfield 30, 3) := by decide +kernel
theorem dX10_copyFrom_8 : decode cX10_copyFrom 8 = .ok (.aload_n 0, 1) := by decide +kernel
theorem dX10_copyFrom_9 : decode cX10_copyFrom 9 = .ok (.aload_n 1, 1) := by decide +kernel
theorem dX10_copyFrom_10 : decode cX10_copyFrom 10 = .ok (.getfield 31, 3) := by decide +kernel
theorem dX10_copyFrom_13 : decode cX10_copyFrom 13 = .ok (.putfield 31, 3) := by decide +kernel
theorem dX10_copyFrom_16 : decode cX10_copyFrom 16 = .ok (.aload_n 0, 1) := by decide +kernel
theorem dX10_copyFrom_17 : decode cX10_copyFrom 17 = .ok (.aload_n 1, 1) := by decide +kernel
theorem dX10_copyFrom_18 : decode cX10_copyFrom 18 = .ok (.getfield 34, 3) := by decide +kernel
theorem dX10_copyFrom_21 : decode cX10_copyFrom 21 = .ok (.putfield 34, 3) := by decide +kernel
theorem dX10_copyFrom_24 : decode cX10_copyFrom 24 = .ok (.aload_n 0, 1) := by decide +kernel
theorem dX10_copyFrom_25 : decode cX10_copyFrom 25 = .ok (.aload_n 1, 1) := by decide +kernel
theorem dX10_copyFrom_26 : decode cX10_copyFrom 26 = .ok (.getfield 37, 3) := by decide +kernel
theorem dX10_copyFrom_29 : decode cX10_copyFrom 29 = .ok (.putfield 37, 3) := by decide +kernel
theorem dX10_copyFrom_32 : decode cX10_copyFrom 32 = .ok (.aload_n 0, 1) := by decide +kernel
theorem dX10_copyFrom_33 : decode cX10_copyFrom 33 = .ok (.aload_n 1, 1) := by decide +kernel
theorem dX10_copyFrom_34 : decode cX10_copyFrom 34 = .ok (.getfield 40, 3) := by decide +kernel
theorem dX10_copyFrom_37 : decode cX10_copyFrom 37 = .ok (.putfield 40, 3) := by decide +kernel
theorem dX10_copyFrom_40 : decode cX10_copyFrom 40 = .ok (.aload_n 1, 1) := by decide +kernel
theorem dX10_copyFrom_41 : decode cX10_copyFrom 41 = .ok (.getfield 9, 3) := by decide +kernel
theorem dX10_copyFrom_44 : decode cX10_copyFrom 44 = .ok (.iconst 0, 1) := by decide +kernel
theorem dX10_copyFrom_45 : decode cX10_copyFrom 45 = .ok (.aload_n 0, 1) := by decide +kernel
theorem dX10_copyFrom_46 : decode cX10_copyFrom 46 = .ok (.getfield 9, 3) := by decide +kernel
theorem dX10_copyFrom_49 : decode cX10_copyFrom 49 = .ok (.iconst 0, 1) := by decide +kernel
theorem dX10_copyFrom_50 : decode cX10_copyFrom 50 = .ok (.bipush 7, 2) := by decide +kernel
theorem dX10_copyFrom_52 : decode cX10_copyFrom 52 = .ok (.invokestatic 50, 3) := by decide +kernel
theorem dX10_copyFrom_55 : decode cX10_copyFrom 55 = .ok (.aload_n 1, 1) := by decide +kernel
theorem dX10_copyFrom_56 : decode cX10_copyFrom 56 = .ok (.getfield 15, 3) := by decide +kernel
theorem dX10_copyFrom_59 : decode cX10_copyFrom 59 = .ok (.iconst 0, 1) := by decide +kernel
theorem dX10_copyFrom_60 : decode cX10_copyFrom 60 = .ok (.aload_n 0, 1) := by decide +kernel
theorem dX10_copyFrom_61 : decode cX10_copyFrom 61 = .ok (.getfield 15, 3) := by decide +kernel
theorem dX10_copyFrom_64 : decode cX10_copyFrom 64 = .ok (.iconst 0, 1) := by decide +kernel
theorem dX10_copyFrom_65 : decode cX10_copyFrom 65 = .ok (.bipush 7, 2) := by decide +kernel
theorem dX10_copyFrom_67 : decode cX10_copyFrom 67 = .ok (.invokestatic 50, 3) := by decide +kernel
theorem dX10_copyFrom_70 : decode cX10_copyFrom 70 = .ok (.aload_n 1, 1) := by decide +kernel
theorem dX10_copyFrom_71 : decode cX10_copyFrom 71 = .ok (.getfield 18, 3) := by decide +kernel
theorem dX10_copyFrom_74 : decode cX10_copyFrom 74 = .ok (.iconst 0, 1) := by decide +kernel
theorem dX10_copyFrom_75 : decode cX10_copyFrom 75 = .ok (.aload_n 0, 1) := by decide +kernel
theorem dX10_copyFrom_76 : decode cX10_copyFrom 76 = .ok (.getfield 18, 3) := by decide +kernel
theorem dX10_copyFrom_79 : decode cX10_copyFrom 79 = .ok (.iconst 0, 1) := by decide +kernel
theorem dX10_copyFrom_80 : decode cX10_copyFrom 80 = .ok (.bipush 7, 2) := by decide +kernel
theorem dX10_copyFrom_82 : decode cX10_copyFrom 82 = .ok (.invokestatic 50, 3) := by decide +kernel
theorem dX10_copyFrom_85 : decode cX10_copyFrom 85 = .ok (.aload_n 1, 1) := by decide +kernel
theorem dX10_copyFrom_86 : decode cX10_copyFrom 86 = .ok (.getfield 21, 3) := by decide +kernel
theorem dX10_copyFrom_89 : decode cX10_copyFrom 89 = .ok (.iconst 0, 1) := by decide +kernel
theorem dX10_copyFrom_90 : decode cX10_copyFrom 90 = .ok (.aload_n 0, 1) := by decide +kernel
theorem dX10_copyFrom_91 : decode cX10_copyFrom 91 = .ok (.getfield 21, 3) := by decide +kernel
theorem dX10_copyFrom_94 : decode cX10_copyFrom 94 = .ok (.iconst 0, 1) := by decide +kernel
theorem dX10_copyFrom_95 : decode cX10_copyFrom 95 = .ok (.iconst 4, 1) := by decide +kernel
theorem dX10_copyFrom_96 : decode cX10_copyFrom 96 = .ok (.invokestatic 50, 3) := by decide +kernel
theorem dX10_copyFrom_99 : decode cX10_copyFrom 99 = .ok (.return_, 1) := by decide +kernel
theorem dX10_hurt_0 : decode cX10_hurt 0 = .ok (.aload_n 0, 1) := by decide +kernel
theorem dX10_hurt_1 : decode cX10_hurt 1 = .ok (.getfield 15, 3) := by decide +kernel
theorem dX10_hurt_4 : decode cX10_hurt 4 = .ok (.iload_n 1, 1) := by decide +kernel
theorem dX10_hurt_5 : decode cX10_hurt 5 = .ok (.sipush 9999, 3) := by decide +kernel
theorem dX10_hurt_8 : decode cX10_hurt 8 = .ok (.aload_n 0, 1) := by decide +kernel
theorem dX10_hurt_9 : decode cX10_hurt 9 = .ok (.getfield 15, 3) := by decide +kernel
theorem dX10_hurt_12 : decode cX10_hurt 12 = .ok (.iload_n 1, 1) := by decide +kernel
theorem dX10_hurt_13 : decode cX10_hurt 13 = .ok (.iaload, 1) := by decide +kernel
theorem dX10_hurt_14 : decode cX10_hurt 14 = .ok (.iload_n 2, 1) := by decide +kernel
theorem dX10_hurt_15 : decode cX10_hurt 15 = .ok (.iadd, 1) := by decide +kernel
theorem dX10_hurt_16 : decode cX10_hurt 16 = .ok (.invokestatic 57, 3) := by decide +kernel
theorem dX10_hurt_19 : decode cX10_hurt 19 = .ok (.iastore, 1) := by decide +kernel
theorem dX10_hurt_20 : decode cX10_hurt 20 = .ok (.return_, 1) := by decide +kernel
theorem dX11_init_0 : decode cX11_init 0 = .ok (.aload_n 0, 1) := by decide +kernel
theorem dX11_init_1 : decode cX11_init 1 = .ok (.invokespecial 1, 3) := by decide +kernel
theorem dX11_init_4 : decode cX11_init 4 = .ok (.aload_n 0, 1) := by decide +kernel
theorem dX11_init_5 : decode cX11_init 5 = .ok (.new 7, 3) := by decide +kernel
theorem dX11_init_8 : decode cX11_init 8 = .ok (.dup, 1) := by decide +kernel
theorem dX11_init_9 : decode cX11_init 9 = .ok (.invokespecial 9, 3) := by decide +kernel
theorem dX11_init_12 : decode cX11_init 12 = .ok (.putfield 10, 3) := by decide +kernel
theorem dX11_init_15 : decode cX11_init 15 = .ok (.aload_n 0, 1) := by decide +kernel
theorem dX11_init_16 : decode cX11_init 16 = .ok (.new 16, 3) := by decide +kernel
theorem dX11_init_19 : decode cX11_init 19 = .ok (.dup, 1) := by decide +kernel
theorem dX11_init_20 : decode cX11_init 20 = .ok (.invokespecial 18, 3) := by decide +kernel
theorem dX11_init_23 : decode cX11_init 23 = .ok (.putfield 19, 3) := by decide +kernel
theorem dX11_init_26 : decode cX11_init 26 = .ok (.aload_n 0, 1) := by decide +kernel
theorem dX11_init_27 : decode cX11_init 27 = .ok (.new 23, 3) := by decide +kernel
theorem dX11_init_30 : decode cX11_init 30 = .ok (.dup, 1) := by decide +kernel
theorem dX11_init_31 : decode cX11_init 31 = .ok (.invokespecial 25, 3) := by decide +kernel
theorem dX11_init_34 : decode cX11_init 34 = .ok (.putfield 26, 3) := by decide +kernel
theorem dX11_init_37 : decode cX11_init 37 = .ok (.aload_n 0, 1) := by decide +kernel
theorem dX11_init_38 : decode cX11_init 38 = .ok (.new 30, 3) := by decide +kernel
theorem dX11_init_41 : decode cX11_init 41 = .ok (.dup, 1) := by decide +kernel
theorem dX11_init_42 : decode cX11_init 42 = .ok (.invokespecial 32, 3) := by decide +kernel
theorem dX11_init_45 : decode cX11_init 45 = .ok (.putfield 33, 3) := by decide +kernel
theorem dX11_init_48 : decode cX11_init 48 = .ok (.aload_n 0, 1) := by decide +kernel
theorem dX11_init_49 : decode cX11_init 49 = .ok (.new 37, 3) := by decide +kernel
theorem dX11_init_52 : decode cX11_init 52 = .ok (.dup, 1) := by decide +kernel
theorem dX11_init_53 : decode cX11_init 53 = .ok (.invokespecial 39, 3) := by decide +kernel
theorem dX11_init_56 : decode cX11_init 56 = .ok (.putfield 40, 3) := by decide +kernel
theorem dX11_init_59 : decode cX11_init 59 = .ok (.aload_n 0, 1) := by decide +kernel
theorem dX11_init_60 : decode cX11_init 60 = .ok (.new 44, 3) := by decide +kernel
theorem dX11_init_63 : decode cX11_init 63 = .ok (.dup, 1) := by decide +kernel
theorem dX11_init_64 : decode cX11_init 64 = .ok (.invokespecial 46, 3) := by decide +kernel
theorem dX11_init_67 : decode cX11_init 67 = .ok (.putfield 47, 3) := by decide +kernel
theorem dX11_init_70 : decode cX11_init 70 = .ok (.aload_n 0, 1) := by decide +kernel
theorem dX11_init_71 : decode cX11_init 71 = .ok (.new 51, 3) := by decide +kernel
theorem dX11_init_74 : decode cX11_init 74 = .ok (.dup, 1) := by decide +kernel
theorem dX11_init_75 : decode cX11_init 75 = .ok (.invokespecial 53, 3) := by decide +kernel
theorem dX11_init_78 : decode cX11_init 78 = .ok (.putfield 54, 3) := by decide +kernel
theorem dX11_init_81 : decode cX11_init 81 = .ok (.aload_n 0, 1) := by decide +kernel
theorem dX11_init_82 : decode cX11_init 82 = .ok (.new 58, 3) := by decide +kernel
theorem dX11_init_85 : decode cX11_init 85 = .ok (.dup, 1) := by decide +kernel
theorem dX11_init_86 : decode cX11_init 86 = .ok (.aload_n 0, 1) := by decide +kernel
theorem dX11_init_87 : decode cX11_init 87 = .ok (.getfield 19, 3) := by decide +kernel
theorem dX11_init_90 : decode cX11_init 90 = .ok (.invokespecial 60, 3) := by decide +kernel
theorem dX11_init_93 : decode cX11_init 93 = .ok (.putfield 63, 3) := by decide +kernel
theorem dX11_init_96 : decode cX11_init 96 = .ok (.aload_n 0, 1) := by decide +kernel
theorem dX11_init_97 : decode cX11_init 97 = .ok (.new 67, 3) := by decide +kernel
theorem dX11_init_100 : decode cX11_init 100 = .ok (.dup, 1) := by decide +kernel
theorem dX11_init_101 : decode cX11_init 101 = .ok (.invokespecial 69, 3) := by decide +kernel
theorem dX11_init_104 : decode cX11_init 104 = .ok (.putfield 70, 3) := by decide +kernel
theorem dX11_init_107 : decode cX11_init 107 = .ok (.return_, 1) := by decide +kernel
theorem dX11_feed_0 : decode cX11_feed 0 = .ok (.iload_n 1, 1) := by decide +kernel
theorem dX11_feed_1 : decode cX11_feed 1 = .ok (.ifCond .lt 10, 3) := by decide +kernel
theorem dX11_feed_4 : decode cX11_feed 4 = .ok (.iload_n 1, 1) := by decide +kernel
theorem dX11_feed_5 : decode cX11_feed 5 = .ok (.sipush 255, 3) := by decide +kernel
theorem dX11_feed_8 : decode cX11_feed 8 = .ok (.if_icmp .le 6, 3) := by decide +kernel
theorem dX11_feed_11 : decode cX11_feed 11 = .ok (.ldc 74, 2) := by decide +kernel
theorem dX11_feed_13 : decode cX11_feed 13 = .ok (.ireturn, 1) := by decide +kernel
theorem dX11_feed_14 : decode cX11_feed 14 = .ok (.aload_n 0, 1) := by decide +kernel
theorem dX11_feed_15 : decode cX11_feed 15 = .ok (.getfield 10, 3) := by decide +kernel
theorem dX11_feed_18 : decode cX11_feed 18 = .ok (.getfield 75, 3) := by decide +kernel
theorem dX11_feed_21 : decode cX11_feed 21 = .ok (.sipush 240, 3) := by decide +kernel
theorem dX11_feed_24 : decode cX11_feed 24 = .ok (.if_icmp .lt 6, 3) := by decide +kernel
theorem dX11_feed_27 : decode cX11_feed 27 = .ok (.ldc 79, 2) := by decide +kernel
theorem dX11_feed_29 : decode cX11_feed 29 = .ok (.ireturn, 1) := by decide +kernel
theorem dX11_feed_30 : decode cX11_feed 30 = .ok (.aload_n 0, 1) := by decide +kernel
theorem dX11_feed_31 : decode cX11_feed 31 = .ok (.getfield 10, 3) := by decide +kernel
theorem dX11_feed_34 : decode cX11_feed 34 = .ok (.iload_n 1, 1) := by decide +kernel
theorem dX11_feed_35 : decode cX11_feed 35 = .ok (.invokevirtual 80, 3) := by decide +kernel
theorem dX11_feed_38 : decode cX11_feed 38 = .ok (.aload_n 0, 1) := by decide +kernel
theorem dX11_feed_39 : decode cX11_feed 39 = .ok (.getfield 10, 3) := by decide +kernel
theorem dX11_feed_42 : decode cX11_feed 42 = .ok (.getfield 75, 3) := by decide +kernel
theorem dX11_feed_45 : decode cX11_feed 45 = .ok (.ireturn, 1) := by decide +kernel
theorem dX11_hills_0 : decode cX11_hills 0 = .ok (.aload_n 0, 1) := by decide +kernel
theorem dX11_hills_1 : decode cX11_hills 1 = .ok (.getfield 10, 3) := by decide +kernel
theorem dX11_hills_4 : decode cX11_hills 4 = .ok (.aload_n 0, 1) := by decide +kernel
theorem dX11_hills_5 : decode cX11_hills 5 = .ok (.getfield 70, 3) := by decide +kernel
theorem dX11_hills_8 : decode cX11_hills 8 = .ok (.invokevirtual 84, 3) := by decide +kernel
theorem dX11_hills_11 : decode cX11_hills 11 = .ok (.aload_n 0, 1) := by decide +kernel
theorem dX11_hills_12 : decode cX11_hills 12 = .ok (.getfield 10, 3) := by decide +kernel
theorem dX11_hills_15 : decode cX11_hills 15 = .ok (.getfield 88, 3) := by decide +kernel
theorem dX11_hills_18 : decode cX11_hills 18 = .ok (.ifCond .eq 14, 3) := by decide +kernel
theorem dX11_hills_21 : decode cX11_hills 21 = .ok (.bipush (-10), 2) := by decide +kernel
theorem dX11_hills_23 : decode cX11_hills 23 = .ok (.aload_n 0, 1) := by decide +kernel
theorem dX11_hills_24 : decode cX11_hills 24 = .ok (.getfield 10, 3) := by decide +kernel
theorem dX11_hills_27 : decode cX11_hills 27 = .ok (.getfield 88, 3) := by decide +kernel
theorem dX11_hills_30 : decode cX11_hills 30 = .ok (.isub, 1) := by decide +kernel
theorem dX11_hills_31 : decode cX11_hills 31 = .ok (.ireturn, 1) := by decide +kernel
theorem dX11_hills_32 : decode cX11_hills 32 = .ok (.aload_n 0, 1) := by decide +kernel
theorem dX11_hills_33 : decode cX11_hills 33 = .ok (.getfield 19, 3) := by decide +kernel
theorem dX11_hills_36 : decode cX11_hills 36 = .ok (.getfield 91, 3) := by decide +kernel
theorem dX11_hills_39 : decode cX11_hills 39 = .ok (.astore_n 1, 1) := by decide +kernel
theorem dX11_hills_40 : decode cX11_hills 40 = .ok (.aload_n 0, 1) := by decide +kernel
theorem dX11_hills_41 : decode cX11_hills 41 = .ok (.getfield 19, 3) := by decide +kernel
theorem dX11_hills_44 : decode cX11_hills 44 = .ok (.aload_n 0, 1) := by decide +kernel
theorem dX11_hills_45 : decode cX11_hills 45 = .ok (.getfield 70, 3) := by decide +kernel
theorem dX11_hills_48 : decode cX11_hills 48 = .ok (.putfield 91, 3) := by decide +kernel
theorem dX11_hills_51 : decode cX11_hills 51 = .ok (.aload_n 0, 1) := by decide +kernel
theorem dX11_hills_52 : decode cX11_hills 52 = .ok (.aload_n 1, 1) := by decide +kernel
theorem dX11_hills_53 : decode cX11_hills 53 = .ok (.putfield 70, 3) := by decide +kernel
theorem dX11_hills_56 : decode cX11_hills 56 = .ok (.aload_n 0, 1) := by decide +kernel
theorem dX11_hills_57 : decode cX11_hills 57 = .ok (.getfield 19, 3) := by decide +kernel
theorem dX11_hills_60 : decode cX11_hills 60 = .ok (.getfield 94, 3) := by decide +kernel
theorem dX11_hills_63 : decode cX11_hills 63 = .ok (.aload_n 0, 1) := by decide +kernel
theorem dX11_hills_64 : decode cX11_hills 64 = .ok (.getfield 19, 3) := by decide +kernel
theorem dX11_hills_67 : decode cX11_hills 67 = .ok (.getfield 91, 3) := by decide +kernel
theorem dX11_hills_70 : decode cX11_hills 70 = .ok (.invokevirtual 98, 3) := by decide +kernel
theorem dX11_hills_73 : decode cX11_hills 73 = .ok (.aload_n 0, 1) := by decide +kernel
theorem dX11_hills_74 : decode cX11_hills 74 = .ok (.getfield 26, 3) := by decide +kernel
theorem dX11_hills_77 : decode cX11_hills 77 = .ok (.invokevirtual 103, 3) := by decide +kernel
theorem dX11_hills_80 : decode cX11_hills 80 = .ok (.aload_n 0, 1) := by decide +kernel
theorem dX11_hills_81 : decode cX11_hills 81 = .ok (.getfield 33, 3) := by decide +kernel
theorem dX11_hills_84 : decode cX11_hills 84 = .ok (.invokevirtual 106, 3) := by decide +kernel
theorem dX11_hills_87 : decode cX11_hills 87 = .ok (.aload_n 0, 1) := by decide +kernel
theorem dX11_hills_88 : decode cX11_hills 88 = .ok (.getfield 47, 3) := by decide +kernel
theorem dX11_hills_91 : decode cX11_hills 91 = .ok (.iconst 0, 1) := by decide +kernel
theorem dX11_hills_92 : decode cX11_hills 92 = .ok (.putfield 107, 3) := by decide +kernel
theorem dX11_hills_95 : decode cX11_hills 95 = .ok (.aload_n 0, 1) := by decide +kernel
theorem dX11_hills_96 : decode cX11_hills 96 = .ok (.getfield 54, 3) := by decide +kernel
theorem dX11_hills_99 : decode cX11_hills 99 = .ok (.iconst 0, 1) := by decide +kernel
theorem dX11_hills_100 : decode cX11_hills 100 = .ok (.putfield 110, 3) := by decide +kernel
theorem dX11_hills_103 : decode cX11_hills 103 = .ok (.aload_n 0, 1) := by decide +kernel
theorem dX11_hills_104 : decode cX11_hills 104 = .ok (.getfield 19, 3) := by decide +kernel
theorem dX11_hills_107 : decode cX11_hills 107 = .ok (.getfield 91, 3) := by decide +kernel
theorem dX11_hills_110 : decode cX11_hills 110 = .ok (.getfield 111, 3) := by decide +kernel
theorem dX11_hills_113 : decode cX11_hills 113 = .ok (.ireturn, 1) := by decide +kernel
theorem dX11_fault_0 : decode cX11_fault 0 = .ok (.aload_n 0, 1) := by decide +kernel
theorem dX11_fault_1 : decode cX11_fault 1 = .ok (.getfield 10, 3) := by decide +kernel
theorem dX11_fault_4 : decode cX11_fault 4 = .ok (.getfield 114, 3) := by decide +kernel
theorem dX11_fault_7 : decode cX11_fault 7 = .ok (.ireturn, 1) := by decide +kernel
theorem dX11_told_0 : decode cX11_told 0 = .ok (.aload_n 0, 1) := by decide +kernel
theorem dX11_told_1 : decode cX11_told 1 = .ok (.getfield 19, 3) := by decide +kernel
theorem dX11_told_4 : decode cX11_told 4 = .ok (.getfield 94, 3) := by decide +kernel
theorem dX11_told_7 : decode cX11_told 7 = .ok (.astore_n 2, 1) := by decide +kernel
theorem dX11_told_8 : decode cX11_told 8 = .ok (.iload_n 1, 1) := by decide +kernel
theorem dX11_told_9 : decode cX11_told 9 = .ok (.tableswitch 269 0 18 #[91, 96, 107, 118, 129, 137, 142, 147, 155, 163, 168, 184, 192, 200, 208, 223, 238, 253, 261], 91) := by decide +kernel
theorem dX11_told_100 : decode cX11_told 100 = .ok (.aload_n 2, 1) := by decide +kernel
theorem dX11_told_101 : decode cX11_told 101 = .ok (.getfield 117, 3) := by decide +kernel
theorem dX11_told_104 : decode cX11_told 104 = .ok (.ireturn, 1) := by decide +kernel
theorem dX11_told_105 : decode cX11_told 105 = .ok (.aload_n 0, 1) := by decide +kernel
theorem dX11_told_106 : decode cX11_told 106 = .ok (.getfield 19, 3) := by decide +kernel
theorem dX11_told_109 : decode cX11_told 109 = .ok (.getfield 91, 3) := by decide +kernel
theorem dX11_told_112 : decode cX11_told 112 = .ok (.getfield 120, 3) := by decide +kernel
theorem dX11_told_115 : decode cX11_told 115 = .ok (.ireturn, 1) := by decide +kernel
theorem dX11_told_116 : decode cX11_told 116 = .ok (.aload_n 0, 1) := by decide +kernel
theorem dX11_told_117 : decode cX11_told 117 = .ok (.getfield 19, 3) := by decide +kernel
theorem dX11_told_120 : decode cX11_told 120 = .ok (.getfield 91, 3) := by decide +kernel
theorem dX11_told_123 : decode cX11_told 123 = .ok (.getfield 123, 3) := by decide +kernel
theorem dX11_told_126 : decode cX11_told 126 = .ok (.ireturn, 1) := by decide +kernel
theorem dX11_told_127 : decode cX11_told 127 = .ok (.aload_n 0, 1) := by decide +kernel
theorem dX11_told_128 : decode cX11_told 128 = .ok (.getfield 19, 3) := by decide +kernel
theorem dX11_told_131 : decode cX11_told 131 = .ok (.getfield 91, 3) := by decide +kernel
theorem dX11_told_134 : decode cX11_told 134 = .ok (.getfield 111, 3) := by decide +kernel
theorem dX11_told_137 : decode cX11_told 137 = .ok (.ireturn, 1) := by decide +kernel
theorem dX11_told_138 : decode cX11_told 138 = .ok (.aload_n 0, 1) := by decide +kernel
theorem dX11_told_139 : decode cX11_told 139 = .ok (.getfield 10, 3) := by decide +kernel
theorem dX11_told_142 : decode cX11_told 142 = .ok (.getfield 75, 3) := by decide +kernel
theorem dX11_told_145 : decode cX11_told 145 = .ok (.ireturn, 1) := by decide +kernel
theorem dX11_told_146 : decode cX11_told 146 = .ok (.aload_n 2, 1) := by decide +kernel
theorem dX11_told_147 : decode cX11_told 147 = .ok (.getfield 126, 3) := by decide +kernel
theorem dX11_told_150 : decode cX11_told 150 = .ok (.ireturn, 1) := by decide +kernel
theorem dX11_told_151 : decode cX11_told 151 = .ok (.aload_n 2, 1) := by decide +kernel
theorem dX11_told_152 : decode cX11_told 152 = .ok (.getfield 129, 3) := by decide +kernel
theorem dX11_told_155 : decode cX11_told 155 = .ok (.ireturn, 1) := by decide +kernel
theorem dX11_told_156 : decode cX11_told 156 = .ok (.aload_n 0, 1) := by decide +kernel
theorem dX11_told_157 : decode cX11_told 157 = .ok (.getfield 19, 3) := by decide +kernel
theorem dX11_told_160 : decode cX11_told 160 = .ok (.invokevirtual 132, 3) := by decide +kernel
theorem dX11_told_163 : decode cX11_told 163 = .ok (.ireturn, 1) := by decide +kernel
theorem dX11_told_164 : decode cX11_told 164 = .ok (.aload_n 0, 1) := by decide +kernel
theorem dX11_told_165 : decode cX11_told 165 = .ok (.getfield 19, 3) := by decide +kernel
theorem dX11_told_168 : decode cX11_told 168 = .ok (.invokevirtual 136, 3) := by decide +kernel
theorem dX11_told_171 : decode cX11_told 171 = .ok (.ireturn, 1) := by decide +kernel
theorem dX11_told_172 : decode cX11_told 172 = .ok (.aload_n 2, 1) := by decide +kernel
theorem dX11_told_173 : decode cX11_told 173 = .ok (.getfield 139, 3) := by decide +kernel
theorem dX11_told_176 : decode cX11_told 176 = .ok (.ireturn, 1) := by decide +kernel
theorem dX11_told_177 : decode cX11_told 177 = .ok (.aload_n 0, 1) := by decide +kernel
theorem dX11_told_178 : decode cX11_told 178 = .ok (.getfield 19, 3) := by decide +kernel
theorem dX11_told_181 : decode cX11_told 181 = .ok (.invokevirtual 142, 3) := by decide +kernel
theorem dX11_told_184 : decode cX11_told 184 = .ok (.ifCond .eq 7, 3) := by decide +kernel
theorem dX11_told_187 : decode cX11_told 187 = .ok (.iconst 1, 1) := by decide +kernel
theorem dX11_told_188 : decode cX11_told 188 = .ok (.goto 4, 3) := by decide +kernel
theorem dX11_told_191 : decode cX11_told 191 = .ok (.iconst 0, 1) := by decide +kernel
theorem dX11_told_192 : decode cX11_told 192 = .ok (.ireturn, 1) := by decide +kernel
theorem dX11_told_193 : decode cX11_told 193 = .ok (.aload_n 0, 1) := by decide +kernel
theorem dX11_told_194 : decode cX11_told 194 = .ok (.getfield 19, 3) := by decide +kernel
theorem dX11_told_197 : decode cX11_told 197 = .ok (.invokevirtual 146, 3) := by decide +kernel
theorem dX11_told_200 : decode cX11_told 200 = .ok (.ireturn, 1) := by decide +kernel
theorem dX11_told_201 : decode cX11_told 201 = .ok (.aload_n 0, 1) := by decide +kernel
theorem dX11_told_202 : decode cX11_told 202 = .ok (.getfield 19, 3) := by decide +kernel
theorem dX11_told_205 : decode cX11_told 205 = .ok (.invokevirtual 149, 3) := by decide +kernel
theorem dX11_told_208 : decode cX11_told 208 = .ok (.ireturn, 1) := by decide +kernel
theorem dX11_told_209 : decode cX11_told 209 = .ok (.aload_n 0, 1) := by decide +kernel
theorem dX11_told_210 : decode cX11_told 210 = .ok (.getfield 47, 3) := by decide +kernel
theorem dX11_told_213 : decode cX11_told 213 = .ok (.getfield 107, 3) := by decide +kernel
theorem dX11_told_216 : decode cX11_told 216 = .ok (.ireturn, 1) := by decide +kernel
theorem dX11_told_217 : decode cX11_told 217 = .ok (.aload_n 0, 1) := by decide +kernel
theorem dX11_told_218 : decode cX11_told 218 = .ok (.getfield 47, 3) := by decide +kernel
theorem dX11_told_221 : decode cX11_told 221 = .ok (.aload_n 0, 1) := by decide +kernel
theorem dX11_told_222 : decode cX11_told 222 = .ok (.getfield 19, 3) := by decide +kernel
theorem dX11_told_225 : decode cX11_told 225 = .ok (.getfield 91, 3) := by decide +kernel
theorem dX11_told_228 : decode cX11_told 228 = .ok (.invokevirtual 152, 3) := by decide +kernel
theorem dX11_told_231 : decode cX11_told 231 = .ok (.ireturn, 1) := by decide +kernel
theorem dX11_told_232 : decode cX11_told 232 = .ok (.aload_n 0, 1) := by decide +kernel
theorem dX11_told_233 : decode cX11_told 233 = .ok (.getfield 47, 3) := by decide +kernel
theorem dX11_told_236 : decode cX11_told 236 = .ok (.aload_n 0, 1) := by decide +kernel
theorem dX11_told_237 : decode cX11_told 237 = .ok (.getfield 19, 3) := by decide +kernel
theorem dX11_told_240 : decode cX11_told 240 = .ok (.getfield 91, 3) := by decide +kernel
theorem dX11_told_243 : decode cX11_told 243 = .ok (.invokevirtual 156, 3) := by decide +kernel
theorem dX11_told_246 : decode cX11_told 246 = .ok (.ireturn, 1) := by decide +kernel
theorem dX11_told_247 : decode cX11_told 247 = .ok (.aload_n 0, 1) := by decide +kernel
theorem dX11_told_248 : decode cX11_told 248 = .ok (.getfield 47, 3) := by decide +kernel
theorem dX11_told_251 : decode cX11_told 251 = .ok (.aload_n 0, 1) := by decide +kernel
theorem dX11_told_252 : decode cX11_told 252 = .ok (.getfield 19, 3) := by decide +kernel
theorem dX11_told_255 : decode cX11_told 255 = .ok (.getfield 91, 3) := by decide +kernel
theorem dX11_told_258 : decode cX11_told 258 = .ok (.invokevirtual 159, 3) := by decide +kernel
theorem dX11_told_261 : decode cX11_told 261 = .ok (.ireturn, 1) := by decide +kernel
theorem dX11_told_262 : decode cX11_told 262 = .ok (.aload_n 0, 1) := by decide +kernel
theorem dX11_told_263 : decode cX11_told 263 = .ok (.getfield 54, 3) := by decide +kernel
theorem dX11_told_266 : decode cX11_told 266 = .ok (.getfield 110, 3) := by decide +kernel
theorem dX11_told_269 : decode cX11_told 269 = .ok (.ireturn, 1) := by decide +kernel
theorem dX11_told_270 : decode cX11_told 270 = .ok (.aload_n 0, 1) := by decide +kernel
theorem dX11_told_271 : decode cX11_told 271 = .ok (.getfield 26, 3) := by decide +kernel
theorem dX11_told_274 : decode cX11_told 274 = .ok (.getfield 162, 3) := by decide +kernel
theorem dX11_told_277 : decode cX11_told 277 = .ok (.ireturn, 1) := by decide +kernel
theorem dX11_told_278 : decode cX11_told 278 = .ok (.ldc 74, 2) := by decide +kernel
theorem dX11_told_280 : decode cX11_told 280 = .ok (.ireturn, 1) := by decide +kernel
theorem dX11_person_0 : decode cX11_person 0 = .ok (.aload_n 0, 1) := by decide +kernel
theorem dX11_person_1 : decode cX11_person 1 = .ok (.getfield 19, 3) := by decide +kernel
theorem dX11_person_4 : decode cX11_person 4 = .ok (.iload_n 1, 1) := by decide +kernel
theorem dX11_person_5 : decode cX11_person 5 = .ok (.invokevirtual 163, 3) := by decide +kernel
theorem dX11_person_8 : decode cX11_person 8 = .ok (.ifCond .ne 6, 3) := by decide +kernel
theorem dX11_person_11 : decode cX11_person 11 = .ok (.ldc 167, 2) := by decide +kernel
theorem dX11_person_13 : decode cX11_person 13 = .ok (.ireturn, 1) := by decide +kernel
theorem dX11_person_14 : decode cX11_person 14 = .ok (.iload_n 2, 1) := by decide +kernel
theorem dX11_person_15 : decode cX11_person 15 = .ok (.tableswitch 160 0 8 #[49, 62, 75, 88, 101, 114, 127, 136, 148], 49) := by decide +kernel
theorem dX11_person_64 : decode cX11_person 64 = .ok (.aload_n 0, 1) := by decide +kernel
theorem dX11_person_65 : decode cX11_person 65 = .ok (.getfield 19, 3) := by decide +kernel
theorem dX11_person_68 : decode cX11_person 68 = .ok (.getfield 91, 3) := by decide +kernel
theorem dX11_person_71 : decode cX11_person 71 = .ok (.getfield 168, 3) := by decide +kernel
theorem dX11_person_74 : decode cX11_person 74 = .ok (.iload_n 1, 1) := by decide +kernel
theorem dX11_person_75 : decode cX11_person 75 = .ok (.iaload, 1) := by decide +kernel
theorem dX11_person_76 : decode cX11_person 76 = .ok (.ireturn, 1) := by decide +kernel
theorem dX11_person_77 : decode cX11_person 77 = .ok (.aload_n 0, 1) := by decide +kernel
theorem dX11_person_78 : decode cX11_person 78 = .ok (.getfield 19, 3) := by decide +kernel
theorem dX11_person_81 : decode cX11_person 81 = .ok (.getfield 91, 3) := by decide +kernel
theorem dX11_person_84 : decode cX11_person 84 = .ok (.getfield 172, 3) := by decide +kernel
theorem dX11_person_87 : decode cX11_person 87 = .ok (.iload_n 1, 1) := by decide +kernel
theorem dX11_person_88 : decode cX11_person 88 = .ok (.iaload, 1) := by decide +kernel
theorem dX11_person_89 : decode cX11_person 89 = .ok (.ireturn, 1) := by decide +kernel
theorem dX11_person_90 : decode cX11_person 90 = .ok (.aload_n 0, 1) := by decide +kernel
theorem dX11_person_91 : decode cX11_person 91 = .ok (.getfield 19, 3) := by decide +kernel
theorem dX11_person_94 : decode cX11_person 94 = .ok (.getfield 94, 3) := by decide +kernel
theorem dX11_person_97 : decode cX11_person 97 = .ok (.getfield 175, 3) := by decide +kernel
theorem dX11_person_100 : decode cX11_person 100 = .ok (.iload_n 1, 1) := by decide +kernel
theorem dX11_person_101 : decode cX11_person 101 = .ok (.iaload, 1) := by decide +kernel
theorem dX11_person_102 : decode cX11_person 102 = .ok (.ireturn, 1) := by decide +kernel
theorem dX11_person_103 : decode cX11_person 103 = .ok (.aload_n 0, 1) := by decide +kernel
theorem dX11_person_104 : decode cX11_person 104 = .ok (.getfield 19, 3) := by decide +kernel
theorem dX11_person_107 : decode cX11_person 107 = .ok (.getfield 91, 3) := by decide +kernel
theorem dX11_person_110 : decode cX11_person 110 = .ok (.getfield 178, 3) := by decide +kernel
theorem dX11_person_113 : decode cX11_person 113 = .ok (.iload_n 1, 1) := by decide +kernel
theorem dX11_person_114 : decode cX11_person 114 = .ok (.iaload, 1) := by decide +kernel
theorem dX11_person_115 : decode cX11_person 115 = .ok (.ireturn, 1) := by decide +kernel
theorem dX11_person_116 : decode cX11_person 116 = .ok (.aload_n 0, 1) := by decide +kernel
theorem dX11_person_117 : decode cX11_person 117 = .ok (.getfield 19, 3) := by decide +kernel
theorem dX11_person_120 : decode cX11_person 120 = .ok (.getfield 94, 3) := by decide +kernel
theorem dX11_person_123 : decode cX11_person 123 = .ok (.getfield 181, 3) := by decide +kernel
theorem dX11_person_126 : decode cX11_person 126 = .ok (.iload_n 1, 1) := by decide +kernel
theorem dX11_person_127 : decode cX11_person 127 = .ok (.iaload, 1) := by decide +kernel
theorem dX11_person_128 : decode cX11_person 128 = .ok (.ireturn, 1) := by decide +kernel
theorem dX11_person_129 : decode cX11_person 129 = .ok (.aload_n 0, 1) := by decide +kernel
theorem dX11_person_130 : decode cX11_person 130 = .ok (.getfield 19, 3) := by decide +kernel
theorem dX11_person_133 : decode cX11_person 133 = .ok (.getfield 94, 3) := by decide +kernel
theorem dX11_person_136 : decode cX11_person 136 = .ok (.getfield 184, 3) := by decide +kernel
theorem dX11_person_139 : decode cX11_person 139 = .ok (.iload_n 1, 1) := by decide +kernel
theorem dX11_person_140 : decode cX11_person 140 = .ok (.iaload, 1) := by decide +kernel
theorem dX11_person_141 : decode cX11_person 141 = .ok (.ireturn, 1) := by decide +kernel
theorem dX11_person_142 : decode cX11_person 142 = .ok (.aload_n 0, 1) := by decide +kernel
theorem dX11_person_143 : decode cX11_person 143 = .ok (.getfield 19, 3) := by decide +kernel
theorem dX11_person_146 : decode cX11_person 146 = .ok (.iload_n 1, 1) := by decide +kernel
theorem dX11_person_147 : decode cX11_person 147 = .ok (.invokevirtual 187, 3) := by decide +kernel
theorem dX11_person_150 : decode cX11_person 150 = .ok (.ireturn, 1) := by decide +kernel
theorem dX11_person_151 : decode cX11_person 151 = .ok (.aload_n 0, 1) := by decide +kernel
theorem dX11_person_152 : decode cX11_person 152 = .ok (.getfield 19, 3) := by decide +kernel
theorem dX11_person_155 : decode cX11_person 155 = .ok (.getfield 91, 3) := by decide +kernel
theorem dX11_person_158 : decode cX11_person 158 = .ok (.iload_n 1, 1) := by decide +kernel
theorem dX11_person_159 : decode cX11_person 159 = .ok (.invokevirtual 191, 3) := by decide +kernel
theorem dX11_person_162 : decode cX11_person 162 = .ok (.ireturn, 1) := by decide +kernel
theorem dX11_person_163 : decode cX11_person 163 = .ok (.aload_n 0, 1) := by decide +kernel
theorem dX11_person_164 : decode cX11_person 164 = .ok (.getfield 19, 3) := by decide +kernel
theorem dX11_person_167 : decode cX11_person 167 = .ok (.getfield 91, 3) := by decide +kernel
theorem dX11_person_170 : decode cX11_person 170 = .ok (.iload_n 1, 1) := by decide +kernel
theorem dX11_person_171 : decode cX11_person 171 = .ok (.invokevirtual 194, 3) := by decide +kernel
theorem dX11_person_174 : decode cX11_person 174 = .ok (.ireturn, 1) := by decide +kernel
theorem dX11_person_175 : decode cX11_person 175 = .ok (.ldc 74, 2) := by decide +kernel
theorem dX11_person_177 : decode cX11_person 177 = .ok (.ireturn, 1) := by decide +kernel
theorem dX11_village_0 : decode cX11_village 0 = .ok (.aload_n 0, 1) := by decide +kernel
theorem dX11_village_1 : decode cX11_village 1 = .ok (.getfield 19, 3) := by decide +kernel
theorem dX11_village_4 : decode cX11_village 4 = .ok (.iload_n 1, 1) := by decide +kernel
theorem dX11_village_5 : decode cX11_village 5 = .ok (.invokevirtual 197, 3) := by decide +kernel
theorem dX11_village_8 : decode cX11_village 8 = .ok (.ifCond .ne 6, 3) := by decide +kernel
theorem dX11_village_11 : decode cX11_village 11 = .ok (.ldc 167, 2) := by decide +kernel
theorem dX11_village_13 : decode cX11_village 13 = .ok (.ireturn, 1) := by decide +kernel
theorem dX11_village_14 : decode cX11_village 14 = .ok (.iload_n 2, 1) := by decide +kernel
theorem dX11_village_15 : decode cX11_village 15 = .ok (.tableswitch 73 0 3 #[29, 42, 55, 64], 29) := by decide +kernel
theorem dX11_village_44 : decode cX11_village 44 = .ok (.aload_n 0, 1) := by decide +kernel
theorem dX11_village_45 : decode cX11_village 45 = .ok (.getfield 19, 3) := by decide +kernel
theorem dX11_village_48 : decode cX11_village 48 = .ok (.getfield 94, 3) := by decide +kernel
theorem dX11_village_51 : decode cX11_village 51 = .ok (.getfield 200, 3) := by decide +kernel
theorem dX11_village_54 : decode cX11_village 54 = .ok (.iload_n 1, 1) := by decide +kernel
theorem dX11_village_55 : decode cX11_village 55 = .ok (.iaload, 1) := by decide +kernel
theorem dX11_village_56 : decode cX11_village 56 = .ok (.ireturn, 1) := by decide +kernel
theorem dX11_village_57 : decode cX11_village 57 = .ok (.aload_n 0, 1) := by decide +kernel
theorem dX11_village_58 : decode cX11_village 58 = .ok (.getfield 19, 3) := by decide +kernel
theorem dX11_village_61 : decode cX11_village 61 = .ok (.getfield 91, 3) := by decide +kernel
theorem dX11_village_64 : decode cX11_village 64 = .ok (.getfield 203, 3) := by decide +kernel
theorem dX11_village_67 : decode cX11_village 67 = .ok (.iload_n 1, 1) := by decide +kernel
theorem dX11_village_68 : decode cX11_village 68 = .ok (.iaload, 1) := by decide +kernel
theorem dX11_village_69 : decode cX11_village 69 = .ok (.ireturn, 1) := by decide +kernel
theorem dX11_village_70 : decode cX11_village 70 = .ok (.aload_n 0, 1) := by decide +kernel
theorem dX11_village_71 : decode cX11_village 71 = .ok (.getfield 19, 3) := by decide +kernel
theorem dX11_village_74 : decode cX11_village 74 = .ok (.iload_n 1, 1) := by decide +kernel
theorem dX11_village_75 : decode cX11_village 75 = .ok (.invokevirtual 206, 3) := by decide +kernel
theorem dX11_village_78 : decode cX11_village 78 = .ok (.ireturn, 1) := by decide +kernel
theorem dX11_village_79 : decode cX11_village 79 = .ok (.aload_n 0, 1) := by decide +kernel
theorem dX11_village_80 : decode cX11_village 80 = .ok (.getfield 19, 3) := by decide +kernel
theorem dX11_village_83 : decode cX11_village 83 = .ok (.iload_n 1, 1) := by decide +kernel
theorem dX11_village_84 : decode cX11_village 84 = .ok (.invokevirtual 209, 3) := by decide +kernel
theorem dX11_village_87 : decode cX11_village 87 = .ok (.ireturn, 1) := by decide +kernel
theorem dX11_village_88 : decode cX11_village 88 = .ok (.ldc 74, 2) := by decide +kernel
theorem dX11_village_90 : decode cX11_village 90 = .ok (.ireturn, 1) := by decide +kernel
theorem dX11_tell_0 : decode cX11_tell 0 = .ok (.aload_n 0, 1) := by decide +kernel
theorem dX11_tell_1 : decode cX11_tell 1 = .ok (.getfield 19, 3) := by decide +kernel
theorem dX11_tell_4 : decode cX11_tell 4 = .ok (.iload_n 1, 1) := by decide +kernel
theorem dX11_tell_5 : decode cX11_tell 5 = .ok (.invokevirtual 163, 3) := by decide +kernel
theorem dX11_tell_8 : decode cX11_tell 8 = .ok (.ifCond .ne 6, 3) := by decide +kernel
theorem dX11_tell_11 : decode cX11_tell 11 = .ok (.ldc 167, 2) := by decide +kernel
theorem dX11_tell_13 : decode cX11_tell 13 = .ok (.ireturn, 1) := by decide +kernel
theorem dX11_tell_14 : decode cX11_tell 14 = .ok (.iload_n 2, 1) := by decide +kernel
theorem dX11_tell_15 : decode cX11_tell 15 = .ok (.ifCond .lt 9, 3) := by decide +kernel
theorem dX11_tell_18 : decode cX11_tell 18 = .ok (.iload_n 2, 1) := by decide +kernel
theorem dX11_tell_19 : decode cX11_tell 19 = .ok (.bipush 99, 2) := by decide +kernel
theorem dX11_tell_21 : decode cX11_tell 21 = .ok (.if_icmp .le 6, 3) := by decide +kernel
theorem dX11_tell_24 : decode cX11_tell 24 = .ok (.ldc 74, 2) := by decide +kernel
theorem dX11_tell_26 : decode cX11_tell 26 = .ok (.ireturn, 1) := by decide +kernel
theorem dX11_tell_27 : decode cX11_tell 27 = .ok (.aload_n 0, 1) := by decide +kernel
theorem dX11_tell_28 : decode cX11_tell 28 = .ok (.getfield 26, 3) := by decide +kernel
theorem dX11_tell_31 : decode cX11_tell 31 = .ok (.aload_n 0, 1) := by decide +kernel
theorem dX11_tell_32 : decode cX11_tell 32 = .ok (.getfield 19, 3) := by decide +kernel
theorem dX11_tell_35 : decode cX11_tell 35 = .ok (.getfield 94, 3) := by decide +kernel
theorem dX11_tell_38 : decode cX11_tell 38 = .ok (.invokevirtual 212, 3) := by decide +kernel
theorem dX11_tell_41 : decode cX11_tell 41 = .ok (.aload_n 0, 1) := by decide +kernel
theorem dX11_tell_42 : decode cX11_tell 42 = .ok (.getfield 19, 3) := by decide +kernel
theorem dX11_tell_45 : decode cX11_tell 45 = .ok (.getfield 94, 3) := by decide +kernel
theorem dX11_tell_48 : decode cX11_tell 48 = .ok (.getfield 181, 3) := by decide +kernel
theorem dX11_tell_51 : decode cX11_tell 51 = .ok (.iload_n 1, 1) := by decide +kernel
theorem dX11_tell_52 : decode cX11_tell 52 = .ok (.iaload, 1) := by decide +kernel
theorem dX11_tell_53 : decode cX11_tell 53 = .ok (.istore_n 3, 1) := by decide +kernel
theorem dX11_tell_54 : decode cX11_tell 54 = .ok (.aload_n 0, 1) := by decide +kernel
theorem dX11_tell_55 : decode cX11_tell 55 = .ok (.getfield 19, 3) := by decide +kernel
theorem dX11_tell_58 : decode cX11_tell 58 = .ok (.iload_n 1, 1) := by decide +kernel
theorem dX11_tell_59 : decode cX11_tell 59 = .ok (.iload_n 2, 1) := by decide +kernel
theorem dX11_tell_60 : decode cX11_tell 60 = .ok (.invokevirtual 216, 3) := by decide +kernel
theorem dX11_tell_63 : decode cX11_tell 63 = .ok (.iload_n 3, 1) := by decide +kernel
theorem dX11_tell_64 : decode cX11_tell 64 = .ok (.ireturn, 1) := by decide +kernel
theorem dX11_answer_0 : decode cX11_answer 0 = .ok (.aload_n 0, 1) := by decide +kernel
theorem dX11_answer_1 : decode cX11_answer 1 = .ok (.getfield 19, 3) := by decide +kernel
theorem dX11_answer_4 : decode cX11_answer 4 = .ok (.iload_n 1, 1) := by decide +kernel
theorem dX11_answer_5 : decode cX11_answer 5 = .ok (.invokevirtual 163, 3) := by decide +kernel
theorem dX11_answer_8 : decode cX11_answer 8 = .ok (.ifCond .eq 14, 3) := by decide +kernel
theorem dX11_answer_11 : decode cX11_answer 11 = .ok (.aload_n 0, 1) := by decide +kernel
theorem dX11_answer_12 : decode cX11_answer 12 = .ok (.getfield 19, 3) := by decide +kernel
theorem dX11_answer_15 : decode cX11_answer 15 = .ok (.iload_n 2, 1) := by decide +kernel
theorem dX11_answer_16 : decode cX11_answer 16 = .ok (.invokevirtual 163, 3) := by decide +kernel
theorem dX11_answer_19 : decode cX11_answer 19 = .ok (.ifCond .ne 6, 3) := by decide +kernel
theorem dX11_answer_22 : decode cX11_answer 22 = .ok (.ldc 167, 2) := by decide +kernel
theorem dX11_answer_24 : decode cX11_answer 24 = .ok (.ireturn, 1) := by decide +kernel
theorem dX11_answer_25 : decode cX11_answer 25 = .ok (.aload_n 0, 1) := by decide +kernel
theorem dX11_answer_26 : decode cX11_answer 26 = .ok (.getfield 19, 3) := by decide +kernel
theorem dX11_answer_29 : decode cX11_answer 29 = .ok (.iload_n 1, 1) := by decide +kernel
theorem dX11_answer_30 : decode cX11_answer 30 = .ok (.iload_n 2, 1) := by decide +kernel
theorem dX11_answer_31 : decode cX11_answer 31 = .ok (.invokevirtual 220, 3) := by decide +kernel
theorem dX11_answer_34 : decode cX11_answer 34 = .ok (.ifCond .ne 6, 3) := by decide +kernel
theorem dX11_answer_37 : decode cX11_answer 37 = .ok (.ldc 224, 2) := by decide +kernel
theorem dX11_answer_39 : decode cX11_answer 39 = .ok (.ireturn, 1) := by decide +kernel
theorem dX11_answer_40 : decode cX11_answer 40 = .ok (.aload_n 0, 1) := by decide +kernel
theorem dX11_answer_41 : decode cX11_answer 41 = .ok (.getfield 26, 3) := by decide +kernel
theorem dX11_answer_44 : decode cX11_answer 44 = .ok (.aload_n 0, 1) := by decide +kernel
theorem dX11_answer_45 : decode cX11_answer 45 = .ok (.getfield 19, 3) := by decide +kernel
theorem dX11_answer_48 : decode cX11_answer 48 = .ok (.getfield 94, 3) := by decide +kernel
theorem dX11_answer_51 : decode cX11_answer 51 = .ok (.invokevirtual 212, 3) := by decide +kernel
theorem dX11_answer_54 : decode cX11_answer 54 = .ok (.aload_n 0, 1) := by decide +kernel
theorem dX11_answer_55 : decode cX11_answer 55 = .ok (.getfield 19, 3) := by decide +kernel
theorem dX11_answer_58 : decode cX11_answer 58 = .ok (.iload_n 1, 1) := by decide +kernel
theorem dX11_answer_59 : decode cX11_answer 59 = .ok (.iload_n 2, 1) := by decide +kernel
theorem dX11_answer_60 : decode cX11_answer 60 = .ok (.invokevirtual 225, 3) := by decide +kernel
theorem dX11_answer_63 : decode cX11_answer 63 = .ok (.aload_n 0, 1) := by decide +kernel
theorem dX11_answer_64 : decode cX11_answer 64 = .ok (.getfield 19, 3) := by decide +kernel
theorem dX11_answer_67 : decode cX11_answer 67 = .ok (.getfield 94, 3) := by decide +kernel
theorem dX11_answer_70 : decode cX11_answer 70 = .ok (.getfield 181, 3) := by decide +kernel
theorem dX11_answer_73 : decode cX11_answer 73 = .ok (.iload_n 1, 1) := by decide +kernel
theorem dX11_answer_74 : decode cX11_answer 74 = .ok (.iaload, 1) := by decide +kernel
theorem dX11_answer_75 : decode cX11_answer 75 = .ok (.ireturn, 1) := by decide +kernel
theorem dX11_year_0 : decode cX11_year 0 = .ok (.aload_n 0, 1) := by decide +kernel
theorem dX11_year_1 : decode cX11_year 1 = .ok (.iload_n 1, 1) := by decide +kernel
theorem dX11_year_2 : decode cX11_year 2 = .ok (.invokevirtual 228, 3) := by decide +kernel
theorem dX11_year_5 : decode cX11_year 5 = .ok (.istore_n 2, 1) := by decide +kernel
theorem dX11_year_6 : decode cX11_year 6 = .ok (.iload_n 2, 1) := by decide +kernel
theorem dX11_year_7 : decode cX11_year 7 = .ok (.ifCond .eq 5, 3) := by decide +kernel
theorem dX11_year_10 : decode cX11_year 10 = .ok (.iload_n 2, 1) := by decide +kernel
theorem dX11_year_11 : decode cX11_year 11 = .ok (.ireturn, 1) := by decide +kernel
theorem dX11_year_12 : decode cX11_year 12 = .ok (.aload_n 0, 1) := by decide +kernel
theorem dX11_year_13 : decode cX11_year 13 = .ok (.getfield 26, 3) := by decide +kernel
theorem dX11_year_16 : decode cX11_year 16 = .ok (.aload_n 0, 1) := by decide +kernel
theorem dX11_year_17 : decode cX11_year 17 = .ok (.getfield 19, 3) := by decide +kernel
theorem dX11_year_20 : decode cX11_year 20 = .ok (.getfield 94, 3) := by decide +kernel
theorem dX11_year_23 : decode cX11_year 23 = .ok (.invokevirtual 212, 3) := by decide +kernel
theorem dX11_year_26 : decode cX11_year 26 = .ok (.iconst 0, 1) := by decide +kernel
theorem dX11_year_27 : decode cX11_year 27 = .ok (.istore_n 3, 1) := by decide +kernel
theorem dX11_year_28 : decode cX11_year 28 = .ok (.iload_n 3, 1) := by decide +kernel
theorem dX11_year_29 : decode cX11_year 29 = .ok (.iload_n 1, 1) := by decide +kernel
theorem dX11_year_30 : decode cX11_year 30 = .ok (.if_icmp .ge 16, 3) := by decide +kernel
theorem dX11_year_33 : decode cX11_year 33 = .ok (.aload_n 0, 1) := by decide +kernel
theorem dX11_year_34 : decode cX11_year 34 = .ok (.getfield 19, 3) := by decide +kernel
theorem dX11_year_37 : decode cX11_year 37 = .ok (.invokevirtual 231, 3) := by decide +kernel
theorem dX11_year_40 : decode cX11_year 40 = .ok (.iinc 3 1, 3) := by decide +kernel
theorem dX11_year_43 : decode cX11_year 43 = .ok (.goto (-15), 3) := by decide +kernel
theorem dX11_year_46 : decode cX11_year 46 = .ok (.aload_n 0, 1) := by decide +kernel
theorem dX11_year_47 : decode cX11_year 47 = .ok (.getfield 19, 3) := by decide +kernel
theorem dX11_year_50 : decode cX11_year 50 = .ok (.getfield 94, 3) := by decide +kernel
theorem dX11_year_53 : decode cX11_year 53 = .ok (.getfield 129, 3) := by decide +kernel
theorem dX11_year_56 : decode cX11_year 56 = .ok (.ireturn, 1) := by decide +kernel
theorem dX11_wit_0 : decode cX11_wit 0 = .ok (.aload_n 0, 1) := by decide +kernel
theorem dX11_wit_1 : decode cX11_wit 1 = .ok (.getfield 19, 3) := by decide +kernel
theorem dX11_wit_4 : decode cX11_wit 4 = .ok (.iload_n 1, 1) := by decide +kernel
theorem dX11_wit_5 : decode cX11_wit 5 = .ok (.invokevirtual 163, 3) := by decide +kernel
theorem dX11_wit_8 : decode cX11_wit 8 = .ok (.ifCond .ne 6, 3) := by decide +kernel
theorem dX11_wit_11 : decode cX11_wit 11 = .ok (.ldc 167, 2) := by decide +kernel
theorem dX11_wit_13 : decode cX11_wit 13 = .ok (.ireturn, 1) := by decide +kernel
theorem dX11_wit_14 : decode cX11_wit 14 = .ok (.iload_n 2, 1) := by decide +kernel
theorem dX11_wit_15 : decode cX11_wit 15 = .ok (.iconst 1, 1) := by decide +kernel
theorem dX11_wit_16 : decode cX11_wit 16 = .ok (.if_icmp .lt 9, 3) := by decide +kernel
theorem dX11_wit_19 : decode cX11_wit 19 = .ok (.iload_n 2, 1) := by decide +kernel
theorem dX11_wit_20 : decode cX11_wit 20 = .ok (.bipush 9, 2) := by decide +kernel
theorem dX11_wit_22 : decode cX11_wit 22 = .ok (.if_icmp .le 6, 3) := by decide +kernel
theorem dX11_wit_25 : decode cX11_wit 25 = .ok (.ldc 74, 2) := by decide +kernel
theorem dX11_wit_27 : decode cX11_wit 27 = .ok (.ireturn, 1) := by decide +kernel
theorem dX11_wit_28 : decode cX11_wit 28 = .ok (.aload_n 0, 1) := by decide +kernel
theorem dX11_wit_29 : decode cX11_wit 29 = .ok (.getfield 26, 3) := by decide +kernel
theorem dX11_wit_32 : decode cX11_wit 32 = .ok (.aload_n 0, 1) := by decide +kernel
theorem dX11_wit_33 : decode cX11_wit 33 = .ok (.getfield 19, 3) := by decide +kernel
theorem dX11_wit_36 : decode cX11_wit 36 = .ok (.getfield 94, 3) := by decide +kernel
theorem dX11_wit_39 : decode cX11_wit 39 = .ok (.invokevirtual 212, 3) := by decide +kernel
theorem dX11_wit_42 : decode cX11_wit 42 = .ok (.aload_n 0, 1) := by decide +kernel
theorem dX11_wit_43 : decode cX11_wit 43 = .ok (.getfield 19, 3) := by decide +kernel
theorem dX11_wit_46 : decode cX11_wit 46 = .ok (.getfield 94, 3) := by decide +kernel
theorem dX11_wit_49 : decode cX11_wit 49 = .ok (.getfield 175, 3) := by decide +kernel
theorem dX11_wit_52 : decode cX11_wit 52 = .ok (.iload_n 1, 1) := by decide +kernel
theorem dX11_wit_53 : decode cX11_wit 53 = .ok (.iaload, 1) := by decide +kernel
theorem dX11_wit_54 : decode cX11_wit 54 = .ok (.istore_n 3, 1) := by decide +kernel
theorem dX11_wit_55 : decode cX11_wit 55 = .ok (.aload_n 0, 1) := by decide +kernel
theorem dX11_wit_56 : decode cX11_wit 56 = .ok (.getfield 19, 3) := by decide +kernel
theorem dX11_wit_59 : decode cX11_wit 59 = .ok (.getfield 94, 3) := by decide +kernel
theorem dX11_wit_62 : decode cX11_wit 62 = .ok (.getfield 175, 3) := by decide +kernel
theorem dX11_wit_65 : decode cX11_wit 65 = .ok (.iload_n 1, 1) := by decide +kernel
theorem dX11_wit_66 : decode cX11_wit 66 = .ok (.iload_n 2, 1) := by decide +kernel
theorem dX11_wit_67 : decode cX11_wit 67 = .ok (.iastore, 1) := by decide +kernel
theorem dX11_wit_68 : decode cX11_wit 68 = .ok (.iload_n 3, 1) := by decide +kernel
theorem dX11_wit_69 : decode cX11_wit 69 = .ok (.ireturn, 1) := by decide +kernel
theorem dX11_bear_0 : decode cX11_bear 0 = .ok (.aload_n 0, 1) := by decide +kernel
theorem dX11_bear_1 : decode cX11_bear 1 = .ok (.getfield 19, 3) := by decide +kernel
theorem dX11_bear_4 : decode cX11_bear 4 = .ok (.iload_n 1, 1) := by decide +kernel
theorem dX11_bear_5 : decode cX11_bear 5 = .ok (.invokevirtual 197, 3) := by decide +kernel
theorem dX11_bear_8 : decode cX11_bear 8 = .ok (.ifCond .ne 6, 3) := by decide +kernel
theorem dX11_bear_11 : decode cX11_bear 11 = .ok (.ldc 167, 2) := by decide +kernel
theorem dX11_bear_13 : decode cX11_bear 13 = .ok (.ireturn, 1) := by decide +kernel
theorem dX11_bear_14 : decode cX11_bear 14 = .ok (.iload_n 2, 1) := by decide +kernel
theorem dX11_bear_15 : decode cX11_bear 15 = .ok (.ifCond .lt 9, 3) := by decide +kernel
theorem dX11_bear_18 : decode cX11_bear 18 = .ok (.iload_n 2, 1) := by decide +kernel
theorem dX11_bear_19 : decode cX11_bear 19 = .ok (.bipush 99, 2) := by decide +kernel
theorem dX11_bear_21 : decode cX11_bear 21 = .ok (.if_icmp .le 6, 3) := by decide +kernel
theorem dX11_bear_24 : decode cX11_bear 24 = .ok (.ldc 74, 2) := by decide +kernel
theorem dX11_bear_26 : decode cX11_bear 26 = .ok (.ireturn, 1) := by decide +kernel
theorem dX11_bear_27 : decode cX11_bear 27 = .ok (.aload_n 0, 1) := by decide +kernel
theorem dX11_bear_28 : decode cX11_bear 28 = .ok (.getfield 26, 3) := by decide +kernel
theorem dX11_bear_31 : decode cX11_bear 31 = .ok (.aload_n 0, 1) := by decide +kernel
theorem dX11_bear_32 : decode cX11_bear 32 = .ok (.getfield 19, 3) := by decide +kernel
theorem dX11_bear_35 : decode cX11_bear 35 = .ok (.getfield 94, 3) := by decide +kernel
theorem dX11_bear_38 : decode cX11_bear 38 = .ok (.invokevirtual 212, 3) := by decide +kernel
theorem dX11_bear_41 : decode cX11_bear 41 = .ok (.aload_n 0, 1) := by decide +kernel
theorem dX11_bear_42 : decode cX11_bear 42 = .ok (.getfield 19, 3) := by decide +kernel
theorem dX11_bear_45 : decode cX11_bear 45 = .ok (.getfield 94, 3) := by decide +kernel
theorem dX11_bear_48 : decode cX11_bear 48 = .ok (.getfield 200, 3) := by decide +kernel
theorem dX11_bear_51 : decode cX11_bear 51 = .ok (.iload_n 1, 1) := by decide +kernel
theorem dX11_bear_52 : decode cX11_bear 52 = .ok (.iaload, 1) := by decide +kernel
theorem dX11_bear_53 : decode cX11_bear 53 = .ok (.istore_n 3, 1) := by decide +kernel
theorem dX11_bear_54 : decode cX11_bear 54 = .ok (.aload_n 0, 1) := by decide +kernel
theorem dX11_bear_55 : decode cX11_bear 55 = .ok (.getfield 19, 3) := by decide +kernel
theorem dX11_bear_58 : decode cX11_bear 58 = .ok (.getfield 94, 3) := by decide +kernel
theorem dX11_bear_61 : decode cX11_bear 61 = .ok (.getfield 200, 3) := by decide +kernel
theorem dX11_bear_64 : decode cX11_bear 64 = .ok (.iload_n 1, 1) := by decide +kernel
theorem dX11_bear_65 : decode cX11_bear 65 = .ok (.iload_n 2, 1) := by decide +kernel
theorem dX11_bear_66 : decode cX11_bear 66 = .ok (.iastore, 1) := by decide +kernel
theorem dX11_bear_67 : decode cX11_bear 67 = .ok (.iload_n 3, 1) := by decide +kernel
theorem dX11_bear_68 : decode cX11_bear 68 = .ok (.ireturn, 1) := by decide +kernel
theorem dX11_drift_0 : decode cX11_drift 0 = .ok (.aload_n 0, 1) := by decide +kernel
theorem dX11_drift_1 : decode cX11_drift 1 = .ok (.iload_n 1, 1) := by decide +kernel
theorem dX11_drift_2 : decode cX11_drift 2 = .ok (.invokevirtual 228, 3) := by decide +kernel
theorem dX11_drift_5 : decode cX11_drift 5 = .ok (.istore_n 2, 1) := by decide +kernel
theorem dX11_drift_6 : decode cX11_drift 6 = .ok (.iload_n 2, 1) := by decide +kernel
theorem dX11_drift_7 : decode cX11_drift 7 = .ok (.ifCond .eq 5, 3) := by decide +kernel
theorem dX11_drift_10 : decode cX11_drift 10 = .ok (.iload_n 2, 1) := by decide +kernel
theorem dX11_drift_11 : decode cX11_drift 11 = .ok (.ireturn, 1) := by decide +kernel
theorem dX11_drift_12 : decode cX11_drift 12 = .ok (.aload_n 0, 1) := by decide +kernel
theorem dX11_drift_13 : decode cX11_drift 13 = .ok (.getfield 26, 3) := by decide +kernel
theorem dX11_drift_16 : decode cX11_drift 16 = .ok (.aload_n 0, 1) := by decide +kernel
theorem dX11_drift_17 : decode cX11_drift 17 = .ok (.getfield 19, 3) := by decide +kernel
theorem dX11_drift_20 : decode cX11_drift 20 = .ok (.getfield 94, 3) := by decide +kernel
theorem dX11_drift_23 : decode cX11_drift 23 = .ok (.invokevirtual 212, 3) := by decide +kernel
theorem dX11_drift_26 : decode cX11_drift 26 = .ok (.iconst 0, 1) := by decide +kernel
theorem dX11_drift_27 : decode cX11_drift 27 = .ok (.istore_n 3, 1) := by decide +kernel
theorem dX11_drift_28 : decode cX11_drift 28 = .ok (.iload_n 3, 1) := by decide +kernel
theorem dX11_drift_29 : decode cX11_drift 29 = .ok (.iload_n 1, 1) := by decide +kernel
theorem dX11_drift_30 : decode cX11_drift 30 = .ok (.if_icmp .ge 27, 3) := by decide +kernel
theorem dX11_drift_33 : decode cX11_drift 33 = .ok (.aload_n 0, 1) := by decide +kernel
theorem dX11_drift_34 : decode cX11_drift 34 = .ok (.getfield 19, 3) := by decide +kernel
theorem dX11_drift_37 : decode cX11_drift 37 = .ok (.aload_n 0, 1) := by decide +kernel
theorem dX11_drift_38 : decode cX11_drift 38 = .ok (.getfield 40, 3) := by decide +kernel
theorem dX11_drift_41 : decode cX11_drift 41 = .ok (.invokevirtual 234, 3) := by decide +kernel
theorem dX11_drift_44 : decode cX11_drift 44 = .ok (.aload_n 0, 1) := by decide +kernel
theorem dX11_drift_45 : decode cX11_drift 45 = .ok (.getfield 19, 3) := by decide +kernel
theorem dX11_drift_48 : decode cX11_drift 48 = .ok (.invokevirtual 231, 3) := by decide +kernel
theorem dX11_drift_51 : decode cX11_drift 51 = .ok (.iinc 3 1, 3) := by decide +kernel
theorem dX11_drift_54 : decode cX11_drift 54 = .ok (.goto (-26), 3) := by decide +kernel
theorem dX11_drift_57 : decode cX11_drift 57 = .ok (.aload_n 0, 1) := by decide +kernel
theorem dX11_drift_58 : decode cX11_drift 58 = .ok (.getfield 19, 3) := by decide +kernel
theorem dX11_drift_61 : decode cX11_drift 61 = .ok (.getfield 94, 3) := by decide +kernel
theorem dX11_drift_64 : decode cX11_drift 64 = .ok (.getfield 129, 3) := by decide +kernel
theorem dX11_drift_67 : decode cX11_drift 67 = .ok (.ireturn, 1) := by decide +kernel
theorem dX11_undo_0 : decode cX11_undo 0 = .ok (.aload_n 0, 1) := by decide +kernel
theorem dX11_undo_1 : decode cX11_undo 1 = .ok (.getfield 26, 3) := by decide +kernel
theorem dX11_undo_4 : decode cX11_undo 4 = .ok (.getfield 162, 3) := by decide +kernel
theorem dX11_undo_7 : decode cX11_undo 7 = .ok (.ifCond .ne 6, 3) := by decide +kernel
theorem dX11_undo_10 : decode cX11_undo 10 = .ok (.ldc 224, 2) := by decide +kernel
theorem dX11_undo_12 : decode cX11_undo 12 = .ok (.ireturn, 1) := by decide +kernel
theorem dX11_undo_13 : decode cX11_undo 13 = .ok (.aload_n 0, 1) := by decide +kernel
theorem dX11_undo_14 : decode cX11_undo 14 = .ok (.getfield 26, 3) := by decide +kernel
theorem dX11_undo_17 : decode cX11_undo 17 = .ok (.aload_n 0, 1) := by decide +kernel
theorem dX11_undo_18 : decode cX11_undo 18 = .ok (.getfield 19, 3) := by decide +kernel
theorem dX11_undo_21 : decode cX11_undo 21 = .ok (.getfield 94, 3) := by decide +kernel
theorem dX11_undo_24 : decode cX11_undo 24 = .ok (.invokevirtual 238, 3) := by decide +kernel
theorem dX11_undo_27 : decode cX11_undo 27 = .ok (.aload_n 0, 1) := by decide +kernel
theorem dX11_undo_28 : decode cX11_undo 28 = .ok (.getfield 26, 3) := by decide +kernel
theorem dX11_undo_31 : decode cX11_undo 31 = .ok (.getfield 162, 3) := by decide +kernel
theorem dX11_undo_34 : decode cX11_undo 34 = .ok (.ireturn, 1) := by decide +kernel
theorem dX11_down_0 : decode cX11_down 0 = .ok (.aload_n 0, 1) := by decide +kernel
theorem dX11_down_1 : decode cX11_down 1 = .ok (.getfield 19, 3) := by decide +kernel
theorem dX11_down_4 : decode cX11_down 4 = .ok (.iload_n 1, 1) := by decide +kernel
theorem dX11_down_5 : decode cX11_down 5 = .ok (.invokevirtual 163, 3) := by decide +kernel
theorem dX11_down_8 : decode cX11_down 8 = .ok (.ifCond .ne 6, 3) := by decide +kernel
theorem dX11_down_11 : decode cX11_down 11 = .ok (.ldc 167, 2) := by decide +kernel
theorem dX11_down_13 : decode cX11_down 13 = .ok (.ireturn, 1) := by decide +kernel
theorem dX11_down_14 : decode cX11_down 14 = .ok (.iload_n 2, 1) := by decide +kernel
theorem dX11_down_15 : decode cX11_down 15 = .ok (.ifCond .lt 18, 3) := by decide +kernel
theorem dX11_down_18 : decode cX11_down 18 = .ok (.iload_n 2, 1) := by decide +kernel
theorem dX11_down_19 : decode cX11_down 19 = .ok (.bipush 99, 2) := by decide +kernel
theorem dX11_down_21 : decode cX11_down 21 = .ok (.if_icmp .gt 12, 3) := by decide +kernel
theorem dX11_down_24 : decode cX11_down 24 = .ok (.iload_n 3, 1) := by decide +kernel
theorem dX11_down_25 : decode cX11_down 25 = .ok (.ifCond .lt 8, 3) := by decide +kernel
theorem dX11_down_28 : decode cX11_down 28 = .ok (.iload_n 3, 1) := by decide +kernel
theorem dX11_down_29 : decode cX11_down 29 = .ok (.iconst 1, 1) := by decide +kernel
theorem dX11_down_30 : decode cX11_down 30 = .ok (.if_icmp .le 6, 3) := by decide +kernel
theorem dX11_down_33 : decode cX11_down 33 = .ok (.ldc 74, 2) := by decide +kernel
theorem dX11_down_35 : decode cX11_down 35 = .ok (.ireturn, 1) := by decide +kernel
theorem dX11_down_36 : decode cX11_down 36 = .ok (.aload_n 0, 1) := by decide +kernel
theorem dX11_down_37 : decode cX11_down 37 = .ok (.getfield 19, 3) := by decide +kernel
theorem dX11_down_40 : decode cX11_down 40 = .ok (.iload_n 1, 1) := by decide +kernel
theorem dX11_down_41 : decode cX11_down 41 = .ok (.iload_n 2, 1) := by decide +kernel
theorem dX11_down_42 : decode cX11_down 42 = .ok (.invokevirtual 241, 3) := by decide +kernel
theorem dX11_down_45 : decode cX11_down 45 = .ok (.iload_n 3, 1) := by decide +kernel
theorem dX11_down_46 : decode cX11_down 46 = .ok (.ifCond .ne 16, 3) := by decide +kernel
theorem dX11_down_49 : decode cX11_down 49 = .ok (.aload_n 0, 1) := by decide +kernel
theorem dX11_down_50 : decode cX11_down 50 = .ok (.getfield 19, 3) := by decide +kernel
theorem dX11_down_53 : decode cX11_down 53 = .ok (.getfield 244, 3) := by decide +kernel
theorem dX11_down_56 : decode cX11_down 56 = .ok (.getfield 248, 3) := by decide +kernel
theorem dX11_down_59 : decode cX11_down 59 = .ok (.goto 13, 3) := by decide +kernel
theorem dX11_down_62 : decode cX11_down 62 = .ok (.aload_n 0, 1) := by decide +kernel
theorem dX11_down_63 : decode cX11_down 63 = .ok (.getfield 19, 3) := by decide +kernel
theorem dX11_down_66 : decode cX11_down 66 = .ok (.getfield 244, 3) := by decide +kernel
theorem dX11_down_69 : decode cX11_down 69 = .ok (.getfield 253, 3) := by decide +kernel
theorem dX11_down_72 : decode cX11_down 72 = .ok (.ireturn, 1) := by decide +kernel
theorem dX11_best_0 : decode cX11_best 0 = .ok (.iload_n 1, 1) := by decide +kernel
theorem dX11_best_1 : decode cX11_best 1 = .ok (.ifCond .lt 9, 3) := by decide +kernel
theorem dX11_best_4 : decode cX11_best 4 = .ok (.iload_n 1, 1) := by decide +kernel
theorem dX11_best_5 : decode cX11_best 5 = .ok (.bipush 99, 2) := by decide +kernel
theorem dX11_best_7 : decode cX11_best 7 = .ok (.if_icmp .le 6, 3) := by decide +kernel
theorem dX11_best_10 : decode cX11_best 10 = .ok (.ldc 74, 2) := by decide +kernel
theorem dX11_best_12 : decode cX11_best 12 = .ok (.ireturn, 1) := by decide +kernel
theorem dX11_best_13 : decode cX11_best 13 = .ok (.aload_n 0, 1) := by decide +kernel
theorem dX11_best_14 : decode cX11_best 14 = .ok (.getfield 19, 3) := by decide +kernel
theorem dX11_best_17 : decode cX11_best 17 = .ok (.iload_n 1, 1) := by decide +kernel
theorem dX11_best_18 : decode cX11_best 18 = .ok (.invokevirtual 256, 3) := by decide +kernel
theorem dX11_best_21 : decode cX11_best 21 = .ok (.ireturn, 1) := by decide +kernel
theorem dX11_match_0 : decode cX11_match 0 = .ok (.iload_n 1, 1) := by decide +kernel
theorem dX11_match_1 : decode cX11_match 1 = .ok (.iconst (-1), 1) := by decide +kernel
theorem dX11_match_2 : decode cX11_match 2 = .ok (.if_icmp .eq 17, 3) := by decide +kernel
theorem dX11_match_5 : decode cX11_match 5 = .ok (.aload_n 0, 1) := by decide +kernel
theorem dX11_match_6 : decode cX11_match 6 = .ok (.getfield 19, 3) := by decide +kernel
theorem dX11_match_9 : decode cX11_match 9 = .ok (.iload_n 1, 1) := by decide +kernel
theorem dX11_match_10 : decode cX11_match 10 = .ok (.invokevirtual 163, 3) := by decide +kernel
theorem dX11_match_13 : decode cX11_match 13 = .ok (.ifCond .ne 6, 3) := by decide +kernel
theorem dX11_match_16 : decode cX11_match 16 = .ok (.ldc 167, 2) := by decide +kernel
theorem dX11_match_18 : decode cX11_match 18 = .ok (.ireturn, 1) := by decide +kernel
theorem dX11_match_19 : decode cX11_match 19 = .ok (.aload_n 0, 1) := by decide +kernel
theorem dX11_match_20 : decode cX11_match 20 = .ok (.getfield 63, 3) := by decide +kernel
theorem dX11_match_23 : decode cX11_match 23 = .ok (.invokevirtual 259, 3) := by decide +kernel
theorem dX11_match_26 : decode cX11_match 26 = .ok (.iload_n 1, 1) := by decide +kernel
theorem dX11_match_27 : decode cX11_match 27 = .ok (.iconst (-1), 1) := by decide +kernel
theorem dX11_match_28 : decode cX11_match 28 = .ok (.if_icmp .ne 13, 3) := by decide +kernel
theorem dX11_match_31 : decode cX11_match 31 = .ok (.aload_n 0, 1) := by decide +kernel
theorem dX11_match_32 : decode cX11_match 32 = .ok (.getfield 63, 3) := by decide +kernel
theorem dX11_match_35 : decode cX11_match 35 = .ok (.invokevirtual 262, 3) := by decide +kernel
theorem dX11_match_38 : decode cX11_match 38 = .ok (.goto 12, 3) := by decide +kernel
theorem dX11_match_41 : decode cX11_match 41 = .ok (.aload_n 0, 1) := by decide +kernel
theorem dX11_match_42 : decode cX11_match 42 = .ok (.getfield 63, 3) := by decide +kernel
theorem dX11_match_45 : decode cX11_match 45 = .ok (.getfield 265, 3) := by decide +kernel
theorem dX11_match_48 : decode cX11_match 48 = .ok (.iload_n 1, 1) := by decide +kernel
theorem dX11_match_49 : decode cX11_match 49 = .ok (.iaload, 1) := by decide +kernel
theorem dX11_match_50 : decode cX11_match 50 = .ok (.ireturn, 1) := by decide +kernel
theorem dX11_shares_0 : decode cX11_shares 0 = .ok (.aload_n 0, 1) := by decide +kernel
theorem dX11_shares_1 : decode cX11_shares 1 = .ok (.getfield 19, 3) := by decide +kernel
theorem dX11_shares_4 : decode cX11_shares 4 = .ok (.iload_n 2, 1) := by decide +kernel
theorem dX11_shares_5 : decode cX11_shares 5 = .ok (.invokevirtual 197, 3) := by decide +kernel
theorem dX11_shares_8 : decode cX11_shares 8 = .ok (.ifCond .ne 6, 3) := by decide +kernel
theorem dX11_shares_11 : decode cX11_shares 11 = .ok (.ldc 167, 2) := by decide +kernel
theorem dX11_shares_13 : decode cX11_shares 13 = .ok (.ireturn, 1) := by decide +kernel
theorem dX11_shares_14 : decode cX11_shares 14 = .ok (.iload_n 1, 1) := by decide +kernel
theorem dX11_shares_15 : decode cX11_shares 15 = .ok (.ifCond .lt 10, 3) := by decide +kernel
theorem dX11_shares_18 : decode cX11_shares 18 = .ok (.iload_n 1, 1) := by decide +kernel
theorem dX11_shares_19 : decode cX11_shares 19 = .ok (.sipush 999, 3) := by decide +kernel
theorem dX11_shares_22 : decode cX11_shares 22 = .ok (.if_icmp .le 6, 3) := by decide +kernel
theorem dX11_shares_25 : decode cX11_shares 25 = .ok (.ldc 74, 2) := by decide +kernel
theorem dX11_shares_27 : decode cX11_shares 27 = .ok (.ireturn, 1) := by decide +kernel
theorem dX11_shares_28 : decode cX11_shares 28 = .ok (.aload_n 0, 1) := by decide +kernel
theorem dX11_shares_29 : decode cX11_shares 29 = .ok (.getfield 19, 3) := by decide +kernel
theorem dX11_shares_32 : decode cX11_shares 32 = .ok (.iload_n 1, 1) := by decide +kernel
theorem dX11_shares_33 : decode cX11_shares 33 = .ok (.iload_n 2, 1) := by decide +kernel
theorem dX11_shares_34 : decode cX11_shares 34 = .ok (.invokevirtual 268, 3) := by decide +kernel
theorem dX11_shares_37 : decode cX11_shares 37 = .ok (.ireturn, 1) := by decide +kernel
theorem dX11_dry_0 : decode cX11_dry 0 = .ok (.iload_n 1, 1) := by decide +kernel
theorem dX11_dry_1 : decode cX11_dry 1 = .ok (.ifCond .lt 19, 3) := by decide +kernel
theorem dX11_dry_4 : decode cX11_dry 4 = .ok (.iload_n 1, 1) := by decide +kernel
theorem dX11_dry_5 : decode cX11_dry 5 = .ok (.bipush 60, 2) := by decide +kernel
theorem dX11_dry_7 : decode cX11_dry 7 = .ok (.if_icmp .gt 13, 3) := by decide +kernel
theorem dX11_dry_10 : decode cX11_dry 10 = .ok (.iload_n 2, 1) := by decide +kernel
theorem dX11_dry_11 : decode cX11_dry 11 = .ok (.ifCond .lt 9, 3) := by decide +kernel
theorem dX11_dry_14 : decode cX11_dry 14 = .ok (.iload_n 2, 1) := by decide +kernel
theorem dX11_dry_15 : decode cX11_dry 15 = .ok (.bipush 100, 2) := by decide +kernel
theorem dX11_dry_17 : decode cX11_dry 17 = .ok (.if_icmp .le 6, 3) := by decide +kernel
theorem dX11_dry_20 : decode cX11_dry 20 = .ok (.ldc 74, 2) := by decide +kernel
theorem dX11_dry_22 : decode cX11_dry 22 = .ok (.ireturn, 1) := by decide +kernel
theorem dX11_dry_23 : decode cX11_dry 23 = .ok (.ldc2_w 272, 3) := by decide +kernel
theorem dX11_dry_26 : decode cX11_dry 26 = .ok (.lstore_n 3, 1) := by decide +kernel
theorem dX11_dry_27 : decode cX11_dry 27 = .ok (.iconst 0, 1) := by decide +kernel
theorem dX11_dry_28 : decode cX11_dry 28 = .ok (.istore 5, 2) := by decide +kernel
theorem dX11_dry_30 : decode cX11_dry 30 = .ok (.iload 5, 2) := by decide +kernel
theorem dX11_dry_32 : decode cX11_dry 32 = .ok (.iload_n 1, 1) := by decide +kernel
theorem dX11_dry_33 : decode cX11_dry 33 = .ok (.if_icmp .ge 18, 3) := by decide +kernel
theorem dX11_dry_36 : decode cX11_dry 36 = .ok (.lload_n 3, 1) := by decide +kernel
theorem dX11_dry_37 : decode cX11_dry 37 = .ok (.iload_n 2, 1) := by decide +kernel
theorem dX11_dry_38 : decode cX11_dry 38 = .ok (.i2l, 1) := by decide +kernel
theorem dX11_dry_39 : decode cX11_dry 39 = .ok (.lmul, 1) := by decide +kernel
theorem dX11_dry_40 : decode cX11_dry 40 = .ok (.ldc2_w 274, 3) := by decide +kernel
theorem dX11_dry_43 : decode cX11_dry 43 = .ok (.ldiv, 1) := by decide +kernel
theorem dX11_dry_44 : decode cX11_dry 44 = .ok (.lstore_n 3, 1) := by decide +kernel
theorem dX11_dry_45 : decode cX11_dry 45 = .ok (.iinc 5 1, 3) := by decide +kernel
theorem dX11_dry_48 : decode cX11_dry 48 = .ok (.goto (-18), 3) := by decide +kernel
theorem dX11_dry_51 : decode cX11_dry 51 = .ok (.lload_n 3, 1) := by decide +kernel
theorem dX11_dry_52 : decode cX11_dry 52 = .ok (.l2i, 1) := by decide +kernel
theorem dX11_dry_53 : decode cX11_dry 53 = .ok (.ireturn, 1) := by decide +kernel
theorem dX11_returned_0 : decode cX11_returned 0 = .ok (.iload_n 1, 1) := by decide +kernel
theorem dX11_returned_1 : decode cX11_returned 1 = .ok (.ifCond .lt 10, 3) := by decide +kernel
theorem dX11_returned_4 : decode cX11_returned 4 = .ok (.iload_n 1, 1) := by decide +kernel
theorem dX11_returned_5 : decode cX11_returned 5 = .ok (.sipush 999, 3) := by decide +kernel
theorem dX11_returned_8 : decode cX11_returned 8 = .ok (.if_icmp .le 6, 3) := by decide +kernel
theorem dX11_returned_11 : decode cX11_returned 11 = .ok (.ldc 74, 2) := by decide +kernel
theorem dX11_returned_13 : decode cX11_returned 13 = .ok (.ireturn, 1) := by decide +kernel
theorem dX11_returned_14 : decode cX11_returned 14 = .ok (.aload_n 0, 1) := by decide +kernel
theorem dX11_returned_15 : decode cX11_returned 15 = .ok (.getfield 19, 3) := by decide +kernel
theorem dX11_returned_18 : decode cX11_returned 18 = .ok (.getfield 91, 3) := by decide +kernel
theorem dX11_returned_21 : decode cX11_returned 21 = .ok (.getfield 276, 3) := by decide +kernel
theorem dX11_returned_24 : decode cX11_returned 24 = .ok (.ifCond .ne 6, 3) := by decide +kernel
theorem dX11_returned_27 : decode cX11_returned 27 = .ok (.ldc 224, 2) := by decide +kernel
theorem dX11_returned_29 : decode cX11_returned 29 = .ok (.ireturn, 1) := by decide +kernel
theorem dX11_returned_30 : decode cX11_returned 30 = .ok (.aload_n 0, 1) := by decide +kernel
theorem dX11_returned_31 : decode cX11_returned 31 = .ok (.getfield 47, 3) := by decide +kernel
theorem dX11_returned_34 : decode cX11_returned 34 = .ok (.getfield 107, 3) := by decide +kernel
theorem dX11_returned_37 : decode cX11_returned 37 = .ok (.bipush 6, 2) := by decide +kernel
theorem dX11_returned_39 : decode cX11_returned 39 = .ok (.if_icmp .lt 6, 3) := by decide +kernel
theorem dX11_returned_42 : decode cX11_returned 42 = .ok (.ldc 79, 2) := by decide +kernel
theorem dX11_returned_44 : decode cX11_returned 44 = .ok (.ireturn, 1) := by decide +kernel
theorem dX11_returned_45 : decode cX11_returned 45 = .ok (.aload_n 0, 1) := by decide +kernel
theorem dX11_returned_46 : decode cX11_returned 46 = .ok (.getfield 47, 3) := by decide +kernel
theorem dX11_returned_49 : decode cX11_returned 49 = .ok (.iload_n 1, 1) := by decide +kernel
theorem dX11_returned_50 : decode cX11_returned 50 = .ok (.aload_n 0, 1) := by decide +kernel
theorem dX11_returned_51 : decode cX11_returned 51 = .ok (.getfield 19, 3) := by decide +kernel
theorem dX11_returned_54 : decode cX11_returned 54 = .ok (.getfield 94, 3) := by decide +kernel
theorem dX11_returned_57 : decode cX11_returned 57 = .ok (.getfield 200, 3) := by decide +kernel
theorem dX11_returned_60 : decode cX11_returned 60 = .ok (.invokevirtual 280, 3) := by decide +kernel
theorem dX11_returned_63 : decode cX11_returned 63 = .ok (.aload_n 0, 1) := by decide +kernel
theorem dX11_returned_64 : decode cX11_returned 64 = .ok (.getfield 47, 3) := by decide +kernel
theorem dX11_returned_67 : decode cX11_returned 67 = .ok (.getfield 107, 3) := by decide +kernel
theorem dX11_returned_70 : decode cX11_returned 70 = .ok (.ireturn, 1) := by decide +kernel
theorem dX11_write_0 : decode cX11_write 0 = .ok (.aload_n 0, 1) := by decide +kernel
theorem dX11_write_1 : decode cX11_write 1 = .ok (.getfield 19, 3) := by decide +kernel
theorem dX11_write_4 : decode cX11_write 4 = .ok (.iload_n 1, 1) := by decide +kernel
theorem dX11_write_5 : decode cX11_write 5 = .ok (.invokevirtual 163, 3) := by decide +kernel
theorem dX11_write_8 : decode cX11_write 8 = .ok (.ifCond .ne 6, 3) := by decide +kernel
theorem dX11_write_11 : decode cX11_write 11 = .ok (.ldc 167, 2) := by decide +kernel
theorem dX11_write_13 : decode cX11_write 13 = .ok (.ireturn, 1) := by decide +kernel
theorem dX11_write_14 : decode cX11_write 14 = .ok (.iload_n 2, 1) := by decide +kernel
theorem dX11_write_15 : decode cX11_write 15 = .ok (.ifCond .lt 10, 3) := by decide +kernel
theorem dX11_write_18 : decode cX11_write 18 = .ok (.iload_n 2, 1) := by decide +kernel
theorem dX11_write_19 : decode cX11_write 19 = .ok (.sipush 9999, 3) := by decide +kernel
theorem dX11_write_22 : decode cX11_write 22 = .ok (.if_icmp .le 6, 3) := by decide +kernel
theorem dX11_write_25 : decode cX11_write 25 = .ok (.ldc 74, 2) := by decide +kernel
theorem dX11_write_27 : decode cX11_write 27 = .ok (.ireturn, 1) := by decide +kernel
theorem dX11_write_28 : decode cX11_write 28 = .ok (.aload_n 0, 1) := by decide +kernel
theorem dX11_write_29 : decode cX11_write 29 = .ok (.getfield 54, 3) := by decide +kernel
theorem dX11_write_32 : decode cX11_write 32 = .ok (.getfield 110, 3) := by decide +kernel
theorem dX11_write_35 : decode cX11_write 35 = .ok (.bipush 15, 2) := by decide +kernel
theorem dX11_write_37 : decode cX11_write 37 = .ok (.if_icmp .lt 6, 3) := by decide +kernel
theorem dX11_write_40 : decode cX11_write 40 = .ok (.ldc 79, 2) := by decide +kernel
theorem dX11_write_42 : decode cX11_write 42 = .ok (.ireturn, 1) := by decide +kernel
theorem dX11_write_43 : decode cX11_write 43 = .ok (.aload_n 0, 1) := by decide +kernel
theorem dX11_write_44 : decode cX11_write 44 = .ok (.getfield 54, 3) := by decide +kernel
theorem dX11_write_47 : decode cX11_write 47 = .ok (.iload_n 1, 1) := by decide +kernel
theorem dX11_write_48 : decode cX11_write 48 = .ok (.iload_n 2, 1) := by decide +kernel
theorem dX11_write_49 : decode cX11_write 49 = .ok (.invokevirtual 284, 3) := by decide +kernel
theorem dX11_write_52 : decode cX11_write 52 = .ok (.aload_n 0, 1) := by decide +kernel
theorem dX11_write_53 : decode cX11_write 53 = .ok (.getfield 54, 3) := by decide +kernel
theorem dX11_write_56 : decode cX11_write 56 = .ok (.getfield 110, 3) := by decide +kernel
theorem dX11_write_59 : decode cX11_write 59 = .ok (.ireturn, 1) := by decide +kernel
theorem dX11_tear_0 : decode cX11_tear 0 = .ok (.aload_n 0, 1) := by decide +kernel
theorem dX11_tear_1 : decode cX11_tear 1 = .ok (.getfield 47, 3) := by decide +kernel
theorem dX11_tear_4 : decode cX11_tear 4 = .ok (.getfield 107, 3) := by decide +kernel
theorem dX11_tear_7 : decode cX11_tear 7 = .ok (.aload_n 0, 1) := by decide +kernel
theorem dX11_tear_8 : decode cX11_tear 8 = .ok (.getfield 54, 3) := by decide +kernel
theorem dX11_tear_11 : decode cX11_tear 11 = .ok (.getfield 110, 3) := by decide +kernel
theorem dX11_tear_14 : decode cX11_tear 14 = .ok (.iadd, 1) := by decide +kernel
theorem dX11_tear_15 : decode cX11_tear 15 = .ok (.istore_n 1, 1) := by decide +kernel
theorem dX11_tear_16 : decode cX11_tear 16 = .ok (.aload_n 0, 1) := by decide +kernel
theorem dX11_tear_17 : decode cX11_tear 17 = .ok (.getfield 47, 3) := by decide +kernel
theorem dX11_tear_20 : decode cX11_tear 20 = .ok (.iconst 0, 1) := by decide +kernel
theorem dX11_tear_21 : decode cX11_tear 21 = .ok (.putfield 107, 3) := by decide +kernel
theorem dX11_tear_24 : decode cX11_tear 24 = .ok (.aload_n 0, 1) := by decide +kernel
theorem dX11_tear_25 : decode cX11_tear 25 = .ok (.getfield 54, 3) := by decide +kernel
theorem dX11_tear_28 : decode cX11_tear 28 = .ok (.iconst 0, 1) := by decide +kernel
theorem dX11_tear_29 : decode cX11_tear 29 = .ok (.putfield 110, 3) := by decide +kernel
theorem dX11_tear_32 : decode cX11_tear 32 = .ok (.iload_n 1, 1) := by decide +kernel
theorem dX11_tear_33 : decode cX11_tear 33 = .ok (.ireturn, 1) := by decide +kernel
theorem dX11_judge_0 : decode cX11_judge 0 = .ok (.aload_n 0, 1) := by decide +kernel
theorem dX11_judge_1 : decode cX11_judge 1 = .ok (.getfield 54, 3) := by decide +kernel
theorem dX11_judge_4 : decode cX11_judge 4 = .ok (.aload_n 0, 1) := by decide +kernel
theorem dX11_judge_5 : decode cX11_judge 5 = .ok (.getfield 19, 3) := by decide +kernel
theorem dX11_judge_8 : decode cX11_judge 8 = .ok (.getfield 94, 3) := by decide +kernel
theorem dX11_judge_11 : decode cX11_judge 11 = .ok (.getfield 184, 3) := by decide +kernel
theorem dX11_judge_14 : decode cX11_judge 14 = .ok (.invokevirtual 286, 3) := by decide +kernel
theorem dX11_judge_17 : decode cX11_judge 17 = .ok (.ireturn, 1) := by decide +kernel
theorem dX11_seed_0 : decode cX11_seed 0 = .ok (.iload_n 1, 1) := by decide +kernel
theorem dX11_seed_1 : decode cX11_seed 1 = .ok (.ifCond .ge 6, 3) := by decide +kernel
theorem dX11_seed_4 : decode cX11_seed 4 = .ok (.ldc 74, 2) := by decide +kernel
theorem dX11_seed_6 : decode cX11_seed 6 = .ok (.ireturn, 1) := by decide +kernel
theorem dX11_seed_7 : decode cX11_seed 7 = .ok (.aload_n 0, 1) := by decide +kernel
theorem dX11_seed_8 : decode cX11_seed 8 = .ok (.getfield 40, 3) := by decide +kernel
theorem dX11_seed_11 : decode cX11_seed 11 = .ok (.getfield 290, 3) := by decide +kernel
theorem dX11_seed_14 : decode cX11_seed 14 = .ok (.istore_n 2, 1) := by decide +kernel
theorem dX11_seed_15 : decode cX11_seed 15 = .ok (.aload_n 0, 1) := by decide +kernel
theorem dX11_seed_16 : decode cX11_seed 16 = .ok (.getfield 40, 3) := by decide +kernel
theorem dX11_seed_19 : decode cX11_seed 19 = .ok (.iload_n 1, 1) := by decide +kernel
theorem dX11_seed_20 : decode cX11_seed 20 = .ok (.putfield 290, 3) := by decide +kernel
theorem dX11_seed_23 : decode cX11_seed 23 = .ok (.iload_n 2, 1) := by decide +kernel
theorem dX11_seed_24 : decode cX11_seed 24 = .ok (.ireturn, 1) := by decide +kernel
theorem dX11_keep_0 : decode cX11_keep 0 = .ok (.iload_n 1, 1) := by decide +kernel
theorem dX11_keep_1 : decode cX11_keep 1 = .ok (.ifCond .lt 8, 3) := by decide +kernel
theorem dX11_keep_4 : decode cX11_keep 4 = .ok (.iload_n 1, 1) := by decide +kernel
theorem dX11_keep_5 : decode cX11_keep 5 = .ok (.iconst 2, 1) := by decide +kernel
theorem dX11_keep_6 : decode cX11_keep 6 = .ok (.if_icmp .lt 6, 3) := by decide +kernel
theorem dX11_keep_9 : decode cX11_keep 9 = .ok (.ldc 167, 2) := by decide +kernel
theorem dX11_keep_11 : decode cX11_keep 11 = .ok (.ireturn, 1) := by decide +kernel
theorem dX11_keep_12 : decode cX11_keep 12 = .ok (.aload_n 0, 1) := by decide +kernel
theorem dX11_keep_13 : decode cX11_keep 13 = .ok (.getfield 33, 3) := by decide +kernel
theorem dX11_keep_16 : decode cX11_keep 16 = .ok (.iload_n 1, 1) := by decide +kernel
theorem dX11_keep_17 : decode cX11_keep 17 = .ok (.aload_n 0, 1) := by decide +kernel
theorem dX11_keep_18 : decode cX11_keep 18 = .ok (.getfield 19, 3) := by decide +kernel
theorem dX11_keep_21 : decode cX11_keep 21 = .ok (.getfield 94, 3) := by decide +kernel
theorem dX11_keep_24 : decode cX11_keep 24 = .ok (.aload_n 0, 1) := by decide +kernel
theorem dX11_keep_25 : decode cX11_keep 25 = .ok (.getfield 40, 3) := by decide +kernel
theorem dX11_keep_28 : decode cX11_keep 28 = .ok (.getfield 290, 3) := by decide +kernel
theorem dX11_keep_31 : decode cX11_keep 31 = .ok (.invokevirtual 293, 3) := by decide +kernel
theorem dX11_keep_34 : decode cX11_keep 34 = .ok (.aload_n 0, 1) := by decide +kernel
theorem dX11_keep_35 : decode cX11_keep 35 = .ok (.getfield 26, 3) := by decide +kernel
theorem dX11_keep_38 : decode cX11_keep 38 = .ok (.invokevirtual 103, 3) := by decide +kernel
theorem dX11_keep_41 : decode cX11_keep 41 = .ok (.iconst 1, 1) := by decide +kernel
theorem dX11_keep_42 : decode cX11_keep 42 = .ok (.ireturn, 1) := by decide +kernel
theorem dX11_goBack_0 : decode cX11_goBack 0 = .ok (.iload_n 1, 1) := by decide +kernel
theorem dX11_goBack_1 : decode cX11_goBack 1 = .ok (.ifCond .lt 8, 3) := by decide +kernel
theorem dX11_goBack_4 : decode cX11_goBack 4 = .ok (.iload_n 1, 1) := by decide +kernel
theorem dX11_goBack_5 : decode cX11_goBack 5 = .ok (.iconst 2, 1) := by decide +kernel
theorem dX11_goBack_6 : decode cX11_goBack 6 = .ok (.if_icmp .lt 6, 3) := by decide +kernel
theorem dX11_goBack_9 : decode cX11_goBack 9 = .ok (.ldc 167, 2) := by decide +kernel
theorem dX11_goBack_11 : decode cX11_goBack 11 = .ok (.ireturn, 1) := by decide +kernel
theorem dX11_goBack_12 : decode cX11_goBack 12 = .ok (.aload_n 0, 1) := by decide +kernel
theorem dX11_goBack_13 : decode cX11_goBack 13 = .ok (.getfield 33, 3) := by decide +kernel
theorem dX11_goBack_16 : decode cX11_goBack 16 = .ok (.getfield 297, 3) := by decide +kernel
theorem dX11_goBack_19 : decode cX11_goBack 19 = .ok (.iload_n 1, 1) := by decide +kernel
theorem dX11_goBack_20 : decode cX11_goBack 20 = .ok (.baload, 1) := by decide +kernel
theorem dX11_goBack_21 : decode cX11_goBack 21 = .ok (.ifCond .ne 6, 3) := by decide +kernel
theorem dX11_goBack_24 : decode cX11_goBack 24 = .ok (.ldc 224, 2) := by decide +kernel
theorem dX11_goBack_26 : decode cX11_goBack 26 = .ok (.ireturn, 1) := by decide +kernel
theorem dX11_goBack_27 : decode cX11_goBack 27 = .ok (.aload_n 0, 1) := by decide +kernel
theorem dX11_goBack_28 : decode cX11_goBack 28 = .ok (.getfield 19, 3) := by decide +kernel
theorem dX11_goBack_31 : decode cX11_goBack 31 = .ok (.getfield 94, 3) := by decide +kernel
theorem dX11_goBack_34 : decode cX11_goBack 34 = .ok (.aload_n 0, 1) := by decide +kernel
theorem dX11_goBack_35 : decode cX11_goBack 35 = .ok (.getfield 33, 3) := by decide +kernel
theorem dX11_goBack_38 : decode cX11_goBack 38 = .ok (.getfield 301, 3) := by decide +kernel
theorem dX11_goBack_41 : decode cX11_goBack 41 = .ok (.iload_n 1, 1) := by decide +kernel
theorem dX11_goBack_42 : decode cX11_goBack 42 = .ok (.aaload, 1) := by decide +kernel
theorem dX11_goBack_43 : decode cX11_goBack 43 = .ok (.invokevirtual 305, 3) := by decide +kernel
theorem dX11_goBack_46 : decode cX11_goBack 46 = .ok (.aload_n 0, 1) := by decide +kernel
theorem dX11_goBack_47 : decode cX11_goBack 47 = .ok (.getfield 40, 3) := by decide +kernel
theorem dX11_goBack_50 : decode cX11_goBack 50 = .ok (.aload_n 0, 1) := by decide +kernel
theorem dX11_goBack_51 : decode cX11_goBack 51 = .ok (.getfield 33, 3) := by decide +kernel
theorem dX11_goBack_54 : decode cX11_goBack 54 = .ok (.getfield 308, 3) := by decide +kernel
theorem dX11_goBack_57 : decode cX11_goBack 57 = .ok (.iload_n 1, 1) := by decide +kernel
theorem dX11_goBack_58 : decode cX11_goBack 58 = .ok (.iaload, 1) := by decide +kernel
theorem dX11_goBack_59 : decode cX11_goBack 59 = .ok (.putfield 290, 3) := by decide +kernel
theorem dX11_goBack_62 : decode cX11_goBack 62 = .ok (.aload_n 0, 1) := by decide +kernel
theorem dX11_goBack_63 : decode cX11_goBack 63 = .ok (.getfield 26, 3) := by decide +kernel
theorem dX11_goBack_66 : decode cX11_goBack 66 = .ok (.invokevirtual 103, 3) := by decide +kernel
theorem dX11_goBack_69 : decode cX11_goBack 69 = .ok (.iconst 1, 1) := by decide +kernel
theorem dX11_goBack_70 : decode cX11_goBack 70 = .ok (.ireturn, 1) := by decide +kernel
theorem dX11_refuseYears_0 : decode cX11_refuseYears 0 = .ok (.iload_n 1, 1) := by decide +kernel
theorem dX11_refuseYears_1 : decode cX11_refuseYears 1 = .ok (.iconst 1, 1) := by decide +kernel
theorem dX11_refuseYears_2 : decode cX11_refuseYears 2 = .ok (.if_icmp .lt 9, 3) := by decide +kernel
theorem dX11_refuseYears_5 : decode cX11_refuseYears 5 = .ok (.iload_n 1, 1) := by decide +kernel
theorem dX11_refuseYears_6 : decode cX11_refuseYears 6 = .ok (.bipush 60, 2) := by decide +kernel
theorem dX11_refuseYears_8 : decode cX11_refuseYears 8 = .ok (.if_icmp .le 6, 3) := by decide +kernel
theorem dX11_refuseYears_11 : decode cX11_refuseYears 11 = .ok (.ldc 74, 2) := by decide +kernel
theorem dX11_refuseYears_13 : decode cX11_refuseYears 13 = .ok (.ireturn, 1) := by decide +kernel
theorem dX11_refuseYears_14 : decode cX11_refuseYears 14 = .ok (.aload_n 0, 1) := by decide +kernel
theorem dX11_refuseYears_15 : decode cX11_refuseYears 15 = .ok (.getfield 19, 3) := by decide +kernel
theorem dX11_refuseYears_18 : decode cX11_refuseYears 18 = .ok (.getfield 91, 3) := by decide +kernel
theorem dX11_refuseYears_21 : decode cX11_refuseYears 21 = .ok (.getfield 276, 3) := by decide +kernel
theorem dX11_refuseYears_24 : decode cX11_refuseYears 24 = .ok (.ifCond .ne 6, 3) := by decide +kernel
theorem dX11_refuseYears_27 : decode cX11_refuseYears 27 = .ok (.ldc 224, 2) := by decide +kernel
theorem dX11_refuseYears_29 : decode cX11_refuseYears 29 = .ok (.ireturn, 1) := by decide +kernel
theorem dX11_refuseYears_30 : decode cX11_refuseYears 30 = .ok (.aload_n 0, 1) := by decide +kernel
theorem dX11_refuseYears_31 : decode cX11_refuseYears 31 = .ok (.getfield 19, 3) := by decide +kernel
theorem dX11_refuseYears_34 : decode cX11_refuseYears 34 = .ok (.getfield 94, 3) := by decide +kernel
theorem dX11_refuseYears_37 : decode cX11_refuseYears 37 = .ok (.getfield 126, 3) := by decide +kernel
theorem dX11_refuseYears_40 : decode cX11_refuseYears 40 = .ok (.sipush 9000, 3) := by decide +kernel
theorem dX11_refuseYears_43 : decode cX11_refuseYears 43 = .ok (.if_icmp .le 8, 3) := by decide +kernel
theorem dX11_refuseYears_46 : decode cX11_refuseYears 46 = .ok (.ldc 79, 2) := by decide +kernel
theorem dX11_refuseYears_48 : decode cX11_refuseYears 48 = .ok (.goto 4, 3) := by decide +kernel
theorem dX11_refuseYears_51 : decode cX11_refuseYears 51 = .ok (.iconst 0, 1) := by decide +kernel
theorem dX11_refuseYears_52 : decode cX11_refuseYears 52 = .ok (.ireturn, 1) := by decide +kernel
theorem dX12_init_0 : decode cX12_init 0 = .ok (.aload_n 0, 1) := by decide +kernel
theorem dX12_init_1 : decode cX12_init 1 = .ok (.invokespecial 1, 3) := by decide +kernel
theorem dX12_init_4 : decode cX12_init 4 = .ok (.aload_n 0, 1) := by decide +kernel
theorem dX12_init_5 : decode cX12_init 5 = .ok (.bipush 7, 2) := by decide +kernel
theorem dX12_init_7 : decode cX12_init 7 = .ok (.newarray .int, 2) := by decide +kernel
theorem dX12_init_9 : decode cX12_init 9 = .ok (.putfield 7, 3) := by decide +kernel
theorem dX12_init_12 : decode cX12_init 12 = .ok (.aload_n 0, 1) := by decide +kernel
theorem dX12_init_13 : decode cX12_init 13 = .ok (.bipush 7, 2) := by decide +kernel
theorem dX12_init_15 : decode cX12_init 15 = .ok (.newarray .int, 2) := by decide +kernel
theorem dX12_init_17 : decode cX12_init 17 = .ok (.putfield 13, 3) := by decide +kernel
theorem dX12_init_20 : decode cX12_init 20 = .ok (.aload_n 0, 1) := by decide +kernel
theorem dX12_init_21 : decode cX12_init 21 = .ok (.bipush 7, 2) := by decide +kernel
theorem dX12_init_23 : decode cX12_init 23 = .ok (.newarray .int, 2) := by decide +kernel
theorem dX12_init_25 : decode cX12_init 25 = .ok (.putfield 16, 3) := by decide +kernel
theorem dX12_init_28 : decode cX12_init 28 = .ok (.aload_n 0, 1) := by decide +kernel
theorem dX12_init_29 : decode cX12_init 29 = .ok (.bipush 60, 2) := by decide +kernel
theorem dX12_init_31 : decode cX12_init 31 = .ok (.newarray .int, 2) := by decide +kernel
theorem dX12_init_33 : decode cX12_init 33 = .ok (.putfield 19, 3) := by decide +kernel
theorem dX12_init_36 : decode cX12_init 36 = .ok (.aload_n 0, 1) := by decide +kernel
theorem dX12_init_37 : decode cX12_init 37 = .ok (.sipush 240, 3) := by decide +kernel
theorem dX12_init_40 : decode cX12_init 40 = .ok (.newarray .int, 2) := by decide +kernel
theorem dX12_init_42 : decode cX12_init 42 = .ok (.putfield 22, 3) := by decide +kernel
theorem dX12_init_45 : decode cX12_init 45 = .ok (.aload_n 0, 1) := by decide +kernel
theorem dX12_init_46 : decode cX12_init 46 = .ok (.iconst (-1), 1) := by decide +kernel
theorem dX12_init_47 : decode cX12_init 47 = .ok (.putfield 25, 3) := by decide +kernel
theorem dX12_init_50 : decode cX12_init 50 = .ok (.aload_n 0, 1) := by decide +kernel
theorem dX12_init_51 : decode cX12_init 51 = .ok (.iconst 4, 1) := by decide +kernel
theorem dX12_init_52 : decode cX12_init 52 = .ok (.newarray .int, 2) := by decide +kernel
theorem dX12_init_54 : decode cX12_init 54 = .ok (.putfield 29, 3) := by decide +kernel
theorem dX12_init_57 : decode cX12_init 57 = .ok (.aload_n 0, 1) := by decide +kernel
theorem dX12_init_58 : decode cX12_init 58 = .ok (.bipush 7, 2) := by decide +kernel
theorem dX12_init_60 : decode cX12_init 60 = .ok (.newarray .int, 2) := by decide +kernel
theorem dX12_init_62 : decode cX12_init 62 = .ok (.putfield 32, 3) := by decide +kernel
theorem dX12_init_65 : decode cX12_init 65 = .ok (.aload_n 0, 1) := by decide +kernel
theorem dX12_init_66 : decode cX12_init 66 = .ok (.bipush 7, 2) := by decide +kernel
theorem dX12_init_68 : decode cX12_init 68 = .ok (.newarray .int, 2) := by decide +kernel
theorem dX12_init_70 : decode cX12_init 70 = .ok (.putfield 35, 3) := by decide +kernel
theorem dX12_init_73 : decode cX12_init 73 = .ok (.aload_n 0, 1) := by decide +kernel
theorem dX12_init_74 : decode cX12_init 74 = .ok (.bipush 7, 2) := by decide +kernel
theorem dX12_init_76 : decode cX12_init 76 = .ok (.newarray .int, 2) := by decide +kernel
theorem dX12_init_78 : decode cX12_init 78 = .ok (.putfield 38, 3) := by decide +kernel
theorem dX12_init_81 : decode cX12_init 81 = .ok (.aload_n 0, 1) := by decide +kernel
theorem dX12_init_82 : decode cX12_init 82 = .ok (.bipush 7, 2) := by decide +kernel
theorem dX12_init_84 : decode cX12_init 84 = .ok (.newarray .int, 2) := by decide +kernel
theorem dX12_init_86 : decode cX12_init 86 = .ok (.putfield 41, 3) := by decide +kernel
theorem dX12_init_89 : decode cX12_init 89 = .ok (.aload_n 0, 1) := by decide +kernel
theorem dX12_init_90 : decode cX12_init 90 = .ok (.sipush 480, 3) := by decide +kernel
theorem dX12_init_93 : decode cX12_init 93 = .ok (.newarray .int, 2) := by decide +kernel
theorem dX12_init_95 : decode cX12_init 95 = .ok (.putfield 44, 3) := by decide +kernel
theorem dX12_init_98 : decode cX12_init 98 = .ok (.aload_n 0, 1) := by decide +kernel
theorem dX12_init_99 : decode cX12_init 99 = .ok (.sipush 1024, 3) := by decide +kernel
theorem dX12_init_102 : decode cX12_init 102 = .ok (.newarray .int, 2) := by decide +kernel
theorem dX12_init_104 : decode cX12_init 104 = .ok (.putfield 47, 3) := by decide +kernel
theorem dX12_init_107 : decode cX12_init 107 = .ok (.aload_n 0, 1) := by decide +kernel
theorem dX12_init_108 : decode cX12_init 108 = .ok (.bipush 6, 2) := by decide +kernel
theorem dX12_init_110 : decode cX12_init 110 = .ok (.newarray .int, 2) := by decide +kernel
theorem dX12_init_112 : decode cX12_init 112 = .ok (.putfield 50, 3) := by decide +kernel
theorem dX12_init_115 : decode cX12_init 115 = .ok (.aload_n 0, 1) := by decide +kernel
theorem dX12_init_116 : decode cX12_init 116 = .ok (.bipush 24, 2) := by decide +kernel
theorem dX12_init_118 : decode cX12_init 118 = .ok (.newarray .int, 2) := by decide +kernel
theorem dX12_init_120 : decode cX12_init 120 = .ok (.putfield 53, 3) := by decide +kernel
theorem dX12_init_123 : decode cX12_init 123 = .ok (.aload_n 0, 1) := by decide +kernel
theorem dX12_init_124 : decode cX12_init 124 = .ok (.bipush 15, 2) := by decide +kernel
theorem dX12_init_126 : decode cX12_init 126 = .ok (.newarray .int, 2) := by decide +kernel
theorem dX12_init_128 : decode cX12_init 128 = .ok (.putfield 56, 3) := by decide +kernel
theorem dX12_init_131 : decode cX12_init 131 = .ok (.aload_n 0, 1) := by decide +kernel
theorem dX12_init_132 : decode cX12_init 132 = .ok (.bipush 15, 2) := by decide +kernel
theorem dX12_init_134 : decode cX12_init 134 = .ok (.newarray .int, 2) := by decide +kernel
theorem dX12_init_136 : decode cX12_init 136 = .ok (.putfield 59, 3) := by decide +kernel
theorem dX12_init_139 : decode cX12_init 139 = .ok (.aload_n 0, 1) := by decide +kernel
theorem dX12_init_140 : decode cX12_init 140 = .ok (.bipush 62, 2) := by decide +kernel
theorem dX12_init_142 : decode cX12_init 142 = .ok (.newarray .int, 2) := by decide +kernel
theorem dX12_init_144 : decode cX12_init 144 = .ok (.putfield 62, 3) := by decide +kernel
theorem dX12_init_147 : decode cX12_init 147 = .ok (.aload_n 0, 1) := by decide +kernel
theorem dX12_init_148 : decode cX12_init 148 = .ok (.iconst 2, 1) := by decide +kernel
theorem dX12_init_149 : decode cX12_init 149 = .ok (.newarray .boolean, 2) := by decide +kernel
theorem dX12_init_151 : decode cX12_init 151 = .ok (.putfield 65, 3) := by decide +kernel
theorem dX12_init_154 : decode cX12_init 154 = .ok (.aload_n 0, 1) := by decide +kernel
theorem dX12_init_155 : decode cX12_init 155 = .ok (.iconst 0, 1) := by decide +kernel
theorem dX12_init_156 : decode cX12_init 156 = .ok (.putfield 69, 3) := by decide +kernel
theorem dX12_init_159 : decode cX12_init 159 = .ok (.return_, 1) := by decide +kernel
theorem dX12_in_0 : decode cX12_in 0 = .ok (.lload_n 0, 1) := by decide +kernel
theorem dX12_in_1 : decode cX12_in 1 = .ok (.lload_n 2, 1) := by decide +kernel
theorem dX12_in_2 : decode cX12_in 2 = .ok (.lcmp, 1) := by decide +kernel
theorem dX12_in_3 : decode cX12_in 3 = .ok (.ifCond .lt 14, 3) := by decide +kernel
theorem dX12_in_6 : decode cX12_in 6 = .ok (.lload_n 0, 1) := by decide +kernel
theorem dX12_in_7 : decode cX12_in 7 = .ok (.lload 4, 2) := by decide +kernel
theorem dX12_in_9 : decode cX12_in 9 = .ok (.lcmp, 1) := by decide +kernel
theorem dX12_in_10 : decode cX12_in 10 = .ok (.ifCond .gt 7, 3) := by decide +kernel
theorem dX12_in_13 : decode cX12_in 13 = .ok (.iconst 1, 1) := by decide +kernel
theorem dX12_in_14 : decode cX12_in 14 = .ok (.goto 4, 3) := by decide +kernel
theorem dX12_in_17 : decode cX12_in 17 = .ok (.iconst 0, 1) := by decide +kernel
theorem dX12_in_18 : decode cX12_in 18 = .ok (.ireturn, 1) := by decide +kernel
theorem dX12_has_0 : decode cX12_has 0 = .ok (.iload_n 0, 1) := by decide +kernel
theorem dX12_has_1 : decode cX12_has 1 = .ok (.iload_n 1, 1) := by decide +kernel
theorem dX12_has_2 : decode cX12_has 2 = .ok (.ishr, 1) := by decide +kernel
theorem dX12_has_3 : decode cX12_has 3 = .ok (.iconst 1, 1) := by decide +kernel
theorem dX12_has_4 : decode cX12_has 4 = .ok (.iand, 1) := by decide +kernel
theorem dX12_has_5 : decode cX12_has 5 = .ok (.iconst 1, 1) := by decide +kernel
theorem dX12_has_6 : decode cX12_has 6 = .ok (.if_icmp .ne 7, 3) := by decide +kernel
theorem dX12_has_9 : decode cX12_has 9 = .ok (.iconst 1, 1) := by decide +kernel
theorem dX12_has_10 : decode cX12_has 10 = .ok (.goto 4, 3) := by decide +kernel
theorem dX12_has_13 : decode cX12_has 13 = .ok (.iconst 0, 1) := by decide +kernel
theorem dX12_has_14 : decode cX12_has 14 = .ok (.ireturn, 1) := by decide +kernel
theorem dX12_isHills_0 : decode cX12_isHills 0 = .ok (.aload_n 0, 1) := by decide +kernel
theorem dX12_isHills_1 : decode cX12_isHills 1 = .ok (.getfield 69, 3) := by decide +kernel
theorem dX12_isHills_4 : decode cX12_isHills 4 = .ok (.ifCond .le 7, 3) := by decide +kernel
theorem dX12_isHills_7 : decode cX12_isHills 7 = .ok (.iconst 1, 1) := by decide +kernel
theorem dX12_isHills_8 : decode cX12_isHills 8 = .ok (.goto 4, 3) := by decide +kernel
theorem dX12_isHills_11 : decode cX12_isHills 11 = .ok (.iconst 0, 1) := by decide +kernel
theorem dX12_isHills_12 : decode cX12_isHills 12 = .ok (.ireturn, 1) := by decide +kernel
theorem dX12_isPerson_0 : decode cX12_isPerson 0 = .ok (.iload_n 1, 1) := by decide +kernel
theorem dX12_isPerson_1 : decode cX12_isPerson 1 = .ok (.i2l, 1) := by decide +kernel
theorem dX12_isPerson_2 : decode cX12_isPerson 2 = .ok (.lconst 0, 1) := by decide +kernel
theorem dX12_isPerson_3 : decode cX12_isPerson 3 = .ok (.aload_n 0, 1) := by decide +kernel
theorem dX12_isPerson_4 : decode cX12_isPerson 4 = .ok (.getfield 72, 3) := by decide +kernel
theorem dX12_isPerson_7 : decode cX12_isPerson 7 = .ok (.iconst 1, 1) := by decide +kernel
theorem dX12_isPerson_8 : decode cX12_isPerson 8 = .ok (.isub, 1) := by decide +kernel
theorem dX12_isPerson_9 : decode cX12_isPerson 9 = .ok (.i2l, 1) := by decide +kernel
theorem dX12_isPerson_10 : decode cX12_isPerson 10 = .ok (.invokestatic 75, 3) := by decide +kernel
theorem dX12_isPerson_13 : decode cX12_isPerson 13 = .ok (.ireturn, 1) := by decide +kernel
theorem dX12_isVillage_0 : decode cX12_isVillage 0 = .ok (.iload_n 1, 1) := by decide +kernel
theorem dX12_isVillage_1 : decode cX12_isVillage 1 = .ok (.i2l, 1) := by decide +kernel
theorem dX12_isVillage_2 : decode cX12_isVillage 2 = .ok (.lconst 0, 1) := by decide +kernel
theorem dX12_isVillage_3 : decode cX12_isVillage 3 = .ok (.aload_n 0, 1) := by decide +kernel
theorem dX12_isVillage_4 : decode cX12_isVillage 4 = .ok (.getfield 79, 3) := by decide +kernel
theorem dX12_isVillage_7 : decode cX12_isVillage 7 = .ok (.iconst 1, 1) := by decide +kernel
theorem dX12_isVillage_8 : decode cX12_isVillage 8 = .ok (.isub, 1) := by decide +kernel
theorem dX12_isVillage_9 : decode cX12_isVillage 9 = .ok (.i2l, 1) := by decide +kernel
theorem dX12_isVillage_10 : decode cX12_isVillage 10 = .ok (.invokestatic 75, 3) := by decide +kernel
theorem dX12_isVillage_13 : decode cX12_isVillage 13 = .ok (.ireturn, 1) := by decide +kernel
theorem dX12_feed_0 : decode cX12_feed 0 = .ok (.iload_n 1, 1) := by decide +kernel
theorem dX12_feed_1 : decode cX12_feed 1 = .ok (.i2l, 1) := by decide +kernel
theorem dX12_feed_2 : decode cX12_feed 2 = .ok (.lconst 0, 1) := by decide +kernel
theorem dX12_feed_3 : decode cX12_feed 3 = .ok (.ldc2_w 82, 3) := by decide +kernel
theorem dX12_feed_6 : decode cX12_feed 6 = .ok (.invokestatic 75, 3) := by decide +kernel
theorem dX12_feed_9 : decode cX12_feed 9 = .ok (.ifCond .ne 6, 3) := by decide +kernel
theorem dX12_feed_12 : decode cX12_feed 12 = .ok (.ldc 84, 2) := by decide +kernel
theorem dX12_feed_14 : decode cX12_feed 14 = .ok (.ireturn, 1) := by decide +kernel
theorem dX12_feed_15 : decode cX12_feed 15 = .ok (.aload_n 0, 1) := by decide +kernel
theorem dX12_feed_16 : decode cX12_feed 16 = .ok (.getfield 85, 3) := by decide +kernel
theorem dX12_feed_19 : decode cX12_feed 19 = .ok (.sipush 240, 3) := by decide +kernel
theorem dX12_feed_22 : decode cX12_feed 22 = .ok (.if_icmp .ne 6, 3) := by decide +kernel
theorem dX12_feed_25 : decode cX12_feed 25 = .ok (.ldc 88, 2) := by decide +kernel
theorem dX12_feed_27 : decode cX12_feed 27 = .ok (.ireturn, 1) := by decide +kernel
theorem dX12_feed_28 : decode cX12_feed 28 = .ok (.aload_n 0, 1) := by decide +kernel
theorem dX12_feed_29 : decode cX12_feed 29 = .ok (.getfield 22, 3) := by decide +kernel
theorem dX12_feed_32 : decode cX12_feed 32 = .ok (.aload_n 0, 1) := by decide +kernel
theorem dX12_feed_33 : decode cX12_feed 33 = .ok (.getfield 85, 3) := by decide +kernel
theorem dX12_feed_36 : decode cX12_feed 36 = .ok (.iload_n 1, 1) := by decide +kernel
theorem dX12_feed_37 : decode cX12_feed 37 = .ok (.iastore, 1) := by decide +kernel
theorem dX12_feed_38 : decode cX12_feed 38 = .ok (.aload_n 0, 1) := by decide +kernel
theorem dX12_feed_39 : decode cX12_feed 39 = .ok (.dup, 1) := by decide +kernel
theorem dX12_feed_40 : decode cX12_feed 40 = .ok (.getfield 85, 3) := by decide +kernel
end
section
theorem dX12_feed_43 : decode cX12_feed 43 = .ok (.iconst 1, 1) := by decide +kernel
theorem dX12_feed_44 : decode cX12_feed 44 = .ok (.iadd, 1) := by decide +kernel
theorem dX12_feed_45 : decode cX12_feed 45 = .ok (.putfield 85, 3) := by decide +kernel
theorem dX12_feed_48 : decode cX12_feed 48 = .ok (.aload_n 0, 1) := by decide +kernel
theorem dX12_feed_49 : decode cX12_feed 49 = .ok (.getfield 85, 3) := by decide +kernel
theorem dX12_feed_52 : decode cX12_feed 52 = .ok (.ireturn, 1) := by decide +kernel
theorem dX12_here_0 : decode cX12_here 0 = .ok (.aload_n 0, 1) := by decide +kernel
theorem dX12_here_1 : decode cX12_here 1 = .ok (.getfield 89, 3) := by decide +kernel
theorem dX12_here_4 : decode cX12_here 4 = .ok (.aload_n 0, 1) := by decide +kernel
theorem dX12_here_5 : decode cX12_here 5 = .ok (.getfield 85, 3) := by decide +kernel
theorem dX12_here_8 : decode cX12_here 8 = .ok (.if_icmp .ge 30, 3) := by decide +kernel
theorem dX12_here_11 : decode cX12_here 11 = .ok (.aload_n 0, 1) := by decide +kernel
theorem dX12_here_12 : decode cX12_here 12 = .ok (.getfield 22, 3) := by decide +kernel
theorem dX12_here_15 : decode cX12_here 15 = .ok (.aload_n 0, 1) := by decide +kernel
theorem dX12_here_16 : decode cX12_here 16 = .ok (.getfield 89, 3) := by decide +kernel
theorem dX12_here_19 : decode cX12_here 19 = .ok (.iaload, 1) := by decide +kernel
theorem dX12_here_20 : decode cX12_here 20 = .ok (.bipush 32, 2) := by decide +kernel
theorem dX12_here_22 : decode cX12_here 22 = .ok (.if_icmp .ne 16, 3) := by decide +kernel
theorem dX12_here_25 : decode cX12_here 25 = .ok (.aload_n 0, 1) := by decide +kernel
theorem dX12_here_26 : decode cX12_here 26 = .ok (.dup, 1) := by decide +kernel
theorem dX12_here_27 : decode cX12_here 27 = .ok (.getfield 89, 3) := by decide +kernel
theorem dX12_here_30 : decode cX12_here 30 = .ok (.iconst 1, 1) := by decide +kernel
theorem dX12_here_31 : decode cX12_here 31 = .ok (.iadd, 1) := by decide +kernel
theorem dX12_here_32 : decode cX12_here 32 = .ok (.putfield 89, 3) := by decide +kernel
theorem dX12_here_35 : decode cX12_here 35 = .ok (.goto (-35), 3) := by decide +kernel
theorem dX12_here_38 : decode cX12_here 38 = .ok (.aload_n 0, 1) := by decide +kernel
theorem dX12_here_39 : decode cX12_here 39 = .ok (.getfield 89, 3) := by decide +kernel
theorem dX12_here_42 : decode cX12_here 42 = .ok (.aload_n 0, 1) := by decide +kernel
theorem dX12_here_43 : decode cX12_here 43 = .ok (.getfield 85, 3) := by decide +kernel
theorem dX12_here_46 : decode cX12_here 46 = .ok (.if_icmp .ge 15, 3) := by decide +kernel
theorem dX12_here_49 : decode cX12_here 49 = .ok (.aload_n 0, 1) := by decide +kernel
theorem dX12_here_50 : decode cX12_here 50 = .ok (.getfield 22, 3) := by decide +kernel
theorem dX12_here_53 : decode cX12_here 53 = .ok (.aload_n 0, 1) := by decide +kernel
theorem dX12_here_54 : decode cX12_here 54 = .ok (.getfield 89, 3) := by decide +kernel
theorem dX12_here_57 : decode cX12_here 57 = .ok (.iaload, 1) := by decide +kernel
theorem dX12_here_58 : decode cX12_here 58 = .ok (.goto 4, 3) := by decide +kernel
theorem dX12_here_61 : decode cX12_here 61 = .ok (.iconst (-1), 1) := by decide +kernel
theorem dX12_here_62 : decode cX12_here 62 = .ok (.ireturn, 1) := by decide +kernel
theorem dX12_fails_0 : decode cX12_fails 0 = .ok (.aload_n 0, 1) := by decide +kernel
theorem dX12_fails_1 : decode cX12_fails 1 = .ok (.iload_n 2, 1) := by decide +kernel
theorem dX12_fails_2 : decode cX12_fails 2 = .ok (.putfield 25, 3) := by decide +kernel
theorem dX12_fails_5 : decode cX12_fails 5 = .ok (.iload_n 1, 1) := by decide +kernel
theorem dX12_fails_6 : decode cX12_fails 6 = .ok (.ireturn, 1) := by decide +kernel
theorem dX12_takeNumber_0 : decode cX12_takeNumber 0 = .ok (.aload_n 0, 1) := by decide +kernel
theorem dX12_takeNumber_1 : decode cX12_takeNumber 1 = .ok (.invokevirtual 92, 3) := by decide +kernel
theorem dX12_takeNumber_4 : decode cX12_takeNumber 4 = .ok (.i2l, 1) := by decide +kernel
theorem dX12_takeNumber_5 : decode cX12_takeNumber 5 = .ok (.ldc2_w 96, 3) := by decide +kernel
theorem dX12_takeNumber_8 : decode cX12_takeNumber 8 = .ok (.ldc2_w 98, 3) := by decide +kernel
theorem dX12_takeNumber_11 : decode cX12_takeNumber 11 = .ok (.invokestatic 75, 3) := by decide +kernel
theorem dX12_takeNumber_14 : decode cX12_takeNumber 14 = .ok (.ifCond .ne 13, 3) := by decide +kernel
theorem dX12_takeNumber_17 : decode cX12_takeNumber 17 = .ok (.aload_n 0, 1) := by decide +kernel
theorem dX12_takeNumber_18 : decode cX12_takeNumber 18 = .ok (.iconst 1, 1) := by decide +kernel
theorem dX12_takeNumber_19 : decode cX12_takeNumber 19 = .ok (.aload_n 0, 1) := by decide +kernel
theorem dX12_takeNumber_20 : decode cX12_takeNumber 20 = .ok (.getfield 89, 3) := by decide +kernel
theorem dX12_takeNumber_23 : decode cX12_takeNumber 23 = .ok (.invokevirtual 100, 3) := by decide +kernel
theorem dX12_takeNumber_26 : decode cX12_takeNumber 26 = .ok (.ireturn, 1) := by decide +kernel
theorem dX12_takeNumber_27 : decode cX12_takeNumber 27 = .ok (.aload_n 0, 1) := by decide +kernel
theorem dX12_takeNumber_28 : decode cX12_takeNumber 28 = .ok (.getfield 89, 3) := by decide +kernel
theorem dX12_takeNumber_31 : decode cX12_takeNumber 31 = .ok (.istore_n 3, 1) := by decide +kernel
theorem dX12_takeNumber_32 : decode cX12_takeNumber 32 = .ok (.aload_n 0, 1) := by decide +kernel
theorem dX12_takeNumber_33 : decode cX12_takeNumber 33 = .ok (.iconst 0, 1) := by decide +kernel
theorem dX12_takeNumber_34 : decode cX12_takeNumber 34 = .ok (.putfield 104, 3) := by decide +kernel
theorem dX12_takeNumber_37 : decode cX12_takeNumber 37 = .ok (.aload_n 0, 1) := by decide +kernel
theorem dX12_takeNumber_38 : decode cX12_takeNumber 38 = .ok (.getfield 89, 3) := by decide +kernel
theorem dX12_takeNumber_41 : decode cX12_takeNumber 41 = .ok (.aload_n 0, 1) := by decide +kernel
theorem dX12_takeNumber_42 : decode cX12_takeNumber 42 = .ok (.getfield 85, 3) := by decide +kernel
theorem dX12_takeNumber_45 : decode cX12_takeNumber 45 = .ok (.if_icmp .ge 79, 3) := by decide +kernel
theorem dX12_takeNumber_48 : decode cX12_takeNumber 48 = .ok (.aload_n 0, 1) := by decide +kernel
theorem dX12_takeNumber_49 : decode cX12_takeNumber 49 = .ok (.getfield 22, 3) := by decide +kernel
theorem dX12_takeNumber_52 : decode cX12_takeNumber 52 = .ok (.aload_n 0, 1) := by decide +kernel
theorem dX12_takeNumber_53 : decode cX12_takeNumber 53 = .ok (.getfield 89, 3) := by decide +kernel
theorem dX12_takeNumber_56 : decode cX12_takeNumber 56 = .ok (.iaload, 1) := by decide +kernel
theorem dX12_takeNumber_57 : decode cX12_takeNumber 57 = .ok (.i2l, 1) := by decide +kernel
theorem dX12_takeNumber_58 : decode cX12_takeNumber 58 = .ok (.ldc2_w 96, 3) := by decide +kernel
theorem dX12_takeNumber_61 : decode cX12_takeNumber 61 = .ok (.ldc2_w 98, 3) := by decide +kernel
theorem dX12_takeNumber_64 : decode cX12_takeNumber 64 = .ok (.invokestatic 75, 3) := by decide +kernel
theorem dX12_takeNumber_67 : decode cX12_takeNumber 67 = .ok (.ifCond .eq 57, 3) := by decide +kernel
theorem dX12_takeNumber_70 : decode cX12_takeNumber 70 = .ok (.aload_n 0, 1) := by decide +kernel
theorem dX12_takeNumber_71 : decode cX12_takeNumber 71 = .ok (.aload_n 0, 1) := by decide +kernel
theorem dX12_takeNumber_72 : decode cX12_takeNumber 72 = .ok (.getfield 104, 3) := by decide +kernel
theorem dX12_takeNumber_75 : decode cX12_takeNumber 75 = .ok (.sipush 1000, 3) := by decide +kernel
theorem dX12_takeNumber_78 : decode cX12_takeNumber 78 = .ok (.if_icmp .le 10, 3) := by decide +kernel
theorem dX12_takeNumber_81 : decode cX12_takeNumber 81 = .ok (.aload_n 0, 1) := by decide +kernel
theorem dX12_takeNumber_82 : decode cX12_takeNumber 82 = .ok (.getfield 104, 3) := by decide +kernel
theorem dX12_takeNumber_85 : decode cX12_takeNumber 85 = .ok (.goto 23, 3) := by decide +kernel
theorem dX12_takeNumber_88 : decode cX12_takeNumber 88 = .ok (.bipush 10, 2) := by decide +kernel
theorem dX12_takeNumber_90 : decode cX12_takeNumber 90 = .ok (.aload_n 0, 1) := by decide +kernel
theorem dX12_takeNumber_91 : decode cX12_takeNumber 91 = .ok (.getfield 104, 3) := by decide +kernel
theorem dX12_takeNumber_94 : decode cX12_takeNumber 94 = .ok (.imul, 1) := by decide +kernel
theorem dX12_takeNumber_95 : decode cX12_takeNumber 95 = .ok (.aload_n 0, 1) := by decide +kernel
theorem dX12_takeNumber_96 : decode cX12_takeNumber 96 = .ok (.getfield 22, 3) := by decide +kernel
theorem dX12_takeNumber_99 : decode cX12_takeNumber 99 = .ok (.aload_n 0, 1) := by decide +kernel
theorem dX12_takeNumber_100 : decode cX12_takeNumber 100 = .ok (.getfield 89, 3) := by decide +kernel
theorem dX12_takeNumber_103 : decode cX12_takeNumber 103 = .ok (.iaload, 1) := by decide +kernel
theorem dX12_takeNumber_104 : decode cX12_takeNumber 104 = .ok (.iadd, 1) := by decide +kernel
theorem dX12_takeNumber_105 : decode cX12_takeNumber 105 = .ok (.bipush 48, 2) := by decide +kernel
theorem dX12_takeNumber_107 : decode cX12_takeNumber 107 = .ok (.isub, 1) := by decide +kernel
theorem dX12_takeNumber_108 : decode cX12_takeNumber 108 = .ok (.putfield 104, 3) := by decide +kernel
theorem dX12_takeNumber_111 : decode cX12_takeNumber 111 = .ok (.aload_n 0, 1) := by decide +kernel
theorem dX12_takeNumber_112 : decode cX12_takeNumber 112 = .ok (.dup, 1) := by decide +kernel
theorem dX12_takeNumber_113 : decode cX12_takeNumber 113 = .ok (.getfield 89, 3) := by decide +kernel
theorem dX12_takeNumber_116 : decode cX12_takeNumber 116 = .ok (.iconst 1, 1) := by decide +kernel
theorem dX12_takeNumber_117 : decode cX12_takeNumber 117 = .ok (.iadd, 1) := by decide +kernel
theorem dX12_takeNumber_118 : decode cX12_takeNumber 118 = .ok (.putfield 89, 3) := by decide +kernel
theorem dX12_takeNumber_121 : decode cX12_takeNumber 121 = .ok (.goto (-84), 3) := by decide +kernel
theorem dX12_takeNumber_124 : decode cX12_takeNumber 124 = .ok (.aload_n 0, 1) := by decide +kernel
theorem dX12_takeNumber_125 : decode cX12_takeNumber 125 = .ok (.getfield 89, 3) := by decide +kernel
theorem dX12_takeNumber_128 : decode cX12_takeNumber 128 = .ok (.iload_n 3, 1) := by decide +kernel
theorem dX12_takeNumber_129 : decode cX12_takeNumber 129 = .ok (.isub, 1) := by decide +kernel
theorem dX12_takeNumber_130 : decode cX12_takeNumber 130 = .ok (.iconst 3, 1) := by decide +kernel
theorem dX12_takeNumber_131 : decode cX12_takeNumber 131 = .ok (.if_icmp .gt 18, 3) := by decide +kernel
theorem dX12_takeNumber_134 : decode cX12_takeNumber 134 = .ok (.aload_n 0, 1) := by decide +kernel
theorem dX12_takeNumber_135 : decode cX12_takeNumber 135 = .ok (.getfield 104, 3) := by decide +kernel
theorem dX12_takeNumber_138 : decode cX12_takeNumber 138 = .ok (.i2l, 1) := by decide +kernel
theorem dX12_takeNumber_139 : decode cX12_takeNumber 139 = .ok (.iload_n 1, 1) := by decide +kernel
theorem dX12_takeNumber_140 : decode cX12_takeNumber 140 = .ok (.i2l, 1) := by decide +kernel
theorem dX12_takeNumber_141 : decode cX12_takeNumber 141 = .ok (.iload_n 2, 1) := by decide +kernel
theorem dX12_takeNumber_142 : decode cX12_takeNumber 142 = .ok (.i2l, 1) := by decide +kernel
theorem dX12_takeNumber_143 : decode cX12_takeNumber 143 = .ok (.invokestatic 75, 3) := by decide +kernel
theorem dX12_takeNumber_146 : decode cX12_takeNumber 146 = .ok (.ifCond .ne 12, 3) := by decide +kernel
theorem dX12_takeNumber_149 : decode cX12_takeNumber 149 = .ok (.aload_n 0, 1) := by decide +kernel
theorem dX12_takeNumber_150 : decode cX12_takeNumber 150 = .ok (.iconst 2, 1) := by decide +kernel
theorem dX12_takeNumber_151 : decode cX12_takeNumber 151 = .ok (.iload_n 3, 1) := by decide +kernel
theorem dX12_takeNumber_152 : decode cX12_takeNumber 152 = .ok (.invokevirtual 100, 3) := by decide +kernel
theorem dX12_takeNumber_155 : decode cX12_takeNumber 155 = .ok (.goto 4, 3) := by decide +kernel
theorem dX12_takeNumber_158 : decode cX12_takeNumber 158 = .ok (.iconst 0, 1) := by decide +kernel
theorem dX12_takeNumber_159 : decode cX12_takeNumber 159 = .ok (.ireturn, 1) := by decide +kernel
theorem dX12_takeOracle_0 : decode cX12_takeOracle 0 = .ok (.aload_n 0, 1) := by decide +kernel
theorem dX12_takeOracle_1 : decode cX12_takeOracle 1 = .ok (.iconst 1, 1) := by decide +kernel
theorem dX12_takeOracle_2 : decode cX12_takeOracle 2 = .ok (.bipush 20, 2) := by decide +kernel
theorem dX12_takeOracle_4 : decode cX12_takeOracle 4 = .ok (.invokevirtual 107, 3) := by decide +kernel
theorem dX12_takeOracle_7 : decode cX12_takeOracle 7 = .ok (.istore_n 1, 1) := by decide +kernel
theorem dX12_takeOracle_8 : decode cX12_takeOracle 8 = .ok (.iload_n 1, 1) := by decide +kernel
theorem dX12_takeOracle_9 : decode cX12_takeOracle 9 = .ok (.ifCond .le 5, 3) := by decide +kernel
theorem dX12_takeOracle_12 : decode cX12_takeOracle 12 = .ok (.iload_n 1, 1) := by decide +kernel
theorem dX12_takeOracle_13 : decode cX12_takeOracle 13 = .ok (.ireturn, 1) := by decide +kernel
theorem dX12_takeOracle_14 : decode cX12_takeOracle 14 = .ok (.aload_n 0, 1) := by decide +kernel
theorem dX12_takeOracle_15 : decode cX12_takeOracle 15 = .ok (.aload_n 0, 1) := by decide +kernel
theorem dX12_takeOracle_16 : decode cX12_takeOracle 16 = .ok (.getfield 104, 3) := by decide +kernel
theorem dX12_takeOracle_19 : decode cX12_takeOracle 19 = .ok (.putfield 110, 3) := by decide +kernel
theorem dX12_takeOracle_22 : decode cX12_takeOracle 22 = .ok (.aload_n 0, 1) := by decide +kernel
theorem dX12_takeOracle_23 : decode cX12_takeOracle 23 = .ok (.iconst 1, 1) := by decide +kernel
theorem dX12_takeOracle_24 : decode cX12_takeOracle 24 = .ok (.bipush 9, 2) := by decide +kernel
theorem dX12_takeOracle_26 : decode cX12_takeOracle 26 = .ok (.invokevirtual 107, 3) := by decide +kernel
theorem dX12_takeOracle_29 : decode cX12_takeOracle 29 = .ok (.istore_n 1, 1) := by decide +kernel
theorem dX12_takeOracle_30 : decode cX12_takeOracle 30 = .ok (.aload_n 0, 1) := by decide +kernel
theorem dX12_takeOracle_31 : decode cX12_takeOracle 31 = .ok (.aload_n 0, 1) := by decide +kernel
theorem dX12_takeOracle_32 : decode cX12_takeOracle 32 = .ok (.getfield 104, 3) := by decide +kernel
theorem dX12_takeOracle_35 : decode cX12_takeOracle 35 = .ok (.putfield 113, 3) := by decide +kernel
theorem dX12_takeOracle_38 : decode cX12_takeOracle 38 = .ok (.iload_n 1, 1) := by decide +kernel
theorem dX12_takeOracle_39 : decode cX12_takeOracle 39 = .ok (.ireturn, 1) := by decide +kernel
theorem dX12_takeVillage_0 : decode cX12_takeVillage 0 = .ok (.aload_n 0, 1) := by decide +kernel
theorem dX12_takeVillage_1 : decode cX12_takeVillage 1 = .ok (.iconst 0, 1) := by decide +kernel
theorem dX12_takeVillage_2 : decode cX12_takeVillage 2 = .ok (.bipush 99, 2) := by decide +kernel
theorem dX12_takeVillage_4 : decode cX12_takeVillage 4 = .ok (.invokevirtual 107, 3) := by decide +kernel
theorem dX12_takeVillage_7 : decode cX12_takeVillage 7 = .ok (.istore_n 1, 1) := by decide +kernel
theorem dX12_takeVillage_8 : decode cX12_takeVillage 8 = .ok (.aload_n 0, 1) := by decide +kernel
theorem dX12_takeVillage_9 : decode cX12_takeVillage 9 = .ok (.getfield 29, 3) := by decide +kernel
theorem dX12_takeVillage_12 : decode cX12_takeVillage 12 = .ok (.aload_n 0, 1) := by decide +kernel
theorem dX12_takeVillage_13 : decode cX12_takeVillage 13 = .ok (.getfield 116, 3) := by decide +kernel
theorem dX12_takeVillage_16 : decode cX12_takeVillage 16 = .ok (.aload_n 0, 1) := by decide +kernel
theorem dX12_takeVillage_17 : decode cX12_takeVillage 17 = .ok (.getfield 104, 3) := by decide +kernel
theorem dX12_takeVillage_20 : decode cX12_takeVillage 20 = .ok (.iastore, 1) := by decide +kernel
theorem dX12_takeVillage_21 : decode cX12_takeVillage 21 = .ok (.aload_n 0, 1) := by decide +kernel
theorem dX12_takeVillage_22 : decode cX12_takeVillage 22 = .ok (.dup, 1) := by decide +kernel
theorem dX12_takeVillage_23 : decode cX12_takeVillage 23 = .ok (.getfield 116, 3) := by decide +kernel
theorem dX12_takeVillage_26 : decode cX12_takeVillage 26 = .ok (.iload_n 1, 1) := by decide +kernel
theorem dX12_takeVillage_27 : decode cX12_takeVillage 27 = .ok (.ifCond .ne 7, 3) := by decide +kernel
theorem dX12_takeVillage_30 : decode cX12_takeVillage 30 = .ok (.iconst 1, 1) := by decide +kernel
theorem dX12_takeVillage_31 : decode cX12_takeVillage 31 = .ok (.goto 4, 3) := by decide +kernel
theorem dX12_takeVillage_34 : decode cX12_takeVillage 34 = .ok (.iconst 0, 1) := by decide +kernel
theorem dX12_takeVillage_35 : decode cX12_takeVillage 35 = .ok (.iadd, 1) := by decide +kernel
theorem dX12_takeVillage_36 : decode cX12_takeVillage 36 = .ok (.putfield 116, 3) := by decide +kernel
theorem dX12_takeVillage_39 : decode cX12_takeVillage 39 = .ok (.iload_n 1, 1) := by decide +kernel
theorem dX12_takeVillage_40 : decode cX12_takeVillage 40 = .ok (.ireturn, 1) := by decide +kernel
theorem dX12_takePerson_0 : decode cX12_takePerson 0 = .ok (.aload_n 0, 1) := by decide +kernel
theorem dX12_takePerson_1 : decode cX12_takePerson 1 = .ok (.getfield 119, 3) := by decide +kernel
theorem dX12_takePerson_4 : decode cX12_takePerson 4 = .ok (.istore_n 1, 1) := by decide +kernel
theorem dX12_takePerson_5 : decode cX12_takePerson 5 = .ok (.aload_n 0, 1) := by decide +kernel
theorem dX12_takePerson_6 : decode cX12_takePerson 6 = .ok (.iconst 0, 1) := by decide +kernel
theorem dX12_takePerson_7 : decode cX12_takePerson 7 = .ok (.iconst 3, 1) := by decide +kernel
theorem dX12_takePerson_8 : decode cX12_takePerson 8 = .ok (.invokevirtual 107, 3) := by decide +kernel
theorem dX12_takePerson_11 : decode cX12_takePerson 11 = .ok (.istore_n 2, 1) := by decide +kernel
theorem dX12_takePerson_12 : decode cX12_takePerson 12 = .ok (.aload_n 0, 1) := by decide +kernel
theorem dX12_takePerson_13 : decode cX12_takePerson 13 = .ok (.getfield 32, 3) := by decide +kernel
theorem dX12_takePerson_16 : decode cX12_takePerson 16 = .ok (.iload_n 1, 1) := by decide +kernel
theorem dX12_takePerson_17 : decode cX12_takePerson 17 = .ok (.aload_n 0, 1) := by decide +kernel
theorem dX12_takePerson_18 : decode cX12_takePerson 18 = .ok (.getfield 104, 3) := by decide +kernel
theorem dX12_takePerson_21 : decode cX12_takePerson 21 = .ok (.iastore, 1) := by decide +kernel
theorem dX12_takePerson_22 : decode cX12_takePerson 22 = .ok (.iload_n 2, 1) := by decide +kernel
theorem dX12_takePerson_23 : decode cX12_takePerson 23 = .ok (.ifCond .le 7, 3) := by decide +kernel
theorem dX12_takePerson_26 : decode cX12_takePerson 26 = .ok (.iload_n 2, 1) := by decide +kernel
theorem dX12_takePerson_27 : decode cX12_takePerson 27 = .ok (.goto 14, 3) := by decide +kernel
theorem dX12_takePerson_30 : decode cX12_takePerson 30 = .ok (.aload_n 0, 1) := by decide +kernel
theorem dX12_takePerson_31 : decode cX12_takePerson 31 = .ok (.iconst 0, 1) := by decide +kernel
theorem dX12_takePerson_32 : decode cX12_takePerson 32 = .ok (.aload_n 0, 1) := by decide +kernel
theorem dX12_takePerson_33 : decode cX12_takePerson 33 = .ok (.getfield 116, 3) := by decide +kernel
theorem dX12_takePerson_36 : decode cX12_takePerson 36 = .ok (.iconst 1, 1) := by decide +kernel
theorem dX12_takePerson_37 : decode cX12_takePerson 37 = .ok (.isub, 1) := by decide +kernel
theorem dX12_takePerson_38 : decode cX12_takePerson 38 = .ok (.invokevirtual 107, 3) := by decide +kernel
theorem dX12_takePerson_41 : decode cX12_takePerson 41 = .ok (.istore_n 2, 1) := by decide +kernel
theorem dX12_takePerson_42 : decode cX12_takePerson 42 = .ok (.aload_n 0, 1) := by decide +kernel
theorem dX12_takePerson_43 : decode cX12_takePerson 43 = .ok (.getfield 35, 3) := by decide +kernel
theorem dX12_takePerson_46 : decode cX12_takePerson 46 = .ok (.iload_n 1, 1) := by decide +kernel
theorem dX12_takePerson_47 : decode cX12_takePerson 47 = .ok (.aload_n 0, 1) := by decide +kernel
theorem dX12_takePerson_48 : decode cX12_takePerson 48 = .ok (.getfield 104, 3) := by decide +kernel
theorem dX12_takePerson_51 : decode cX12_takePerson 51 = .ok (.iastore, 1) := by decide +kernel
theorem dX12_takePerson_52 : decode cX12_takePerson 52 = .ok (.iload_n 2, 1) := by decide +kernel
theorem dX12_takePerson_53 : decode cX12_takePerson 53 = .ok (.ifCond .le 7, 3) := by decide +kernel
theorem dX12_takePerson_56 : decode cX12_takePerson 56 = .ok (.iload_n 2, 1) := by decide +kernel
theorem dX12_takePerson_57 : decode cX12_takePerson 57 = .ok (.goto 10, 3) := by decide +kernel
theorem dX12_takePerson_60 : decode cX12_takePerson 60 = .ok (.aload_n 0, 1) := by decide +kernel
theorem dX12_takePerson_61 : decode cX12_takePerson 61 = .ok (.iconst 1, 1) := by decide +kernel
theorem dX12_takePerson_62 : decode cX12_takePerson 62 = .ok (.bipush 9, 2) := by decide +kernel
theorem dX12_takePerson_64 : decode cX12_takePerson 64 = .ok (.invokevirtual 107, 3) := by decide +kernel
theorem dX12_takePerson_67 : decode cX12_takePerson 67 = .ok (.istore_n 2, 1) := by decide +kernel
theorem dX12_takePerson_68 : decode cX12_takePerson 68 = .ok (.aload_n 0, 1) := by decide +kernel
theorem dX12_takePerson_69 : decode cX12_takePerson 69 = .ok (.getfield 38, 3) := by decide +kernel
theorem dX12_takePerson_72 : decode cX12_takePerson 72 = .ok (.iload_n 1, 1) := by decide +kernel
theorem dX12_takePerson_73 : decode cX12_takePerson 73 = .ok (.aload_n 0, 1) := by decide +kernel
theorem dX12_takePerson_74 : decode cX12_takePerson 74 = .ok (.getfield 104, 3) := by decide +kernel
theorem dX12_takePerson_77 : decode cX12_takePerson 77 = .ok (.iastore, 1) := by decide +kernel
theorem dX12_takePerson_78 : decode cX12_takePerson 78 = .ok (.iload_n 2, 1) := by decide +kernel
theorem dX12_takePerson_79 : decode cX12_takePerson 79 = .ok (.ifCond .le 5, 3) := by decide +kernel
theorem dX12_takePerson_82 : decode cX12_takePerson 82 = .ok (.iload_n 2, 1) := by decide +kernel
theorem dX12_takePerson_83 : decode cX12_takePerson 83 = .ok (.ireturn, 1) := by decide +kernel
theorem dX12_takePerson_84 : decode cX12_takePerson 84 = .ok (.aload_n 0, 1) := by decide +kernel
theorem dX12_takePerson_85 : decode cX12_takePerson 85 = .ok (.invokevirtual 92, 3) := by decide +kernel
theorem dX12_takePerson_88 : decode cX12_takePerson 88 = .ok (.istore_n 3, 1) := by decide +kernel
theorem dX12_takePerson_89 : decode cX12_takePerson 89 = .ok (.aload_n 0, 1) := by decide +kernel
theorem dX12_takePerson_90 : decode cX12_takePerson 90 = .ok (.getfield 89, 3) := by decide +kernel
theorem dX12_takePerson_93 : decode cX12_takePerson 93 = .ok (.istore 4, 2) := by decide +kernel
theorem dX12_takePerson_95 : decode cX12_takePerson 95 = .ok (.aload_n 0, 1) := by decide +kernel
theorem dX12_takePerson_96 : decode cX12_takePerson 96 = .ok (.iconst 0, 1) := by decide +kernel
theorem dX12_takePerson_97 : decode cX12_takePerson 97 = .ok (.bipush 9, 2) := by decide +kernel
theorem dX12_takePerson_99 : decode cX12_takePerson 99 = .ok (.invokevirtual 107, 3) := by decide +kernel
theorem dX12_takePerson_102 : decode cX12_takePerson 102 = .ok (.istore_n 2, 1) := by decide +kernel
theorem dX12_takePerson_103 : decode cX12_takePerson 103 = .ok (.aload_n 0, 1) := by decide +kernel
theorem dX12_takePerson_104 : decode cX12_takePerson 104 = .ok (.getfield 41, 3) := by decide +kernel
theorem dX12_takePerson_107 : decode cX12_takePerson 107 = .ok (.iload_n 1, 1) := by decide +kernel
theorem dX12_takePerson_108 : decode cX12_takePerson 108 = .ok (.aload_n 0, 1) := by decide +kernel
theorem dX12_takePerson_109 : decode cX12_takePerson 109 = .ok (.getfield 104, 3) := by decide +kernel
theorem dX12_takePerson_112 : decode cX12_takePerson 112 = .ok (.iastore, 1) := by decide +kernel
theorem dX12_takePerson_113 : decode cX12_takePerson 113 = .ok (.iload_n 2, 1) := by decide +kernel
theorem dX12_takePerson_114 : decode cX12_takePerson 114 = .ok (.ifCond .ne 28, 3) := by decide +kernel
theorem dX12_takePerson_117 : decode cX12_takePerson 117 = .ok (.aload_n 0, 1) := by decide +kernel
theorem dX12_takePerson_118 : decode cX12_takePerson 118 = .ok (.getfield 104, 3) := by decide +kernel
theorem dX12_takePerson_121 : decode cX12_takePerson 121 = .ok (.i2l, 1) := by decide +kernel
theorem dX12_takePerson_122 : decode cX12_takePerson 122 = .ok (.ldc2_w 122, 3) := by decide +kernel
theorem dX12_takePerson_125 : decode cX12_takePerson 125 = .ok (.ldc2_w 124, 3) := by decide +kernel
theorem dX12_takePerson_128 : decode cX12_takePerson 128 = .ok (.invokestatic 75, 3) := by decide +kernel
theorem dX12_takePerson_131 : decode cX12_takePerson 131 = .ok (.ifCond .eq 11, 3) := by decide +kernel
theorem dX12_takePerson_134 : decode cX12_takePerson 134 = .ok (.aload_n 0, 1) := by decide +kernel
theorem dX12_takePerson_135 : decode cX12_takePerson 135 = .ok (.iconst 2, 1) := by decide +kernel
theorem dX12_takePerson_136 : decode cX12_takePerson 136 = .ok (.iload 4, 2) := by decide +kernel
theorem dX12_takePerson_138 : decode cX12_takePerson 138 = .ok (.invokevirtual 100, 3) := by decide +kernel
theorem dX12_takePerson_141 : decode cX12_takePerson 141 = .ok (.ireturn, 1) := by decide +kernel
theorem dX12_takePerson_142 : decode cX12_takePerson 142 = .ok (.aload_n 0, 1) := by decide +kernel
theorem dX12_takePerson_143 : decode cX12_takePerson 143 = .ok (.dup, 1) := by decide +kernel
theorem dX12_takePerson_144 : decode cX12_takePerson 144 = .ok (.getfield 119, 3) := by decide +kernel
theorem dX12_takePerson_147 : decode cX12_takePerson 147 = .ok (.iload_n 2, 1) := by decide +kernel
theorem dX12_takePerson_148 : decode cX12_takePerson 148 = .ok (.ifCond .ne 11, 3) := by decide +kernel
theorem dX12_takePerson_151 : decode cX12_takePerson 151 = .ok (.iload_n 3, 1) := by decide +kernel
theorem dX12_takePerson_152 : decode cX12_takePerson 152 = .ok (.ifCond .lt 7, 3) := by decide +kernel
theorem dX12_takePerson_155 : decode cX12_takePerson 155 = .ok (.iconst 1, 1) := by decide +kernel
theorem dX12_takePerson_156 : decode cX12_takePerson 156 = .ok (.goto 4, 3) := by decide +kernel
theorem dX12_takePerson_159 : decode cX12_takePerson 159 = .ok (.iconst 0, 1) := by decide +kernel
theorem dX12_takePerson_160 : decode cX12_takePerson 160 = .ok (.iadd, 1) := by decide +kernel
theorem dX12_takePerson_161 : decode cX12_takePerson 161 = .ok (.putfield 119, 3) := by decide +kernel
theorem dX12_takePerson_164 : decode cX12_takePerson 164 = .ok (.iload_n 2, 1) := by decide +kernel
theorem dX12_takePerson_165 : decode cX12_takePerson 165 = .ok (.ireturn, 1) := by decide +kernel
theorem dX12_takeClause_0 : decode cX12_takeClause 0 = .ok (.aload_n 0, 1) := by decide +kernel
theorem dX12_takeClause_1 : decode cX12_takeClause 1 = .ok (.invokevirtual 92, 3) := by decide +kernel
theorem dX12_takeClause_4 : decode cX12_takeClause 4 = .ok (.istore_n 1, 1) := by decide +kernel
theorem dX12_takeClause_5 : decode cX12_takeClause 5 = .ok (.aload_n 0, 1) := by decide +kernel
theorem dX12_takeClause_6 : decode cX12_takeClause 6 = .ok (.getfield 110, 3) := by decide +kernel
theorem dX12_takeClause_9 : decode cX12_takeClause 9 = .ok (.ifCond .ne 7, 3) := by decide +kernel
theorem dX12_takeClause_12 : decode cX12_takeClause 12 = .ok (.iconst 1, 1) := by decide +kernel
theorem dX12_takeClause_13 : decode cX12_takeClause 13 = .ok (.goto 4, 3) := by decide +kernel
theorem dX12_takeClause_16 : decode cX12_takeClause 16 = .ok (.iconst 0, 1) := by decide +kernel
theorem dX12_takeClause_17 : decode cX12_takeClause 17 = .ok (.istore_n 2, 1) := by decide +kernel
theorem dX12_takeClause_18 : decode cX12_takeClause 18 = .ok (.iload_n 1, 1) := by decide +kernel
theorem dX12_takeClause_19 : decode cX12_takeClause 19 = .ok (.bipush 111, 2) := by decide +kernel
theorem dX12_takeClause_21 : decode cX12_takeClause 21 = .ok (.if_icmp .eq 15, 3) := by decide +kernel
theorem dX12_takeClause_24 : decode cX12_takeClause 24 = .ok (.iload_n 1, 1) := by decide +kernel
theorem dX12_takeClause_25 : decode cX12_takeClause 25 = .ok (.bipush 118, 2) := by decide +kernel
theorem dX12_takeClause_27 : decode cX12_takeClause 27 = .ok (.if_icmp .eq 9, 3) := by decide +kernel
theorem dX12_takeClause_30 : decode cX12_takeClause 30 = .ok (.iload_n 1, 1) := by decide +kernel
theorem dX12_takeClause_31 : decode cX12_takeClause 31 = .ok (.bipush 112, 2) := by decide +kernel
theorem dX12_takeClause_33 : decode cX12_takeClause 33 = .ok (.if_icmp .ne 13, 3) := by decide +kernel
theorem dX12_takeClause_36 : decode cX12_takeClause 36 = .ok (.iload_n 2, 1) := by decide +kernel
theorem dX12_takeClause_37 : decode cX12_takeClause 37 = .ok (.ifCond .eq 19, 3) := by decide +kernel
theorem dX12_takeClause_40 : decode cX12_takeClause 40 = .ok (.iload_n 1, 1) := by decide +kernel
theorem dX12_takeClause_41 : decode cX12_takeClause 41 = .ok (.bipush 111, 2) := by decide +kernel
theorem dX12_takeClause_43 : decode cX12_takeClause 43 = .ok (.if_icmp .eq 13, 3) := by decide +kernel
theorem dX12_takeClause_46 : decode cX12_takeClause 46 = .ok (.aload_n 0, 1) := by decide +kernel
theorem dX12_takeClause_47 : decode cX12_takeClause 47 = .ok (.iconst 1, 1) := by decide +kernel
theorem dX12_takeClause_48 : decode cX12_takeClause 48 = .ok (.aload_n 0, 1) := by decide +kernel
theorem dX12_takeClause_49 : decode cX12_takeClause 49 = .ok (.getfield 89, 3) := by decide +kernel
theorem dX12_takeClause_52 : decode cX12_takeClause 52 = .ok (.invokevirtual 100, 3) := by decide +kernel
theorem dX12_takeClause_55 : decode cX12_takeClause 55 = .ok (.ireturn, 1) := by decide +kernel
theorem dX12_takeClause_56 : decode cX12_takeClause 56 = .ok (.iload_n 1, 1) := by decide +kernel
theorem dX12_takeClause_57 : decode cX12_takeClause 57 = .ok (.bipush 111, 2) := by decide +kernel
theorem dX12_takeClause_59 : decode cX12_takeClause 59 = .ok (.if_icmp .ne 7, 3) := by decide +kernel
theorem dX12_takeClause_62 : decode cX12_takeClause 62 = .ok (.iload_n 2, 1) := by decide +kernel
theorem dX12_takeClause_63 : decode cX12_takeClause 63 = .ok (.ifCond .eq 32, 3) := by decide +kernel
theorem dX12_takeClause_66 : decode cX12_takeClause 66 = .ok (.iload_n 1, 1) := by decide +kernel
theorem dX12_takeClause_67 : decode cX12_takeClause 67 = .ok (.bipush 118, 2) := by decide +kernel
theorem dX12_takeClause_69 : decode cX12_takeClause 69 = .ok (.if_icmp .ne 11, 3) := by decide +kernel
theorem dX12_takeClause_72 : decode cX12_takeClause 72 = .ok (.aload_n 0, 1) := by decide +kernel
theorem dX12_takeClause_73 : decode cX12_takeClause 73 = .ok (.getfield 116, 3) := by decide +kernel
theorem dX12_takeClause_76 : decode cX12_takeClause 76 = .ok (.iconst 4, 1) := by decide +kernel
theorem dX12_takeClause_77 : decode cX12_takeClause 77 = .ok (.if_icmp .eq 18, 3) := by decide +kernel
theorem dX12_takeClause_80 : decode cX12_takeClause 80 = .ok (.iload_n 1, 1) := by decide +kernel
theorem dX12_takeClause_81 : decode cX12_takeClause 81 = .ok (.bipush 112, 2) := by decide +kernel
theorem dX12_takeClause_83 : decode cX12_takeClause 83 = .ok (.if_icmp .ne 22, 3) := by decide +kernel
theorem dX12_takeClause_86 : decode cX12_takeClause 86 = .ok (.aload_n 0, 1) := by decide +kernel
theorem dX12_takeClause_87 : decode cX12_takeClause 87 = .ok (.getfield 119, 3) := by decide +kernel
theorem dX12_takeClause_90 : decode cX12_takeClause 90 = .ok (.bipush 7, 2) := by decide +kernel
theorem dX12_takeClause_92 : decode cX12_takeClause 92 = .ok (.if_icmp .ne 13, 3) := by decide +kernel
theorem dX12_takeClause_95 : decode cX12_takeClause 95 = .ok (.aload_n 0, 1) := by decide +kernel
theorem dX12_takeClause_96 : decode cX12_takeClause 96 = .ok (.iconst 3, 1) := by decide +kernel
theorem dX12_takeClause_97 : decode cX12_takeClause 97 = .ok (.aload_n 0, 1) := by decide +kernel
theorem dX12_takeClause_98 : decode cX12_takeClause 98 = .ok (.getfield 89, 3) := by decide +kernel
theorem dX12_takeClause_101 : decode cX12_takeClause 101 = .ok (.invokevirtual 100, 3) := by decide +kernel
theorem dX12_takeClause_104 : decode cX12_takeClause 104 = .ok (.ireturn, 1) := by decide +kernel
theorem dX12_takeClause_105 : decode cX12_takeClause 105 = .ok (.aload_n 0, 1) := by decide +kernel
theorem dX12_takeClause_106 : decode cX12_takeClause 106 = .ok (.dup, 1) := by decide +kernel
theorem dX12_takeClause_107 : decode cX12_takeClause 107 = .ok (.getfield 89, 3) := by decide +kernel
theorem dX12_takeClause_110 : decode cX12_takeClause 110 = .ok (.iconst 1, 1) := by decide +kernel
theorem dX12_takeClause_111 : decode cX12_takeClause 111 = .ok (.iadd, 1) := by decide +kernel
theorem dX12_takeClause_112 : decode cX12_takeClause 112 = .ok (.putfield 89, 3) := by decide +kernel
theorem dX12_takeClause_115 : decode cX12_takeClause 115 = .ok (.iload_n 1, 1) := by decide +kernel
theorem dX12_takeClause_116 : decode cX12_takeClause 116 = .ok (.bipush 111, 2) := by decide +kernel
theorem dX12_takeClause_118 : decode cX12_takeClause 118 = .ok (.if_icmp .ne 10, 3) := by decide +kernel
theorem dX12_takeClause_121 : decode cX12_takeClause 121 = .ok (.aload_n 0, 1) := by decide +kernel
theorem dX12_takeClause_122 : decode cX12_takeClause 122 = .ok (.invokevirtual 126, 3) := by decide +kernel
theorem dX12_takeClause_125 : decode cX12_takeClause 125 = .ok (.goto 20, 3) := by decide +kernel
theorem dX12_takeClause_128 : decode cX12_takeClause 128 = .ok (.iload_n 1, 1) := by decide +kernel
theorem dX12_takeClause_129 : decode cX12_takeClause 129 = .ok (.bipush 118, 2) := by decide +kernel
theorem dX12_takeClause_131 : decode cX12_takeClause 131 = .ok (.if_icmp .ne 10, 3) := by decide +kernel
theorem dX12_takeClause_134 : decode cX12_takeClause 134 = .ok (.aload_n 0, 1) := by decide +kernel
theorem dX12_takeClause_135 : decode cX12_takeClause 135 = .ok (.invokevirtual 129, 3) := by decide +kernel
theorem dX12_takeClause_138 : decode cX12_takeClause 138 = .ok (.goto 7, 3) := by decide +kernel
theorem dX12_takeClause_141 : decode cX12_takeClause 141 = .ok (.aload_n 0, 1) := by decide +kernel
theorem dX12_takeClause_142 : decode cX12_takeClause 142 = .ok (.invokevirtual 132, 3) := by decide +kernel
theorem dX12_takeClause_145 : decode cX12_takeClause 145 = .ok (.istore_n 3, 1) := by decide +kernel
theorem dX12_takeClause_146 : decode cX12_takeClause 146 = .ok (.iload_n 3, 1) := by decide +kernel
theorem dX12_takeClause_147 : decode cX12_takeClause 147 = .ok (.ifCond .ne 22, 3) := by decide +kernel
theorem dX12_takeClause_150 : decode cX12_takeClause 150 = .ok (.aload_n 0, 1) := by decide +kernel
theorem dX12_takeClause_151 : decode cX12_takeClause 151 = .ok (.invokevirtual 92, 3) := by decide +kernel
theorem dX12_takeClause_154 : decode cX12_takeClause 154 = .ok (.bipush 59, 2) := by decide +kernel
theorem dX12_takeClause_156 : decode cX12_takeClause 156 = .ok (.if_icmp .eq 13, 3) := by decide +kernel
theorem dX12_takeClause_159 : decode cX12_takeClause 159 = .ok (.aload_n 0, 1) := by decide +kernel
theorem dX12_takeClause_160 : decode cX12_takeClause 160 = .ok (.iconst 1, 1) := by decide +kernel
theorem dX12_takeClause_161 : decode cX12_takeClause 161 = .ok (.aload_n 0, 1) := by decide +kernel
theorem dX12_takeClause_162 : decode cX12_takeClause 162 = .ok (.getfield 89, 3) := by decide +kernel
theorem dX12_takeClause_165 : decode cX12_takeClause 165 = .ok (.invokevirtual 100, 3) := by decide +kernel
theorem dX12_takeClause_168 : decode cX12_takeClause 168 = .ok (.ireturn, 1) := by decide +kernel
theorem dX12_takeClause_169 : decode cX12_takeClause 169 = .ok (.aload_n 0, 1) := by decide +kernel
theorem dX12_takeClause_170 : decode cX12_takeClause 170 = .ok (.dup, 1) := by decide +kernel
theorem dX12_takeClause_171 : decode cX12_takeClause 171 = .ok (.getfield 89, 3) := by decide +kernel
theorem dX12_takeClause_174 : decode cX12_takeClause 174 = .ok (.iconst 1, 1) := by decide +kernel
theorem dX12_takeClause_175 : decode cX12_takeClause 175 = .ok (.iadd, 1) := by decide +kernel
theorem dX12_takeClause_176 : decode cX12_takeClause 176 = .ok (.putfield 89, 3) := by decide +kernel
theorem dX12_takeClause_179 : decode cX12_takeClause 179 = .ok (.iload_n 3, 1) := by decide +kernel
theorem dX12_takeClause_180 : decode cX12_takeClause 180 = .ok (.ireturn, 1) := by decide +kernel
theorem dX12_takeRead_0 : decode cX12_takeRead 0 = .ok (.aload_n 0, 1) := by decide +kernel
theorem dX12_takeRead_1 : decode cX12_takeRead 1 = .ok (.aload_n 0, 1) := by decide +kernel
theorem dX12_takeRead_2 : decode cX12_takeRead 2 = .ok (.getfield 110, 3) := by decide +kernel
theorem dX12_takeRead_5 : decode cX12_takeRead 5 = .ok (.putfield 69, 3) := by decide +kernel
theorem dX12_takeRead_8 : decode cX12_takeRead 8 = .ok (.aload_n 0, 1) := by decide +kernel
theorem dX12_takeRead_9 : decode cX12_takeRead 9 = .ok (.aload_n 0, 1) := by decide +kernel
theorem dX12_takeRead_10 : decode cX12_takeRead 10 = .ok (.getfield 113, 3) := by decide +kernel
theorem dX12_takeRead_13 : decode cX12_takeRead 13 = .ok (.putfield 135, 3) := by decide +kernel
theorem dX12_takeRead_16 : decode cX12_takeRead 16 = .ok (.aload_n 0, 1) := by decide +kernel
theorem dX12_takeRead_17 : decode cX12_takeRead 17 = .ok (.aload_n 0, 1) := by decide +kernel
theorem dX12_takeRead_18 : decode cX12_takeRead 18 = .ok (.getfield 116, 3) := by decide +kernel
theorem dX12_takeRead_21 : decode cX12_takeRead 21 = .ok (.putfield 79, 3) := by decide +kernel
theorem dX12_takeRead_24 : decode cX12_takeRead 24 = .ok (.aload_n 0, 1) := by decide +kernel
theorem dX12_takeRead_25 : decode cX12_takeRead 25 = .ok (.aload_n 0, 1) := by decide +kernel
theorem dX12_takeRead_26 : decode cX12_takeRead 26 = .ok (.getfield 119, 3) := by decide +kernel
theorem dX12_takeRead_29 : decode cX12_takeRead 29 = .ok (.putfield 72, 3) := by decide +kernel
theorem dX12_takeRead_32 : decode cX12_takeRead 32 = .ok (.iconst 0, 1) := by decide +kernel
theorem dX12_takeRead_33 : decode cX12_takeRead 33 = .ok (.istore_n 1, 1) := by decide +kernel
theorem dX12_takeRead_34 : decode cX12_takeRead 34 = .ok (.iload_n 1, 1) := by decide +kernel
theorem dX12_takeRead_35 : decode cX12_takeRead 35 = .ok (.bipush 30, 2) := by decide +kernel
theorem dX12_takeRead_37 : decode cX12_takeRead 37 = .ok (.if_icmp .ge 16, 3) := by decide +kernel
theorem dX12_takeRead_40 : decode cX12_takeRead 40 = .ok (.aload_n 0, 1) := by decide +kernel
theorem dX12_takeRead_41 : decode cX12_takeRead 41 = .ok (.getfield 19, 3) := by decide +kernel
theorem dX12_takeRead_44 : decode cX12_takeRead 44 = .ok (.iload_n 1, 1) := by decide +kernel
theorem dX12_takeRead_45 : decode cX12_takeRead 45 = .ok (.iconst 0, 1) := by decide +kernel
theorem dX12_takeRead_46 : decode cX12_takeRead 46 = .ok (.iastore, 1) := by decide +kernel
theorem dX12_takeRead_47 : decode cX12_takeRead 47 = .ok (.iinc 1 1, 3) := by decide +kernel
theorem dX12_takeRead_50 : decode cX12_takeRead 50 = .ok (.goto (-16), 3) := by decide +kernel
theorem dX12_takeRead_53 : decode cX12_takeRead 53 = .ok (.aload_n 0, 1) := by decide +kernel
theorem dX12_takeRead_54 : decode cX12_takeRead 54 = .ok (.getfield 19, 3) := by decide +kernel
theorem dX12_takeRead_57 : decode cX12_takeRead 57 = .ok (.iconst 0, 1) := by decide +kernel
theorem dX12_takeRead_58 : decode cX12_takeRead 58 = .ok (.aload_n 0, 1) := by decide +kernel
theorem dX12_takeRead_59 : decode cX12_takeRead 59 = .ok (.getfield 69, 3) := by decide +kernel
theorem dX12_takeRead_62 : decode cX12_takeRead 62 = .ok (.iastore, 1) := by decide +kernel
theorem dX12_takeRead_63 : decode cX12_takeRead 63 = .ok (.iconst 0, 1) := by decide +kernel
theorem dX12_takeRead_64 : decode cX12_takeRead 64 = .ok (.istore_n 1, 1) := by decide +kernel
theorem dX12_takeRead_65 : decode cX12_takeRead 65 = .ok (.iload_n 1, 1) := by decide +kernel
theorem dX12_takeRead_66 : decode cX12_takeRead 66 = .ok (.aload_n 0, 1) := by decide +kernel
theorem dX12_takeRead_67 : decode cX12_takeRead 67 = .ok (.getfield 79, 3) := by decide +kernel
theorem dX12_takeRead_70 : decode cX12_takeRead 70 = .ok (.if_icmp .ge 24, 3) := by decide +kernel
theorem dX12_takeRead_73 : decode cX12_takeRead 73 = .ok (.aload_n 0, 1) := by decide +kernel
theorem dX12_takeRead_74 : decode cX12_takeRead 74 = .ok (.getfield 19, 3) := by decide +kernel
theorem dX12_takeRead_77 : decode cX12_takeRead 77 = .ok (.bipush 26, 2) := by decide +kernel
theorem dX12_takeRead_79 : decode cX12_takeRead 79 = .ok (.iload_n 1, 1) := by decide +kernel
theorem dX12_takeRead_80 : decode cX12_takeRead 80 = .ok (.iadd, 1) := by decide +kernel
theorem dX12_takeRead_81 : decode cX12_takeRead 81 = .ok (.aload_n 0, 1) := by decide +kernel
theorem dX12_takeRead_82 : decode cX12_takeRead 82 = .ok (.getfield 29, 3) := by decide +kernel
theorem dX12_takeRead_85 : decode cX12_takeRead 85 = .ok (.iload_n 1, 1) := by decide +kernel
theorem dX12_takeRead_86 : decode cX12_takeRead 86 = .ok (.iaload, 1) := by decide +kernel
theorem dX12_takeRead_87 : decode cX12_takeRead 87 = .ok (.iastore, 1) := by decide +kernel
theorem dX12_takeRead_88 : decode cX12_takeRead 88 = .ok (.iinc 1 1, 3) := by decide +kernel
theorem dX12_takeRead_91 : decode cX12_takeRead 91 = .ok (.goto (-26), 3) := by decide +kernel
theorem dX12_takeRead_94 : decode cX12_takeRead 94 = .ok (.iconst 0, 1) := by decide +kernel
theorem dX12_takeRead_95 : decode cX12_takeRead 95 = .ok (.istore_n 1, 1) := by decide +kernel
theorem dX12_takeRead_96 : decode cX12_takeRead 96 = .ok (.iload_n 1, 1) := by decide +kernel
theorem dX12_takeRead_97 : decode cX12_takeRead 97 = .ok (.aload_n 0, 1) := by decide +kernel
theorem dX12_takeRead_98 : decode cX12_takeRead 98 = .ok (.getfield 72, 3) := by decide +kernel
theorem dX12_takeRead_101 : decode cX12_takeRead 101 = .ok (.if_icmp .ge 76, 3) := by decide +kernel
theorem dX12_takeRead_104 : decode cX12_takeRead 104 = .ok (.aload_n 0, 1) := by decide +kernel
theorem dX12_takeRead_105 : decode cX12_takeRead 105 = .ok (.getfield 7, 3) := by decide +kernel
theorem dX12_takeRead_108 : decode cX12_takeRead 108 = .ok (.iload_n 1, 1) := by decide +kernel
theorem dX12_takeRead_109 : decode cX12_takeRead 109 = .ok (.aload_n 0, 1) := by decide +kernel
theorem dX12_takeRead_110 : decode cX12_takeRead 110 = .ok (.getfield 32, 3) := by decide +kernel
theorem dX12_takeRead_113 : decode cX12_takeRead 113 = .ok (.iload_n 1, 1) := by decide +kernel
theorem dX12_takeRead_114 : decode cX12_takeRead 114 = .ok (.iaload, 1) := by decide +kernel
theorem dX12_takeRead_115 : decode cX12_takeRead 115 = .ok (.iastore, 1) := by decide +kernel
theorem dX12_takeRead_116 : decode cX12_takeRead 116 = .ok (.aload_n 0, 1) := by decide +kernel
theorem dX12_takeRead_117 : decode cX12_takeRead 117 = .ok (.getfield 13, 3) := by decide +kernel
theorem dX12_takeRead_120 : decode cX12_takeRead 120 = .ok (.iload_n 1, 1) := by decide +kernel
theorem dX12_takeRead_121 : decode cX12_takeRead 121 = .ok (.aload_n 0, 1) := by decide +kernel
theorem dX12_takeRead_122 : decode cX12_takeRead 122 = .ok (.getfield 35, 3) := by decide +kernel
theorem dX12_takeRead_125 : decode cX12_takeRead 125 = .ok (.iload_n 1, 1) := by decide +kernel
theorem dX12_takeRead_126 : decode cX12_takeRead 126 = .ok (.iaload, 1) := by decide +kernel
theorem dX12_takeRead_127 : decode cX12_takeRead 127 = .ok (.iastore, 1) := by decide +kernel
theorem dX12_takeRead_128 : decode cX12_takeRead 128 = .ok (.aload_n 0, 1) := by decide +kernel
theorem dX12_takeRead_129 : decode cX12_takeRead 129 = .ok (.getfield 16, 3) := by decide +kernel
theorem dX12_takeRead_132 : decode cX12_takeRead 132 = .ok (.iload_n 1, 1) := by decide +kernel
theorem dX12_takeRead_133 : decode cX12_takeRead 133 = .ok (.aload_n 0, 1) := by decide +kernel
theorem dX12_takeRead_134 : decode cX12_takeRead 134 = .ok (.getfield 41, 3) := by decide +kernel
theorem dX12_takeRead_137 : decode cX12_takeRead 137 = .ok (.iload_n 1, 1) := by decide +kernel
theorem dX12_takeRead_138 : decode cX12_takeRead 138 = .ok (.iaload, 1) := by decide +kernel
theorem dX12_takeRead_139 : decode cX12_takeRead 139 = .ok (.aload_n 0, 1) := by decide +kernel
theorem dX12_takeRead_140 : decode cX12_takeRead 140 = .ok (.getfield 72, 3) := by decide +kernel
theorem dX12_takeRead_143 : decode cX12_takeRead 143 = .ok (.if_icmp .ge 12, 3) := by decide +kernel
theorem dX12_takeRead_146 : decode cX12_takeRead 146 = .ok (.aload_n 0, 1) := by decide +kernel
theorem dX12_takeRead_147 : decode cX12_takeRead 147 = .ok (.getfield 41, 3) := by decide +kernel
theorem dX12_takeRead_150 : decode cX12_takeRead 150 = .ok (.iload_n 1, 1) := by decide +kernel
theorem dX12_takeRead_151 : decode cX12_takeRead 151 = .ok (.iaload, 1) := by decide +kernel
theorem dX12_takeRead_152 : decode cX12_takeRead 152 = .ok (.goto 4, 3) := by decide +kernel
theorem dX12_takeRead_155 : decode cX12_takeRead 155 = .ok (.iconst (-1), 1) := by decide +kernel
theorem dX12_takeRead_156 : decode cX12_takeRead 156 = .ok (.iastore, 1) := by decide +kernel
theorem dX12_takeRead_157 : decode cX12_takeRead 157 = .ok (.aload_n 0, 1) := by decide +kernel
theorem dX12_takeRead_158 : decode cX12_takeRead 158 = .ok (.getfield 19, 3) := by decide +kernel
theorem dX12_takeRead_161 : decode cX12_takeRead 161 = .ok (.iconst 5, 1) := by decide +kernel
theorem dX12_takeRead_162 : decode cX12_takeRead 162 = .ok (.iload_n 1, 1) := by decide +kernel
theorem dX12_takeRead_163 : decode cX12_takeRead 163 = .ok (.iadd, 1) := by decide +kernel
theorem dX12_takeRead_164 : decode cX12_takeRead 164 = .ok (.aload_n 0, 1) := by decide +kernel
theorem dX12_takeRead_165 : decode cX12_takeRead 165 = .ok (.getfield 38, 3) := by decide +kernel
theorem dX12_takeRead_168 : decode cX12_takeRead 168 = .ok (.iload_n 1, 1) := by decide +kernel
theorem dX12_takeRead_169 : decode cX12_takeRead 169 = .ok (.iaload, 1) := by decide +kernel
theorem dX12_takeRead_170 : decode cX12_takeRead 170 = .ok (.iastore, 1) := by decide +kernel
theorem dX12_takeRead_171 : decode cX12_takeRead 171 = .ok (.iinc 1 1, 3) := by decide +kernel
theorem dX12_takeRead_174 : decode cX12_takeRead 174 = .ok (.goto (-78), 3) := by decide +kernel
theorem dX12_takeRead_177 : decode cX12_takeRead 177 = .ok (.return_, 1) := by decide +kernel
theorem dX12_hills_0 : decode cX12_hills 0 = .ok (.aload_n 0, 1) := by decide +kernel
theorem dX12_hills_1 : decode cX12_hills 1 = .ok (.iconst (-1), 1) := by decide +kernel
theorem dX12_hills_2 : decode cX12_hills 2 = .ok (.putfield 25, 3) := by decide +kernel
theorem dX12_hills_5 : decode cX12_hills 5 = .ok (.aload_n 0, 1) := by decide +kernel
theorem dX12_hills_6 : decode cX12_hills 6 = .ok (.iconst 0, 1) := by decide +kernel
theorem dX12_hills_7 : decode cX12_hills 7 = .ok (.putfield 89, 3) := by decide +kernel
theorem dX12_hills_10 : decode cX12_hills 10 = .ok (.aload_n 0, 1) := by decide +kernel
theorem dX12_hills_11 : decode cX12_hills 11 = .ok (.iconst 0, 1) := by decide +kernel
theorem dX12_hills_12 : decode cX12_hills 12 = .ok (.putfield 110, 3) := by decide +kernel
theorem dX12_hills_15 : decode cX12_hills 15 = .ok (.aload_n 0, 1) := by decide +kernel
theorem dX12_hills_16 : decode cX12_hills 16 = .ok (.iconst 0, 1) := by decide +kernel
theorem dX12_hills_17 : decode cX12_hills 17 = .ok (.putfield 113, 3) := by decide +kernel
theorem dX12_hills_20 : decode cX12_hills 20 = .ok (.aload_n 0, 1) := by decide +kernel
theorem dX12_hills_21 : decode cX12_hills 21 = .ok (.iconst 0, 1) := by decide +kernel
theorem dX12_hills_22 : decode cX12_hills 22 = .ok (.putfield 116, 3) := by decide +kernel
theorem dX12_hills_25 : decode cX12_hills 25 = .ok (.aload_n 0, 1) := by decide +kernel
theorem dX12_hills_26 : decode cX12_hills 26 = .ok (.iconst 0, 1) := by decide +kernel
theorem dX12_hills_27 : decode cX12_hills 27 = .ok (.putfield 119, 3) := by decide +kernel
theorem dX12_hills_30 : decode cX12_hills 30 = .ok (.iconst 0, 1) := by decide +kernel
theorem dX12_hills_31 : decode cX12_hills 31 = .ok (.istore_n 1, 1) := by decide +kernel
theorem dX12_hills_32 : decode cX12_hills 32 = .ok (.iload_n 1, 1) := by decide +kernel
theorem dX12_hills_33 : decode cX12_hills 33 = .ok (.ifCond .ne 18, 3) := by decide +kernel
theorem dX12_hills_36 : decode cX12_hills 36 = .ok (.aload_n 0, 1) := by decide +kernel
theorem dX12_hills_37 : decode cX12_hills 37 = .ok (.invokevirtual 92, 3) := by decide +kernel
theorem dX12_hills_40 : decode cX12_hills 40 = .ok (.ifCond .lt 11, 3) := by decide +kernel
theorem dX12_hills_43 : decode cX12_hills 43 = .ok (.aload_n 0, 1) := by decide +kernel
theorem dX12_hills_44 : decode cX12_hills 44 = .ok (.invokevirtual 138, 3) := by decide +kernel
theorem dX12_hills_47 : decode cX12_hills 47 = .ok (.istore_n 1, 1) := by decide +kernel
theorem dX12_hills_48 : decode cX12_hills 48 = .ok (.goto (-16), 3) := by decide +kernel
theorem dX12_hills_51 : decode cX12_hills 51 = .ok (.aload_n 0, 1) := by decide +kernel
theorem dX12_hills_52 : decode cX12_hills 52 = .ok (.iconst 0, 1) := by decide +kernel
theorem dX12_hills_53 : decode cX12_hills 53 = .ok (.putfield 85, 3) := by decide +kernel
theorem dX12_hills_56 : decode cX12_hills 56 = .ok (.iload_n 1, 1) := by decide +kernel
theorem dX12_hills_57 : decode cX12_hills 57 = .ok (.ifCond .le 8, 3) := by decide +kernel
theorem dX12_hills_60 : decode cX12_hills 60 = .ok (.bipush (-10), 2) := by decide +kernel
theorem dX12_hills_62 : decode cX12_hills 62 = .ok (.iload_n 1, 1) := by decide +kernel
theorem dX12_hills_63 : decode cX12_hills 63 = .ok (.isub, 1) := by decide +kernel
theorem dX12_hills_64 : decode cX12_hills 64 = .ok (.ireturn, 1) := by decide +kernel
theorem dX12_hills_65 : decode cX12_hills 65 = .ok (.aload_n 0, 1) := by decide +kernel
theorem dX12_hills_66 : decode cX12_hills 66 = .ok (.invokevirtual 141, 3) := by decide +kernel
theorem dX12_hills_69 : decode cX12_hills 69 = .ok (.aload_n 0, 1) := by decide +kernel
theorem dX12_hills_70 : decode cX12_hills 70 = .ok (.iconst 0, 1) := by decide +kernel
theorem dX12_hills_71 : decode cX12_hills 71 = .ok (.putfield 144, 3) := by decide +kernel
theorem dX12_hills_74 : decode cX12_hills 74 = .ok (.aload_n 0, 1) := by decide +kernel
theorem dX12_hills_75 : decode cX12_hills 75 = .ok (.iconst 0, 1) := by decide +kernel
theorem dX12_hills_76 : decode cX12_hills 76 = .ok (.putfield 147, 3) := by decide +kernel
theorem dX12_hills_79 : decode cX12_hills 79 = .ok (.aload_n 0, 1) := by decide +kernel
theorem dX12_hills_80 : decode cX12_hills 80 = .ok (.iconst 0, 1) := by decide +kernel
theorem dX12_hills_81 : decode cX12_hills 81 = .ok (.putfield 150, 3) := by decide +kernel
theorem dX12_hills_84 : decode cX12_hills 84 = .ok (.aload_n 0, 1) := by decide +kernel
theorem dX12_hills_85 : decode cX12_hills 85 = .ok (.getfield 65, 3) := by decide +kernel
theorem dX12_hills_88 : decode cX12_hills 88 = .ok (.iconst 0, 1) := by decide +kernel
theorem dX12_hills_89 : decode cX12_hills 89 = .ok (.iconst 0, 1) := by decide +kernel
theorem dX12_hills_90 : decode cX12_hills 90 = .ok (.bastore, 1) := by decide +kernel
theorem dX12_hills_91 : decode cX12_hills 91 = .ok (.aload_n 0, 1) := by decide +kernel
theorem dX12_hills_92 : decode cX12_hills 92 = .ok (.getfield 65, 3) := by decide +kernel
theorem dX12_hills_95 : decode cX12_hills 95 = .ok (.iconst 1, 1) := by decide +kernel
theorem dX12_hills_96 : decode cX12_hills 96 = .ok (.iconst 0, 1) := by decide +kernel
theorem dX12_hills_97 : decode cX12_hills 97 = .ok (.bastore, 1) := by decide +kernel
theorem dX12_hills_98 : decode cX12_hills 98 = .ok (.aload_n 0, 1) := by decide +kernel
theorem dX12_hills_99 : decode cX12_hills 99 = .ok (.getfield 72, 3) := by decide +kernel
theorem dX12_hills_102 : decode cX12_hills 102 = .ok (.ireturn, 1) := by decide +kernel
theorem dX12_fault_0 : decode cX12_fault 0 = .ok (.aload_n 0, 1) := by decide +kernel
theorem dX12_fault_1 : decode cX12_fault 1 = .ok (.getfield 25, 3) := by decide +kernel
theorem dX12_fault_4 : decode cX12_fault 4 = .ok (.ireturn, 1) := by decide +kernel
theorem dX12_off_0 : decode cX12_off 0 = .ok (.aload_n 0, 1) := by decide +kernel
theorem dX12_off_1 : decode cX12_off 1 = .ok (.getfield 19, 3) := by decide +kernel
theorem dX12_off_4 : decode cX12_off 4 = .ok (.iconst 5, 1) := by decide +kernel
theorem dX12_off_5 : decode cX12_off 5 = .ok (.iload_n 1, 1) := by decide +kernel
theorem dX12_off_6 : decode cX12_off 6 = .ok (.iadd, 1) := by decide +kernel
theorem dX12_off_7 : decode cX12_off 7 = .ok (.iaload, 1) := by decide +kernel
theorem dX12_off_8 : decode cX12_off 8 = .ok (.istore_n 3, 1) := by decide +kernel
theorem dX12_off_9 : decode cX12_off 9 = .ok (.aload_n 0, 1) := by decide +kernel
theorem dX12_off_10 : decode cX12_off 10 = .ok (.getfield 7, 3) := by decide +kernel
theorem dX12_off_13 : decode cX12_off 13 = .ok (.iload_n 1, 1) := by decide +kernel
theorem dX12_off_14 : decode cX12_off 14 = .ok (.iaload, 1) := by decide +kernel
theorem dX12_off_15 : decode cX12_off 15 = .ok (.tableswitch 52 1 3 #[25, 29, 41], 25) := by decide +kernel
theorem dX12_off_40 : decode cX12_off 40 = .ok (.iload_n 3, 1) := by decide +kernel
theorem dX12_off_41 : decode cX12_off 41 = .ok (.iload_n 2, 1) := by decide +kernel
theorem dX12_off_42 : decode cX12_off 42 = .ok (.iadd, 1) := by decide +kernel
theorem dX12_off_43 : decode cX12_off 43 = .ok (.ireturn, 1) := by decide +kernel
theorem dX12_off_44 : decode cX12_off 44 = .ok (.iload_n 2, 1) := by decide +kernel
theorem dX12_off_45 : decode cX12_off 45 = .ok (.iconst 2, 1) := by decide +kernel
theorem dX12_off_46 : decode cX12_off 46 = .ok (.irem, 1) := by decide +kernel
theorem dX12_off_47 : decode cX12_off 47 = .ok (.ifCond .ne 7, 3) := by decide +kernel
theorem dX12_off_50 : decode cX12_off 50 = .ok (.iload_n 3, 1) := by decide +kernel
theorem dX12_off_51 : decode cX12_off 51 = .ok (.goto 4, 3) := by decide +kernel
theorem dX12_off_54 : decode cX12_off 54 = .ok (.iconst 0, 1) := by decide +kernel
theorem dX12_off_55 : decode cX12_off 55 = .ok (.ireturn, 1) := by decide +kernel
theorem dX12_off_56 : decode cX12_off 56 = .ok (.iconst 2, 1) := by decide +kernel
theorem dX12_off_57 : decode cX12_off 57 = .ok (.iload_n 3, 1) := by decide +kernel
theorem dX12_off_58 : decode cX12_off 58 = .ok (.imul, 1) := by decide +kernel
theorem dX12_off_59 : decode cX12_off 59 = .ok (.aload_n 0, 1) := by decide +kernel
theorem dX12_off_60 : decode cX12_off 60 = .ok (.getfield 135, 3) := by decide +kernel
theorem dX12_off_63 : decode cX12_off 63 = .ok (.iconst 2, 1) := by decide +kernel
theorem dX12_off_64 : decode cX12_off 64 = .ok (.idiv, 1) := by decide +kernel
theorem dX12_off_65 : decode cX12_off 65 = .ok (.iadd, 1) := by decide +kernel
theorem dX12_off_66 : decode cX12_off 66 = .ok (.ireturn, 1) := by decide +kernel
theorem dX12_off_67 : decode cX12_off 67 = .ok (.iload_n 3, 1) := by decide +kernel
theorem dX12_off_68 : decode cX12_off 68 = .ok (.ireturn, 1) := by decide +kernel
theorem dX12_bargain_0 : decode cX12_bargain 0 = .ok (.iload_n 2, 1) := by decide +kernel
theorem dX12_bargain_1 : decode cX12_bargain 1 = .ok (.istore_n 3, 1) := by decide +kernel
theorem dX12_bargain_2 : decode cX12_bargain 2 = .ok (.aload_n 0, 1) := by decide +kernel
theorem dX12_bargain_3 : decode cX12_bargain 3 = .ok (.getfield 19, 3) := by decide +kernel
theorem dX12_bargain_6 : decode cX12_bargain 6 = .ok (.iconst 0, 1) := by decide +kernel
theorem dX12_bargain_7 : decode cX12_bargain 7 = .ok (.iaload, 1) := by decide +kernel
theorem dX12_bargain_8 : decode cX12_bargain 8 = .ok (.istore 4, 2) := by decide +kernel
theorem dX12_bargain_10 : decode cX12_bargain 10 = .ok (.aload_n 0, 1) := by decide +kernel
theorem dX12_bargain_11 : decode cX12_bargain 11 = .ok (.iconst 0, 1) := by decide +kernel
theorem dX12_bargain_12 : decode cX12_bargain 12 = .ok (.putfield 153, 3) := by decide +kernel
theorem dX12_bargain_15 : decode cX12_bargain 15 = .ok (.iload_n 3, 1) := by decide +kernel
theorem dX12_bargain_16 : decode cX12_bargain 16 = .ok (.ifCond .le 92, 3) := by decide +kernel
theorem dX12_bargain_19 : decode cX12_bargain 19 = .ok (.iload 4, 2) := by decide +kernel
theorem dX12_bargain_21 : decode cX12_bargain 21 = .ok (.ifCond .le 87, 3) := by decide +kernel
theorem dX12_bargain_24 : decode cX12_bargain 24 = .ok (.aload_n 0, 1) := by decide +kernel
theorem dX12_bargain_25 : decode cX12_bargain 25 = .ok (.iload_n 1, 1) := by decide +kernel
theorem dX12_bargain_26 : decode cX12_bargain 26 = .ok (.aload_n 0, 1) := by decide +kernel
theorem dX12_bargain_27 : decode cX12_bargain 27 = .ok (.getfield 153, 3) := by decide +kernel
theorem dX12_bargain_30 : decode cX12_bargain 30 = .ok (.invokevirtual 156, 3) := by decide +kernel
theorem dX12_bargain_33 : decode cX12_bargain 33 = .ok (.istore 5, 2) := by decide +kernel
theorem dX12_bargain_35 : decode cX12_bargain 35 = .ok (.iload_n 3, 1) := by decide +kernel
theorem dX12_bargain_36 : decode cX12_bargain 36 = .ok (.iload 5, 2) := by decide +kernel
theorem dX12_bargain_38 : decode cX12_bargain 38 = .ok (.if_icmp .le 10, 3) := by decide +kernel
theorem dX12_bargain_41 : decode cX12_bargain 41 = .ok (.iload_n 3, 1) := by decide +kernel
theorem dX12_bargain_42 : decode cX12_bargain 42 = .ok (.iload 5, 2) := by decide +kernel
theorem dX12_bargain_44 : decode cX12_bargain 44 = .ok (.isub, 1) := by decide +kernel
theorem dX12_bargain_45 : decode cX12_bargain 45 = .ok (.goto 4, 3) := by decide +kernel
theorem dX12_bargain_48 : decode cX12_bargain 48 = .ok (.iconst 0, 1) := by decide +kernel
theorem dX12_bargain_49 : decode cX12_bargain 49 = .ok (.istore_n 3, 1) := by decide +kernel
theorem dX12_bargain_50 : decode cX12_bargain 50 = .ok (.iinc 4 (-1), 3) := by decide +kernel
theorem dX12_bargain_53 : decode cX12_bargain 53 = .ok (.iload 4, 2) := by decide +kernel
theorem dX12_bargain_55 : decode cX12_bargain 55 = .ok (.ifCond .le 40, 3) := by decide +kernel
theorem dX12_bargain_58 : decode cX12_bargain 58 = .ok (.iload_n 3, 1) := by decide +kernel
theorem dX12_bargain_59 : decode cX12_bargain 59 = .ok (.ifCond .le 36, 3) := by decide +kernel
theorem dX12_bargain_62 : decode cX12_bargain 62 = .ok (.aload_n 0, 1) := by decide +kernel
theorem dX12_bargain_63 : decode cX12_bargain 63 = .ok (.getfield 153, 3) := by decide +kernel
theorem dX12_bargain_66 : decode cX12_bargain 66 = .ok (.iconst 3, 1) := by decide +kernel
theorem dX12_bargain_67 : decode cX12_bargain 67 = .ok (.irem, 1) := by decide +kernel
theorem dX12_bargain_68 : decode cX12_bargain 68 = .ok (.iconst 2, 1) := by decide +kernel
theorem dX12_bargain_69 : decode cX12_bargain 69 = .ok (.if_icmp .ne 26, 3) := by decide +kernel
theorem dX12_bargain_72 : decode cX12_bargain 72 = .ok (.iload_n 3, 1) := by decide +kernel
theorem dX12_bargain_73 : decode cX12_bargain 73 = .ok (.aload_n 0, 1) := by decide +kernel
theorem dX12_bargain_74 : decode cX12_bargain 74 = .ok (.getfield 135, 3) := by decide +kernel
theorem dX12_bargain_77 : decode cX12_bargain 77 = .ok (.iadd, 1) := by decide +kernel
theorem dX12_bargain_78 : decode cX12_bargain 78 = .ok (.bipush 99, 2) := by decide +kernel
theorem dX12_bargain_80 : decode cX12_bargain 80 = .ok (.if_icmp .le 8, 3) := by decide +kernel
theorem dX12_bargain_83 : decode cX12_bargain 83 = .ok (.bipush 99, 2) := by decide +kernel
theorem dX12_bargain_85 : decode cX12_bargain 85 = .ok (.goto 9, 3) := by decide +kernel
theorem dX12_bargain_88 : decode cX12_bargain 88 = .ok (.iload_n 3, 1) := by decide +kernel
theorem dX12_bargain_89 : decode cX12_bargain 89 = .ok (.aload_n 0, 1) := by decide +kernel
theorem dX12_bargain_90 : decode cX12_bargain 90 = .ok (.getfield 135, 3) := by decide +kernel
theorem dX12_bargain_93 : decode cX12_bargain 93 = .ok (.iadd, 1) := by decide +kernel
theorem dX12_bargain_94 : decode cX12_bargain 94 = .ok (.istore_n 3, 1) := by decide +kernel
theorem dX12_bargain_95 : decode cX12_bargain 95 = .ok (.aload_n 0, 1) := by decide +kernel
theorem dX12_bargain_96 : decode cX12_bargain 96 = .ok (.dup, 1) := by decide +kernel
theorem dX12_bargain_97 : decode cX12_bargain 97 = .ok (.getfield 153, 3) := by decide +kernel
theorem dX12_bargain_100 : decode cX12_bargain 100 = .ok (.iconst 1, 1) := by decide +kernel
theorem dX12_bargain_101 : decode cX12_bargain 101 = .ok (.iadd, 1) := by decide +kernel
theorem dX12_bargain_102 : decode cX12_bargain 102 = .ok (.putfield 153, 3) := by decide +kernel
theorem dX12_bargain_105 : decode cX12_bargain 105 = .ok (.goto (-90), 3) := by decide +kernel
theorem dX12_bargain_108 : decode cX12_bargain 108 = .ok (.iload_n 3, 1) := by decide +kernel
theorem dX12_bargain_109 : decode cX12_bargain 109 = .ok (.ireturn, 1) := by decide +kernel
theorem dX12_ridOf_0 : decode cX12_ridOf 0 = .ok (.iconst 0, 1) := by decide +kernel
theorem dX12_ridOf_1 : decode cX12_ridOf 1 = .ok (.istore_n 2, 1) := by decide +kernel
theorem dX12_ridOf_2 : decode cX12_ridOf 2 = .ok (.iconst 0, 1) := by decide +kernel
theorem dX12_ridOf_3 : decode cX12_ridOf 3 = .ok (.istore_n 3, 1) := by decide +kernel
theorem dX12_ridOf_4 : decode cX12_ridOf 4 = .ok (.iload_n 3, 1) := by decide +kernel
theorem dX12_ridOf_5 : decode cX12_ridOf 5 = .ok (.bipush 99, 2) := by decide +kernel
theorem dX12_ridOf_7 : decode cX12_ridOf 7 = .ok (.if_icmp .gt 24, 3) := by decide +kernel
theorem dX12_ridOf_10 : decode cX12_ridOf 10 = .ok (.aload_n 0, 1) := by decide +kernel
theorem dX12_ridOf_11 : decode cX12_ridOf 11 = .ok (.iload_n 1, 1) := by decide +kernel
theorem dX12_ridOf_12 : decode cX12_ridOf 12 = .ok (.iload_n 3, 1) := by decide +kernel
theorem dX12_ridOf_13 : decode cX12_ridOf 13 = .ok (.invokevirtual 159, 3) := by decide +kernel
theorem dX12_ridOf_16 : decode cX12_ridOf 16 = .ok (.ifCond .ne 7, 3) := by decide +kernel
theorem dX12_ridOf_19 : decode cX12_ridOf 19 = .ok (.iload_n 3, 1) := by decide +kernel
theorem dX12_ridOf_20 : decode cX12_ridOf 20 = .ok (.goto 4, 3) := by decide +kernel
theorem dX12_ridOf_23 : decode cX12_ridOf 23 = .ok (.iload_n 2, 1) := by decide +kernel
theorem dX12_ridOf_24 : decode cX12_ridOf 24 = .ok (.istore_n 2, 1) := by decide +kernel
theorem dX12_ridOf_25 : decode cX12_ridOf 25 = .ok (.iinc 3 1, 3) := by decide +kernel
theorem dX12_ridOf_28 : decode cX12_ridOf 28 = .ok (.goto (-24), 3) := by decide +kernel
theorem dX12_ridOf_31 : decode cX12_ridOf 31 = .ok (.iload_n 2, 1) := by decide +kernel
theorem dX12_ridOf_32 : decode cX12_ridOf 32 = .ok (.ireturn, 1) := by decide +kernel
theorem dX12_ofVillage_0 : decode cX12_ofVillage 0 = .ok (.iconst 0, 1) := by decide +kernel
theorem dX12_ofVillage_1 : decode cX12_ofVillage 1 = .ok (.istore_n 2, 1) := by decide +kernel
theorem dX12_ofVillage_2 : decode cX12_ofVillage 2 = .ok (.iconst 0, 1) := by decide +kernel
theorem dX12_ofVillage_3 : decode cX12_ofVillage 3 = .ok (.istore_n 3, 1) := by decide +kernel
theorem dX12_ofVillage_4 : decode cX12_ofVillage 4 = .ok (.iload_n 3, 1) := by decide +kernel
theorem dX12_ofVillage_5 : decode cX12_ofVillage 5 = .ok (.aload_n 0, 1) := by decide +kernel
theorem dX12_ofVillage_6 : decode cX12_ofVillage 6 = .ok (.getfield 72, 3) := by decide +kernel
theorem dX12_ofVillage_9 : decode cX12_ofVillage 9 = .ok (.if_icmp .ge 29, 3) := by decide +kernel
theorem dX12_ofVillage_12 : decode cX12_ofVillage 12 = .ok (.iload_n 2, 1) := by decide +kernel
theorem dX12_ofVillage_13 : decode cX12_ofVillage 13 = .ok (.aload_n 0, 1) := by decide +kernel
theorem dX12_ofVillage_14 : decode cX12_ofVillage 14 = .ok (.getfield 13, 3) := by decide +kernel
theorem dX12_ofVillage_17 : decode cX12_ofVillage 17 = .ok (.iload_n 3, 1) := by decide +kernel
theorem dX12_ofVillage_18 : decode cX12_ofVillage 18 = .ok (.iaload, 1) := by decide +kernel
theorem dX12_ofVillage_19 : decode cX12_ofVillage 19 = .ok (.iload_n 1, 1) := by decide +kernel
theorem dX12_ofVillage_20 : decode cX12_ofVillage 20 = .ok (.if_icmp .ne 9, 3) := by decide +kernel
theorem dX12_ofVillage_23 : decode cX12_ofVillage 23 = .ok (.iconst 1, 1) := by decide +kernel
theorem dX12_ofVillage_24 : decode cX12_ofVillage 24 = .ok (.iload_n 3, 1) := by decide +kernel
theorem dX12_ofVillage_25 : decode cX12_ofVillage 25 = .ok (.ishl, 1) := by decide +kernel
theorem dX12_ofVillage_26 : decode cX12_ofVillage 26 = .ok (.goto 4, 3) := by decide +kernel
theorem dX12_ofVillage_29 : decode cX12_ofVillage 29 = .ok (.iconst 0, 1) := by decide +kernel
theorem dX12_ofVillage_30 : decode cX12_ofVillage 30 = .ok (.ior, 1) := by decide +kernel
theorem dX12_ofVillage_31 : decode cX12_ofVillage 31 = .ok (.istore_n 2, 1) := by decide +kernel
theorem dX12_ofVillage_32 : decode cX12_ofVillage 32 = .ok (.iinc 3 1, 3) := by decide +kernel
theorem dX12_ofVillage_35 : decode cX12_ofVillage 35 = .ok (.goto (-31), 3) := by decide +kernel
theorem dX12_ofVillage_38 : decode cX12_ofVillage 38 = .ok (.iload_n 2, 1) := by decide +kernel
theorem dX12_ofVillage_39 : decode cX12_ofVillage 39 = .ok (.ireturn, 1) := by decide +kernel
theorem dX12_ones_0 : decode cX12_ones 0 = .ok (.iconst 0, 1) := by decide +kernel
theorem dX12_ones_1 : decode cX12_ones 1 = .ok (.istore_n 1, 1) := by decide +kernel
theorem dX12_ones_2 : decode cX12_ones 2 = .ok (.iconst 0, 1) := by decide +kernel
theorem dX12_ones_3 : decode cX12_ones 3 = .ok (.istore_n 2, 1) := by decide +kernel
theorem dX12_ones_4 : decode cX12_ones 4 = .ok (.iload_n 2, 1) := by decide +kernel
theorem dX12_ones_5 : decode cX12_ones 5 = .ok (.bipush 7, 2) := by decide +kernel
theorem dX12_ones_7 : decode cX12_ones 7 = .ok (.if_icmp .ge 17, 3) := by decide +kernel
theorem dX12_ones_10 : decode cX12_ones 10 = .ok (.iload_n 1, 1) := by decide +kernel
theorem dX12_ones_11 : decode cX12_ones 11 = .ok (.iload_n 0, 1) := by decide +kernel
theorem dX12_ones_12 : decode cX12_ones 12 = .ok (.iload_n 2, 1) := by decide +kernel
theorem dX12_ones_13 : decode cX12_ones 13 = .ok (.ishr, 1) := by decide +kernel
theorem dX12_ones_14 : decode cX12_ones 14 = .ok (.iconst 1, 1) := by decide +kernel
theorem dX12_ones_15 : decode cX12_ones 15 = .ok (.iand, 1) := by decide +kernel
theorem dX12_ones_16 : decode cX12_ones 16 = .ok (.iadd, 1) := by decide +kernel
theorem dX12_ones_17 : decode cX12_ones 17 = .ok (.istore_n 1, 1) := by decide +kernel
theorem dX12_ones_18 : decode cX12_ones 18 = .ok (.iinc 2 1, 3) := by decide +kernel
theorem dX12_ones_21 : decode cX12_ones 21 = .ok (.goto (-17), 3) := by decide +kernel
theorem dX12_ones_24 : decode cX12_ones 24 = .ok (.iload_n 1, 1) := by decide +kernel
theorem dX12_ones_25 : decode cX12_ones 25 = .ok (.ireturn, 1) := by decide +kernel
theorem dX12_takes_0 : decode cX12_takes 0 = .ok (.aload_n 0, 1) := by decide +kernel
theorem dX12_takes_1 : decode cX12_takes 1 = .ok (.iload_n 2, 1) := by decide +kernel
theorem dX12_takes_2 : decode cX12_takes 2 = .ok (.invokevirtual 162, 3) := by decide +kernel
theorem dX12_takes_5 : decode cX12_takes 5 = .ok (.istore 4, 2) := by decide +kernel
theorem dX12_takes_7 : decode cX12_takes 7 = .ok (.iload 4, 2) := by decide +kernel
theorem dX12_takes_9 : decode cX12_takes 9 = .ok (.ifCond .eq 21, 3) := by decide +kernel
theorem dX12_takes_12 : decode cX12_takes 12 = .ok (.iload 4, 2) := by decide +kernel
theorem dX12_takes_14 : decode cX12_takes 14 = .ok (.aload_n 0, 1) := by decide +kernel
theorem dX12_takes_15 : decode cX12_takes 15 = .ok (.getfield 19, 3) := by decide +kernel
theorem dX12_takes_18 : decode cX12_takes 18 = .ok (.iload_n 1, 1) := by decide +kernel
theorem dX12_takes_19 : decode cX12_takes 19 = .ok (.iconst 4, 1) := by decide +kernel
theorem dX12_takes_20 : decode cX12_takes 20 = .ok (.iadd, 1) := by decide +kernel
theorem dX12_takes_21 : decode cX12_takes 21 = .ok (.iaload, 1) := by decide +kernel
theorem dX12_takes_22 : decode cX12_takes 22 = .ok (.iand, 1) := by decide +kernel
theorem dX12_takes_23 : decode cX12_takes 23 = .ok (.ifCond .ne 7, 3) := by decide +kernel
theorem dX12_takes_26 : decode cX12_takes 26 = .ok (.iconst 1, 1) := by decide +kernel
theorem dX12_takes_27 : decode cX12_takes 27 = .ok (.goto 4, 3) := by decide +kernel
theorem dX12_takes_30 : decode cX12_takes 30 = .ok (.iconst 0, 1) := by decide +kernel
theorem dX12_takes_31 : decode cX12_takes 31 = .ok (.istore 5, 2) := by decide +kernel
theorem dX12_takes_33 : decode cX12_takes 33 = .ok (.iload 5, 2) := by decide +kernel
theorem dX12_takes_35 : decode cX12_takes 35 = .ok (.ifCond .ne 7, 3) := by decide +kernel
theorem dX12_takes_38 : decode cX12_takes 38 = .ok (.iconst 0, 1) := by decide +kernel
theorem dX12_takes_39 : decode cX12_takes 39 = .ok (.goto 33, 3) := by decide +kernel
theorem dX12_takes_42 : decode cX12_takes 42 = .ok (.iload_n 3, 1) := by decide +kernel
theorem dX12_takes_43 : decode cX12_takes 43 = .ok (.aload_n 0, 1) := by decide +kernel
theorem dX12_takes_44 : decode cX12_takes 44 = .ok (.getfield 19, 3) := by decide +kernel
theorem dX12_takes_47 : decode cX12_takes 47 = .ok (.iload_n 1, 1) := by decide +kernel
theorem dX12_takes_48 : decode cX12_takes 48 = .ok (.bipush 26, 2) := by decide +kernel
theorem dX12_takes_50 : decode cX12_takes 50 = .ok (.iadd, 1) := by decide +kernel
theorem dX12_takes_51 : decode cX12_takes 51 = .ok (.iload_n 2, 1) := by decide +kernel
theorem dX12_takes_52 : decode cX12_takes 52 = .ok (.iadd, 1) := by decide +kernel
theorem dX12_takes_53 : decode cX12_takes 53 = .ok (.iaload, 1) := by decide +kernel
theorem dX12_takes_54 : decode cX12_takes 54 = .ok (.if_icmp .ge 7, 3) := by decide +kernel
theorem dX12_takes_57 : decode cX12_takes 57 = .ok (.iload_n 3, 1) := by decide +kernel
theorem dX12_takes_58 : decode cX12_takes 58 = .ok (.goto 14, 3) := by decide +kernel
theorem dX12_takes_61 : decode cX12_takes 61 = .ok (.aload_n 0, 1) := by decide +kernel
theorem dX12_takes_62 : decode cX12_takes 62 = .ok (.getfield 19, 3) := by decide +kernel
theorem dX12_takes_65 : decode cX12_takes 65 = .ok (.iload_n 1, 1) := by decide +kernel
theorem dX12_takes_66 : decode cX12_takes 66 = .ok (.bipush 26, 2) := by decide +kernel
theorem dX12_takes_68 : decode cX12_takes 68 = .ok (.iadd, 1) := by decide +kernel
theorem dX12_takes_69 : decode cX12_takes 69 = .ok (.iload_n 2, 1) := by decide +kernel
theorem dX12_takes_70 : decode cX12_takes 70 = .ok (.iadd, 1) := by decide +kernel
theorem dX12_takes_71 : decode cX12_takes 71 = .ok (.iaload, 1) := by decide +kernel
theorem dX12_takes_72 : decode cX12_takes 72 = .ok (.ireturn, 1) := by decide +kernel
theorem dX12_harms_0 : decode cX12_harms 0 = .ok (.aload_n 0, 1) := by decide +kernel
theorem dX12_harms_1 : decode cX12_harms 1 = .ok (.getfield 19, 3) := by decide +kernel
theorem dX12_harms_4 : decode cX12_harms 4 = .ok (.iload_n 1, 1) := by decide +kernel
theorem dX12_harms_5 : decode cX12_harms 5 = .ok (.bipush 19, 2) := by decide +kernel
theorem dX12_harms_7 : decode cX12_harms 7 = .ok (.iadd, 1) := by decide +kernel
theorem dX12_harms_8 : decode cX12_harms 8 = .ok (.iload_n 2, 1) := by decide +kernel
theorem dX12_harms_9 : decode cX12_harms 9 = .ok (.iadd, 1) := by decide +kernel
theorem dX12_harms_10 : decode cX12_harms 10 = .ok (.iaload, 1) := by decide +kernel
theorem dX12_harms_11 : decode cX12_harms 11 = .ok (.iload_n 3, 1) := by decide +kernel
theorem dX12_harms_12 : decode cX12_harms 12 = .ok (.iadd, 1) := by decide +kernel
theorem dX12_harms_13 : decode cX12_harms 13 = .ok (.istore 4, 2) := by decide +kernel
theorem dX12_harms_15 : decode cX12_harms 15 = .ok (.aload_n 0, 1) := by decide +kernel
theorem dX12_harms_16 : decode cX12_harms 16 = .ok (.getfield 19, 3) := by decide +kernel
theorem dX12_harms_19 : decode cX12_harms 19 = .ok (.iload_n 1, 1) := by decide +kernel
theorem dX12_harms_20 : decode cX12_harms 20 = .ok (.bipush 19, 2) := by decide +kernel
theorem dX12_harms_22 : decode cX12_harms 22 = .ok (.iadd, 1) := by decide +kernel
theorem dX12_harms_23 : decode cX12_harms 23 = .ok (.iload_n 2, 1) := by decide +kernel
theorem dX12_harms_24 : decode cX12_harms 24 = .ok (.iadd, 1) := by decide +kernel
theorem dX12_harms_25 : decode cX12_harms 25 = .ok (.iload 4, 2) := by decide +kernel
theorem dX12_harms_27 : decode cX12_harms 27 = .ok (.sipush 9999, 3) := by decide +kernel
theorem dX12_harms_30 : decode cX12_harms 30 = .ok (.if_icmp .le 9, 3) := by decide +kernel
theorem dX12_harms_33 : decode cX12_harms 33 = .ok (.sipush 9999, 3) := by decide +kernel
theorem dX12_harms_36 : decode cX12_harms 36 = .ok (.goto 5, 3) := by decide +kernel
theorem dX12_harms_39 : decode cX12_harms 39 = .ok (.iload 4, 2) := by decide +kernel
theorem dX12_harms_41 : decode cX12_harms 41 = .ok (.iastore, 1) := by decide +kernel
theorem dX12_harms_42 : decode cX12_harms 42 = .ok (.return_, 1) := by decide +kernel
theorem dX12_yearOf_0 : decode cX12_yearOf 0 = .ok (.iconst 0, 1) := by decide +kernel
theorem dX12_yearOf_1 : decode cX12_yearOf 1 = .ok (.istore_n 2, 1) := by decide +kernel
theorem dX12_yearOf_2 : decode cX12_yearOf 2 = .ok (.iload_n 2, 1) := by decide +kernel
theorem dX12_yearOf_3 : decode cX12_yearOf 3 = .ok (.aload_n 0, 1) := by decide +kernel
theorem dX12_yearOf_4 : decode cX12_yearOf 4 = .ok (.getfield 72, 3) := by decide +kernel
theorem dX12_yearOf_7 : decode cX12_yearOf 7 = .ok (.if_icmp .ge 38, 3) := by decide +kernel
theorem dX12_yearOf_10 : decode cX12_yearOf 10 = .ok (.aload_n 0, 1) := by decide +kernel
theorem dX12_yearOf_11 : decode cX12_yearOf 11 = .ok (.iload_n 1, 1) := by decide +kernel
theorem dX12_yearOf_12 : decode cX12_yearOf 12 = .ok (.iload_n 2, 1) := by decide +kernel
theorem dX12_yearOf_13 : decode cX12_yearOf 13 = .ok (.aload_n 0, 1) := by decide +kernel
theorem dX12_yearOf_14 : decode cX12_yearOf 14 = .ok (.getfield 19, 3) := by decide +kernel
theorem dX12_yearOf_17 : decode cX12_yearOf 17 = .ok (.iload_n 1, 1) := by decide +kernel
theorem dX12_yearOf_18 : decode cX12_yearOf 18 = .ok (.bipush 12, 2) := by decide +kernel
theorem dX12_yearOf_20 : decode cX12_yearOf 20 = .ok (.iadd, 1) := by decide +kernel
theorem dX12_yearOf_21 : decode cX12_yearOf 21 = .ok (.iload_n 2, 1) := by decide +kernel
theorem dX12_yearOf_22 : decode cX12_yearOf 22 = .ok (.iadd, 1) := by decide +kernel
theorem dX12_yearOf_23 : decode cX12_yearOf 23 = .ok (.iaload, 1) := by decide +kernel
theorem dX12_yearOf_24 : decode cX12_yearOf 24 = .ok (.invokevirtual 166, 3) := by decide +kernel
theorem dX12_yearOf_27 : decode cX12_yearOf 27 = .ok (.aload_n 0, 1) := by decide +kernel
theorem dX12_yearOf_28 : decode cX12_yearOf 28 = .ok (.getfield 19, 3) := by decide +kernel
theorem dX12_yearOf_31 : decode cX12_yearOf 31 = .ok (.iload_n 1, 1) := by decide +kernel
theorem dX12_yearOf_32 : decode cX12_yearOf 32 = .ok (.bipush 12, 2) := by decide +kernel
theorem dX12_yearOf_34 : decode cX12_yearOf 34 = .ok (.iadd, 1) := by decide +kernel
theorem dX12_yearOf_35 : decode cX12_yearOf 35 = .ok (.iload_n 2, 1) := by decide +kernel
theorem dX12_yearOf_36 : decode cX12_yearOf 36 = .ok (.iadd, 1) := by decide +kernel
theorem dX12_yearOf_37 : decode cX12_yearOf 37 = .ok (.iconst 0, 1) := by decide +kernel
theorem dX12_yearOf_38 : decode cX12_yearOf 38 = .ok (.iastore, 1) := by decide +kernel
theorem dX12_yearOf_39 : decode cX12_yearOf 39 = .ok (.iinc 2 1, 3) := by decide +kernel
theorem dX12_yearOf_42 : decode cX12_yearOf 42 = .ok (.goto (-40), 3) := by decide +kernel
theorem dX12_yearOf_45 : decode cX12_yearOf 45 = .ok (.iconst 0, 1) := by decide +kernel
theorem dX12_yearOf_46 : decode cX12_yearOf 46 = .ok (.istore_n 2, 1) := by decide +kernel
theorem dX12_yearOf_47 : decode cX12_yearOf 47 = .ok (.iload_n 2, 1) := by decide +kernel
theorem dX12_yearOf_48 : decode cX12_yearOf 48 = .ok (.aload_n 0, 1) := by decide +kernel
theorem dX12_yearOf_49 : decode cX12_yearOf 49 = .ok (.getfield 79, 3) := by decide +kernel
theorem dX12_yearOf_52 : decode cX12_yearOf 52 = .ok (.if_icmp .ge 89, 3) := by decide +kernel
theorem dX12_yearOf_55 : decode cX12_yearOf 55 = .ok (.aload_n 0, 1) := by decide +kernel
theorem dX12_yearOf_56 : decode cX12_yearOf 56 = .ok (.iload_n 2, 1) := by decide +kernel
theorem dX12_yearOf_57 : decode cX12_yearOf 57 = .ok (.invokevirtual 162, 3) := by decide +kernel
theorem dX12_yearOf_60 : decode cX12_yearOf 60 = .ok (.istore_n 3, 1) := by decide +kernel
theorem dX12_yearOf_61 : decode cX12_yearOf 61 = .ok (.aload_n 0, 1) := by decide +kernel
theorem dX12_yearOf_62 : decode cX12_yearOf 62 = .ok (.iload_n 1, 1) := by decide +kernel
theorem dX12_yearOf_63 : decode cX12_yearOf 63 = .ok (.iload_n 2, 1) := by decide +kernel
theorem dX12_yearOf_64 : decode cX12_yearOf 64 = .ok (.aload_n 0, 1) := by decide +kernel
theorem dX12_yearOf_65 : decode cX12_yearOf 65 = .ok (.getfield 19, 3) := by decide +kernel
theorem dX12_yearOf_68 : decode cX12_yearOf 68 = .ok (.iload_n 1, 1) := by decide +kernel
theorem dX12_yearOf_69 : decode cX12_yearOf 69 = .ok (.iconst 2, 1) := by decide +kernel
theorem dX12_yearOf_70 : decode cX12_yearOf 70 = .ok (.iadd, 1) := by decide +kernel
theorem dX12_yearOf_71 : decode cX12_yearOf 71 = .ok (.iaload, 1) := by decide +kernel
theorem dX12_yearOf_72 : decode cX12_yearOf 72 = .ok (.invokevirtual 170, 3) := by decide +kernel
theorem dX12_yearOf_75 : decode cX12_yearOf 75 = .ok (.istore 4, 2) := by decide +kernel
theorem dX12_yearOf_77 : decode cX12_yearOf 77 = .ok (.iconst 0, 1) := by decide +kernel
theorem dX12_yearOf_78 : decode cX12_yearOf 78 = .ok (.istore 5, 2) := by decide +kernel
theorem dX12_yearOf_80 : decode cX12_yearOf 80 = .ok (.iload 5, 2) := by decide +kernel
theorem dX12_yearOf_82 : decode cX12_yearOf 82 = .ok (.aload_n 0, 1) := by decide +kernel
theorem dX12_yearOf_83 : decode cX12_yearOf 83 = .ok (.getfield 72, 3) := by decide +kernel
theorem dX12_yearOf_86 : decode cX12_yearOf 86 = .ok (.if_icmp .ge 36, 3) := by decide +kernel
theorem dX12_yearOf_89 : decode cX12_yearOf 89 = .ok (.aload_n 0, 1) := by decide +kernel
theorem dX12_yearOf_90 : decode cX12_yearOf 90 = .ok (.iload_n 1, 1) := by decide +kernel
theorem dX12_yearOf_91 : decode cX12_yearOf 91 = .ok (.iload 5, 2) := by decide +kernel
theorem dX12_yearOf_93 : decode cX12_yearOf 93 = .ok (.iload_n 3, 1) := by decide +kernel
theorem dX12_yearOf_94 : decode cX12_yearOf 94 = .ok (.iload 5, 2) := by decide +kernel
theorem dX12_yearOf_96 : decode cX12_yearOf 96 = .ok (.invokestatic 174, 3) := by decide +kernel
theorem dX12_yearOf_99 : decode cX12_yearOf 99 = .ok (.ifCond .eq 13, 3) := by decide +kernel
theorem dX12_yearOf_102 : decode cX12_yearOf 102 = .ok (.iload 4, 2) := by decide +kernel
theorem dX12_yearOf_104 : decode cX12_yearOf 104 = .ok (.iload_n 3, 1) := by decide +kernel
theorem dX12_yearOf_105 : decode cX12_yearOf 105 = .ok (.invokestatic 178, 3) := by decide +kernel
theorem dX12_yearOf_108 : decode cX12_yearOf 108 = .ok (.idiv, 1) := by decide +kernel
theorem dX12_yearOf_109 : decode cX12_yearOf 109 = .ok (.goto 4, 3) := by decide +kernel
theorem dX12_yearOf_112 : decode cX12_yearOf 112 = .ok (.iconst 0, 1) := by decide +kernel
theorem dX12_yearOf_113 : decode cX12_yearOf 113 = .ok (.invokevirtual 166, 3) := by decide +kernel
theorem dX12_yearOf_116 : decode cX12_yearOf 116 = .ok (.iinc 5 1, 3) := by decide +kernel
theorem dX12_yearOf_119 : decode cX12_yearOf 119 = .ok (.goto (-39), 3) := by decide +kernel
theorem dX12_yearOf_122 : decode cX12_yearOf 122 = .ok (.aload_n 0, 1) := by decide +kernel
theorem dX12_yearOf_123 : decode cX12_yearOf 123 = .ok (.getfield 19, 3) := by decide +kernel
theorem dX12_yearOf_126 : decode cX12_yearOf 126 = .ok (.iload_n 1, 1) := by decide +kernel
theorem dX12_yearOf_127 : decode cX12_yearOf 127 = .ok (.iconst 2, 1) := by decide +kernel
theorem dX12_yearOf_128 : decode cX12_yearOf 128 = .ok (.iadd, 1) := by decide +kernel
theorem dX12_yearOf_129 : decode cX12_yearOf 129 = .ok (.dup2, 1) := by decide +kernel
theorem dX12_yearOf_130 : decode cX12_yearOf 130 = .ok (.iaload, 1) := by decide +kernel
theorem dX12_yearOf_131 : decode cX12_yearOf 131 = .ok (.iload 4, 2) := by decide +kernel
theorem dX12_yearOf_133 : decode cX12_yearOf 133 = .ok (.isub, 1) := by decide +kernel
theorem dX12_yearOf_134 : decode cX12_yearOf 134 = .ok (.iastore, 1) := by decide +kernel
theorem dX12_yearOf_135 : decode cX12_yearOf 135 = .ok (.iinc 2 1, 3) := by decide +kernel
theorem dX12_yearOf_138 : decode cX12_yearOf 138 = .ok (.goto (-91), 3) := by decide +kernel
theorem dX12_yearOf_141 : decode cX12_yearOf 141 = .ok (.aload_n 0, 1) := by decide +kernel
theorem dX12_yearOf_142 : decode cX12_yearOf 142 = .ok (.getfield 19, 3) := by decide +kernel
theorem dX12_yearOf_145 : decode cX12_yearOf 145 = .ok (.iload_n 1, 1) := by decide +kernel
theorem dX12_yearOf_146 : decode cX12_yearOf 146 = .ok (.iconst 0, 1) := by decide +kernel
theorem dX12_yearOf_147 : decode cX12_yearOf 147 = .ok (.iadd, 1) := by decide +kernel
theorem dX12_yearOf_148 : decode cX12_yearOf 148 = .ok (.aload_n 0, 1) := by decide +kernel
theorem dX12_yearOf_149 : decode cX12_yearOf 149 = .ok (.getfield 69, 3) := by decide +kernel
theorem dX12_yearOf_152 : decode cX12_yearOf 152 = .ok (.iastore, 1) := by decide +kernel
theorem dX12_yearOf_153 : decode cX12_yearOf 153 = .ok (.aload_n 0, 1) := by decide +kernel
theorem dX12_yearOf_154 : decode cX12_yearOf 154 = .ok (.getfield 19, 3) := by decide +kernel
theorem dX12_yearOf_157 : decode cX12_yearOf 157 = .ok (.iload_n 1, 1) := by decide +kernel
theorem dX12_yearOf_158 : decode cX12_yearOf 158 = .ok (.iconst 1, 1) := by decide +kernel
theorem dX12_yearOf_159 : decode cX12_yearOf 159 = .ok (.iadd, 1) := by decide +kernel
theorem dX12_yearOf_160 : decode cX12_yearOf 160 = .ok (.dup2, 1) := by decide +kernel
theorem dX12_yearOf_161 : decode cX12_yearOf 161 = .ok (.iaload, 1) := by decide +kernel
theorem dX12_yearOf_162 : decode cX12_yearOf 162 = .ok (.iconst 1, 1) := by decide +kernel
theorem dX12_yearOf_163 : decode cX12_yearOf 163 = .ok (.iadd, 1) := by decide +kernel
theorem dX12_yearOf_164 : decode cX12_yearOf 164 = .ok (.iastore, 1) := by decide +kernel
theorem dX12_yearOf_165 : decode cX12_yearOf 165 = .ok (.aload_n 0, 1) := by decide +kernel
theorem dX12_yearOf_166 : decode cX12_yearOf 166 = .ok (.getfield 19, 3) := by decide +kernel
theorem dX12_yearOf_169 : decode cX12_yearOf 169 = .ok (.iload_n 1, 1) := by decide +kernel
theorem dX12_yearOf_170 : decode cX12_yearOf 170 = .ok (.iconst 3, 1) := by decide +kernel
theorem dX12_yearOf_171 : decode cX12_yearOf 171 = .ok (.iadd, 1) := by decide +kernel
theorem dX12_yearOf_172 : decode cX12_yearOf 172 = .ok (.iconst 0, 1) := by decide +kernel
theorem dX12_yearOf_173 : decode cX12_yearOf 173 = .ok (.iastore, 1) := by decide +kernel
theorem dX12_yearOf_174 : decode cX12_yearOf 174 = .ok (.aload_n 0, 1) := by decide +kernel
theorem dX12_yearOf_175 : decode cX12_yearOf 175 = .ok (.getfield 19, 3) := by decide +kernel
theorem dX12_yearOf_178 : decode cX12_yearOf 178 = .ok (.iload_n 1, 1) := by decide +kernel
theorem dX12_yearOf_179 : decode cX12_yearOf 179 = .ok (.iconst 4, 1) := by decide +kernel
theorem dX12_yearOf_180 : decode cX12_yearOf 180 = .ok (.iadd, 1) := by decide +kernel
theorem dX12_yearOf_181 : decode cX12_yearOf 181 = .ok (.iconst 0, 1) := by decide +kernel
theorem dX12_yearOf_182 : decode cX12_yearOf 182 = .ok (.iastore, 1) := by decide +kernel
theorem dX12_yearOf_183 : decode cX12_yearOf 183 = .ok (.return_, 1) := by decide +kernel
theorem dX12_tries_0 : decode cX12_tries 0 = .ok (.iconst 0, 1) := by decide +kernel
theorem dX12_tries_1 : decode cX12_tries 1 = .ok (.istore_n 1, 1) := by decide +kernel
theorem dX12_tries_2 : decode cX12_tries 2 = .ok (.iload_n 1, 1) := by decide +kernel
theorem dX12_tries_3 : decode cX12_tries 3 = .ok (.bipush 30, 2) := by decide +kernel
theorem dX12_tries_5 : decode cX12_tries 5 = .ok (.if_icmp .ge 24, 3) := by decide +kernel
theorem dX12_tries_8 : decode cX12_tries 8 = .ok (.aload_n 0, 1) := by decide +kernel
theorem dX12_tries_9 : decode cX12_tries 9 = .ok (.getfield 19, 3) := by decide +kernel
theorem dX12_tries_12 : decode cX12_tries 12 = .ok (.bipush 30, 2) := by decide +kernel
theorem dX12_tries_14 : decode cX12_tries 14 = .ok (.iload_n 1, 1) := by decide +kernel
theorem dX12_tries_15 : decode cX12_tries 15 = .ok (.iadd, 1) := by decide +kernel
theorem dX12_tries_16 : decode cX12_tries 16 = .ok (.aload_n 0, 1) := by decide +kernel
theorem dX12_tries_17 : decode cX12_tries 17 = .ok (.getfield 19, 3) := by decide +kernel
theorem dX12_tries_20 : decode cX12_tries 20 = .ok (.iload_n 1, 1) := by decide +kernel
theorem dX12_tries_21 : decode cX12_tries 21 = .ok (.iaload, 1) := by decide +kernel
theorem dX12_tries_22 : decode cX12_tries 22 = .ok (.iastore, 1) := by decide +kernel
theorem dX12_tries_23 : decode cX12_tries 23 = .ok (.iinc 1 1, 3) := by decide +kernel
theorem dX12_tries_26 : decode cX12_tries 26 = .ok (.goto (-24), 3) := by decide +kernel
theorem dX12_tries_29 : decode cX12_tries 29 = .ok (.return_, 1) := by decide +kernel
theorem dX12_had_0 : decode cX12_had 0 = .ok (.aload_n 0, 1) := by decide +kernel
theorem dX12_had_1 : decode cX12_had 1 = .ok (.getfield 19, 3) := by decide +kernel
theorem dX12_had_4 : decode cX12_had 4 = .ok (.iconst 2, 1) := by decide +kernel
theorem dX12_had_5 : decode cX12_had 5 = .ok (.iaload, 1) := by decide +kernel
theorem dX12_had_6 : decode cX12_had 6 = .ok (.istore_n 2, 1) := by decide +kernel
theorem dX12_had_7 : decode cX12_had 7 = .ok (.iconst 0, 1) := by decide +kernel
theorem dX12_had_8 : decode cX12_had 8 = .ok (.istore_n 3, 1) := by decide +kernel
theorem dX12_had_9 : decode cX12_had 9 = .ok (.iconst 0, 1) := by decide +kernel
theorem dX12_had_10 : decode cX12_had 10 = .ok (.istore 4, 2) := by decide +kernel
theorem dX12_had_12 : decode cX12_had 12 = .ok (.iload 4, 2) := by decide +kernel
theorem dX12_had_14 : decode cX12_had 14 = .ok (.iload_n 1, 1) := by decide +kernel
theorem dX12_had_15 : decode cX12_had 15 = .ok (.if_icmp .gt 22, 3) := by decide +kernel
theorem dX12_had_18 : decode cX12_had 18 = .ok (.aload_n 0, 1) := by decide +kernel
theorem dX12_had_19 : decode cX12_had 19 = .ok (.iconst 0, 1) := by decide +kernel
theorem dX12_had_20 : decode cX12_had 20 = .ok (.iload 4, 2) := by decide +kernel
theorem dX12_had_22 : decode cX12_had 22 = .ok (.iload_n 2, 1) := by decide +kernel
theorem dX12_had_23 : decode cX12_had 23 = .ok (.invokevirtual 170, 3) := by decide +kernel
theorem dX12_had_26 : decode cX12_had 26 = .ok (.istore_n 3, 1) := by decide +kernel
theorem dX12_had_27 : decode cX12_had 27 = .ok (.iload_n 2, 1) := by decide +kernel
theorem dX12_had_28 : decode cX12_had 28 = .ok (.iload_n 3, 1) := by decide +kernel
theorem dX12_had_29 : decode cX12_had 29 = .ok (.isub, 1) := by decide +kernel
theorem dX12_had_30 : decode cX12_had 30 = .ok (.istore_n 2, 1) := by decide +kernel
theorem dX12_had_31 : decode cX12_had 31 = .ok (.iinc 4 1, 3) := by decide +kernel
theorem dX12_had_34 : decode cX12_had 34 = .ok (.goto (-22), 3) := by decide +kernel
theorem dX12_had_37 : decode cX12_had 37 = .ok (.iload_n 3, 1) := by decide +kernel
theorem dX12_had_38 : decode cX12_had 38 = .ok (.ireturn, 1) := by decide +kernel
theorem dX12_borne_0 : decode cX12_borne 0 = .ok (.aload_n 0, 1) := by decide +kernel
theorem dX12_borne_1 : decode cX12_borne 1 = .ok (.invokevirtual 181, 3) := by decide +kernel
theorem dX12_borne_4 : decode cX12_borne 4 = .ok (.aload_n 0, 1) := by decide +kernel
theorem dX12_borne_5 : decode cX12_borne 5 = .ok (.bipush 30, 2) := by decide +kernel
theorem dX12_borne_7 : decode cX12_borne 7 = .ok (.invokevirtual 184, 3) := by decide +kernel
theorem dX12_borne_10 : decode cX12_borne 10 = .ok (.aload_n 0, 1) := by decide +kernel
theorem dX12_borne_11 : decode cX12_borne 11 = .ok (.getfield 19, 3) := by decide +kernel
theorem dX12_borne_14 : decode cX12_borne 14 = .ok (.bipush 32, 2) := by decide +kernel
theorem dX12_borne_16 : decode cX12_borne 16 = .ok (.iaload, 1) := by decide +kernel
theorem dX12_borne_17 : decode cX12_borne 17 = .ok (.ifCond .ne 7, 3) := by decide +kernel
theorem dX12_borne_20 : decode cX12_borne 20 = .ok (.iconst 1, 1) := by decide +kernel
theorem dX12_borne_21 : decode cX12_borne 21 = .ok (.goto 4, 3) := by decide +kernel
theorem dX12_borne_24 : decode cX12_borne 24 = .ok (.iconst 0, 1) := by decide +kernel
theorem dX12_borne_25 : decode cX12_borne 25 = .ok (.ireturn, 1) := by decide +kernel
theorem dX12_madeUp_0 : decode cX12_madeUp 0 = .ok (.aload_n 0, 1) := by decide +kernel
theorem dX12_madeUp_1 : decode cX12_madeUp 1 = .ok (.invokevirtual 181, 3) := by decide +kernel
theorem dX12_madeUp_4 : decode cX12_madeUp 4 = .ok (.iconst 0, 1) := by decide +kernel
theorem dX12_madeUp_5 : decode cX12_madeUp 5 = .ok (.istore_n 1, 1) := by decide +kernel
theorem dX12_madeUp_6 : decode cX12_madeUp 6 = .ok (.iload_n 1, 1) := by decide +kernel
theorem dX12_madeUp_7 : decode cX12_madeUp 7 = .ok (.bipush 60, 2) := by decide +kernel
theorem dX12_madeUp_9 : decode cX12_madeUp 9 = .ok (.if_icmp .gt 27, 3) := by decide +kernel
theorem dX12_madeUp_12 : decode cX12_madeUp 12 = .ok (.aload_n 0, 1) := by decide +kernel
theorem dX12_madeUp_13 : decode cX12_madeUp 13 = .ok (.getfield 19, 3) := by decide +kernel
theorem dX12_madeUp_16 : decode cX12_madeUp 16 = .ok (.bipush 32, 2) := by decide +kernel
theorem dX12_madeUp_18 : decode cX12_madeUp 18 = .ok (.iaload, 1) := by decide +kernel
theorem dX12_madeUp_19 : decode cX12_madeUp 19 = .ok (.ifCond .ne 5, 3) := by decide +kernel
theorem dX12_madeUp_22 : decode cX12_madeUp 22 = .ok (.iload_n 1, 1) := by decide +kernel
theorem dX12_madeUp_23 : decode cX12_madeUp 23 = .ok (.ireturn, 1) := by decide +kernel
theorem dX12_madeUp_24 : decode cX12_madeUp 24 = .ok (.aload_n 0, 1) := by decide +kernel
theorem dX12_madeUp_25 : decode cX12_madeUp 25 = .ok (.bipush 30, 2) := by decide +kernel
theorem dX12_madeUp_27 : decode cX12_madeUp 27 = .ok (.invokevirtual 184, 3) := by decide +kernel
theorem dX12_madeUp_30 : decode cX12_madeUp 30 = .ok (.iinc 1 1, 3) := by decide +kernel
theorem dX12_madeUp_33 : decode cX12_madeUp 33 = .ok (.goto (-27), 3) := by decide +kernel
theorem dX12_madeUp_36 : decode cX12_madeUp 36 = .ok (.iconst (-1), 1) := by decide +kernel
theorem dX12_madeUp_37 : decode cX12_madeUp 37 = .ok (.ireturn, 1) := by decide +kernel
theorem dX12_toldFate_0 : decode cX12_toldFate 0 = .ok (.iconst 0, 1) := by decide +kernel
theorem dX12_toldFate_1 : decode cX12_toldFate 1 = .ok (.istore_n 1, 1) := by decide +kernel
theorem dX12_toldFate_2 : decode cX12_toldFate 2 = .ok (.iconst 0, 1) := by decide +kernel
theorem dX12_toldFate_3 : decode cX12_toldFate 3 = .ok (.istore_n 2, 1) := by decide +kernel
theorem dX12_toldFate_4 : decode cX12_toldFate 4 = .ok (.iload_n 2, 1) := by decide +kernel
theorem dX12_toldFate_5 : decode cX12_toldFate 5 = .ok (.aload_n 0, 1) := by decide +kernel
theorem dX12_toldFate_6 : decode cX12_toldFate 6 = .ok (.getfield 72, 3) := by decide +kernel
theorem dX12_toldFate_9 : decode cX12_toldFate 9 = .ok (.if_icmp .ge 31, 3) := by decide +kernel
theorem dX12_toldFate_12 : decode cX12_toldFate 12 = .ok (.iload_n 1, 1) := by decide +kernel
theorem dX12_toldFate_13 : decode cX12_toldFate 13 = .ok (.aload_n 0, 1) := by decide +kernel
theorem dX12_toldFate_14 : decode cX12_toldFate 14 = .ok (.getfield 19, 3) := by decide +kernel
theorem dX12_toldFate_17 : decode cX12_toldFate 17 = .ok (.bipush 12, 2) := by decide +kernel
theorem dX12_toldFate_19 : decode cX12_toldFate 19 = .ok (.iload_n 2, 1) := by decide +kernel
theorem dX12_toldFate_20 : decode cX12_toldFate 20 = .ok (.iadd, 1) := by decide +kernel
theorem dX12_toldFate_21 : decode cX12_toldFate 21 = .ok (.iaload, 1) := by decide +kernel
theorem dX12_toldFate_22 : decode cX12_toldFate 22 = .ok (.ifCond .le 9, 3) := by decide +kernel
theorem dX12_toldFate_25 : decode cX12_toldFate 25 = .ok (.iconst 1, 1) := by decide +kernel
theorem dX12_toldFate_26 : decode cX12_toldFate 26 = .ok (.iload_n 2, 1) := by decide +kernel
theorem dX12_toldFate_27 : decode cX12_toldFate 27 = .ok (.ishl, 1) := by decide +kernel
theorem dX12_toldFate_28 : decode cX12_toldFate 28 = .ok (.goto 4, 3) := by decide +kernel
theorem dX12_toldFate_31 : decode cX12_toldFate 31 = .ok (.iconst 0, 1) := by decide +kernel
theorem dX12_toldFate_32 : decode cX12_toldFate 32 = .ok (.ior, 1) := by decide +kernel
theorem dX12_toldFate_33 : decode cX12_toldFate 33 = .ok (.istore_n 1, 1) := by decide +kernel
theorem dX12_toldFate_34 : decode cX12_toldFate 34 = .ok (.iinc 2 1, 3) := by decide +kernel
theorem dX12_toldFate_37 : decode cX12_toldFate 37 = .ok (.goto (-33), 3) := by decide +kernel
theorem dX12_toldFate_40 : decode cX12_toldFate 40 = .ok (.iload_n 1, 1) := by decide +kernel
theorem dX12_toldFate_41 : decode cX12_toldFate 41 = .ok (.ireturn, 1) := by decide +kernel
theorem dX12_worst_0 : decode cX12_worst 0 = .ok (.iconst (-1), 1) := by decide +kernel
theorem dX12_worst_1 : decode cX12_worst 1 = .ok (.istore_n 1, 1) := by decide +kernel
theorem dX12_worst_2 : decode cX12_worst 2 = .ok (.iconst (-1), 1) := by decide +kernel
theorem dX12_worst_3 : decode cX12_worst 3 = .ok (.istore_n 2, 1) := by decide +kernel
theorem dX12_worst_4 : decode cX12_worst 4 = .ok (.iconst 0, 1) := by decide +kernel
theorem dX12_worst_5 : decode cX12_worst 5 = .ok (.istore_n 3, 1) := by decide +kernel
theorem dX12_worst_6 : decode cX12_worst 6 = .ok (.iload_n 3, 1) := by decide +kernel
theorem dX12_worst_7 : decode cX12_worst 7 = .ok (.aload_n 0, 1) := by decide +kernel
theorem dX12_worst_8 : decode cX12_worst 8 = .ok (.getfield 72, 3) := by decide +kernel
theorem dX12_worst_11 : decode cX12_worst 11 = .ok (.if_icmp .ge 55, 3) := by decide +kernel
theorem dX12_worst_14 : decode cX12_worst 14 = .ok (.aload_n 0, 1) := by decide +kernel
theorem dX12_worst_15 : decode cX12_worst 15 = .ok (.getfield 19, 3) := by decide +kernel
theorem dX12_worst_18 : decode cX12_worst 18 = .ok (.bipush 19, 2) := by decide +kernel
theorem dX12_worst_20 : decode cX12_worst 20 = .ok (.iload_n 3, 1) := by decide +kernel
theorem dX12_worst_21 : decode cX12_worst 21 = .ok (.iadd, 1) := by decide +kernel
theorem dX12_worst_22 : decode cX12_worst 22 = .ok (.iaload, 1) := by decide +kernel
theorem dX12_worst_23 : decode cX12_worst 23 = .ok (.iload_n 2, 1) := by decide +kernel
theorem dX12_worst_24 : decode cX12_worst 24 = .ok (.if_icmp .le 7, 3) := by decide +kernel
theorem dX12_worst_27 : decode cX12_worst 27 = .ok (.iload_n 3, 1) := by decide +kernel
theorem dX12_worst_28 : decode cX12_worst 28 = .ok (.goto 4, 3) := by decide +kernel
theorem dX12_worst_31 : decode cX12_worst 31 = .ok (.iload_n 1, 1) := by decide +kernel
theorem dX12_worst_32 : decode cX12_worst 32 = .ok (.istore_n 1, 1) := by decide +kernel
theorem dX12_worst_33 : decode cX12_worst 33 = .ok (.aload_n 0, 1) := by decide +kernel
theorem dX12_worst_34 : decode cX12_worst 34 = .ok (.getfield 19, 3) := by decide +kernel
theorem dX12_worst_37 : decode cX12_worst 37 = .ok (.bipush 19, 2) := by decide +kernel
theorem dX12_worst_39 : decode cX12_worst 39 = .ok (.iload_n 3, 1) := by decide +kernel
theorem dX12_worst_40 : decode cX12_worst 40 = .ok (.iadd, 1) := by decide +kernel
theorem dX12_worst_41 : decode cX12_worst 41 = .ok (.iaload, 1) := by decide +kernel
theorem dX12_worst_42 : decode cX12_worst 42 = .ok (.iload_n 2, 1) := by decide +kernel
theorem dX12_worst_43 : decode cX12_worst 43 = .ok (.if_icmp .le 15, 3) := by decide +kernel
theorem dX12_worst_46 : decode cX12_worst 46 = .ok (.aload_n 0, 1) := by decide +kernel
theorem dX12_worst_47 : decode cX12_worst 47 = .ok (.getfield 19, 3) := by decide +kernel
theorem dX12_worst_50 : decode cX12_worst 50 = .ok (.bipush 19, 2) := by decide +kernel
theorem dX12_worst_52 : decode cX12_worst 52 = .ok (.iload_n 3, 1) := by decide +kernel
theorem dX12_worst_53 : decode cX12_worst 53 = .ok (.iadd, 1) := by decide +kernel
theorem dX12_worst_54 : decode cX12_worst 54 = .ok (.iaload, 1) := by decide +kernel
theorem dX12_worst_55 : decode cX12_worst 55 = .ok (.goto 4, 3) := by decide +kernel
theorem dX12_worst_58 : decode cX12_worst 58 = .ok (.iload_n 2, 1) := by decide +kernel
theorem dX12_worst_59 : decode cX12_worst 59 = .ok (.istore_n 2, 1) := by decide +kernel
theorem dX12_worst_60 : decode cX12_worst 60 = .ok (.iinc 3 1, 3) := by decide +kernel
theorem dX12_worst_63 : decode cX12_worst 63 = .ok (.goto (-57), 3) := by decide +kernel
theorem dX12_worst_66 : decode cX12_worst 66 = .ok (.iload_n 1, 1) := by decide +kernel
theorem dX12_worst_67 : decode cX12_worst 67 = .ok (.ireturn, 1) := by decide +kernel
theorem dX12_told_0 : decode cX12_told 0 = .ok (.iload_n 1, 1) := by decide +kernel
theorem dX12_told_1 : decode cX12_told 1 = .ok (.tableswitch 207 0 18 #[91, 98, 103, 108, 113, 118, 125, 132, 137, 155, 162, 167, 172, 177, 182, 187, 192, 197, 202], 91) := by decide +kernel
theorem dX12_told_92 : decode cX12_told 92 = .ok (.aload_n 0, 1) := by decide +kernel
theorem dX12_told_93 : decode cX12_told 93 = .ok (.getfield 19, 3) := by decide +kernel
theorem dX12_told_96 : decode cX12_told 96 = .ok (.iconst 0, 1) := by decide +kernel
theorem dX12_told_97 : decode cX12_told 97 = .ok (.iaload, 1) := by decide +kernel
theorem dX12_told_98 : decode cX12_told 98 = .ok (.ireturn, 1) := by decide +kernel
theorem dX12_told_99 : decode cX12_told 99 = .ok (.aload_n 0, 1) := by decide +kernel
theorem dX12_told_100 : decode cX12_told 100 = .ok (.getfield 135, 3) := by decide +kernel
theorem dX12_told_103 : decode cX12_told 103 = .ok (.ireturn, 1) := by decide +kernel
theorem dX12_told_104 : decode cX12_told 104 = .ok (.aload_n 0, 1) := by decide +kernel
theorem dX12_told_105 : decode cX12_told 105 = .ok (.getfield 79, 3) := by decide +kernel
theorem dX12_told_108 : decode cX12_told 108 = .ok (.ireturn, 1) := by decide +kernel
theorem dX12_told_109 : decode cX12_told 109 = .ok (.aload_n 0, 1) := by decide +kernel
theorem dX12_told_110 : decode cX12_told 110 = .ok (.getfield 72, 3) := by decide +kernel
theorem dX12_told_113 : decode cX12_told 113 = .ok (.ireturn, 1) := by decide +kernel
theorem dX12_told_114 : decode cX12_told 114 = .ok (.aload_n 0, 1) := by decide +kernel
theorem dX12_told_115 : decode cX12_told 115 = .ok (.getfield 85, 3) := by decide +kernel
theorem dX12_told_118 : decode cX12_told 118 = .ok (.ireturn, 1) := by decide +kernel
theorem dX12_told_119 : decode cX12_told 119 = .ok (.aload_n 0, 1) := by decide +kernel
theorem dX12_told_120 : decode cX12_told 120 = .ok (.getfield 19, 3) := by decide +kernel
theorem dX12_told_123 : decode cX12_told 123 = .ok (.iconst 1, 1) := by decide +kernel
theorem dX12_told_124 : decode cX12_told 124 = .ok (.iaload, 1) := by decide +kernel
theorem dX12_told_125 : decode cX12_told 125 = .ok (.ireturn, 1) := by decide +kernel
theorem dX12_told_126 : decode cX12_told 126 = .ok (.aload_n 0, 1) := by decide +kernel
theorem dX12_told_127 : decode cX12_told 127 = .ok (.getfield 19, 3) := by decide +kernel
theorem dX12_told_130 : decode cX12_told 130 = .ok (.iconst 2, 1) := by decide +kernel
theorem dX12_told_131 : decode cX12_told 131 = .ok (.iaload, 1) := by decide +kernel
theorem dX12_told_132 : decode cX12_told 132 = .ok (.ireturn, 1) := by decide +kernel
theorem dX12_told_133 : decode cX12_told 133 = .ok (.aload_n 0, 1) := by decide +kernel
theorem dX12_told_134 : decode cX12_told 134 = .ok (.invokevirtual 188, 3) := by decide +kernel
theorem dX12_told_137 : decode cX12_told 137 = .ok (.ireturn, 1) := by decide +kernel
theorem dX12_told_138 : decode cX12_told 138 = .ok (.iconst 1, 1) := by decide +kernel
theorem dX12_told_139 : decode cX12_told 139 = .ok (.aload_n 0, 1) := by decide +kernel
theorem dX12_told_140 : decode cX12_told 140 = .ok (.getfield 72, 3) := by decide +kernel
theorem dX12_told_143 : decode cX12_told 143 = .ok (.ishl, 1) := by decide +kernel
theorem dX12_told_144 : decode cX12_told 144 = .ok (.iconst 1, 1) := by decide +kernel
theorem dX12_told_145 : decode cX12_told 145 = .ok (.isub, 1) := by decide +kernel
theorem dX12_told_146 : decode cX12_told 146 = .ok (.aload_n 0, 1) := by decide +kernel
theorem dX12_told_147 : decode cX12_told 147 = .ok (.getfield 19, 3) := by decide +kernel
theorem dX12_told_150 : decode cX12_told 150 = .ok (.iconst 4, 1) := by decide +kernel
theorem dX12_told_151 : decode cX12_told 151 = .ok (.iaload, 1) := by decide +kernel
theorem dX12_told_152 : decode cX12_told 152 = .ok (.iconst (-1), 1) := by decide +kernel
theorem dX12_told_153 : decode cX12_told 153 = .ok (.ixor, 1) := by decide +kernel
theorem dX12_told_154 : decode cX12_told 154 = .ok (.iand, 1) := by decide +kernel
theorem dX12_told_155 : decode cX12_told 155 = .ok (.ireturn, 1) := by decide +kernel
theorem dX12_told_156 : decode cX12_told 156 = .ok (.aload_n 0, 1) := by decide +kernel
theorem dX12_told_157 : decode cX12_told 157 = .ok (.getfield 19, 3) := by decide +kernel
theorem dX12_told_160 : decode cX12_told 160 = .ok (.iconst 3, 1) := by decide +kernel
theorem dX12_told_161 : decode cX12_told 161 = .ok (.iaload, 1) := by decide +kernel
theorem dX12_told_162 : decode cX12_told 162 = .ok (.ireturn, 1) := by decide +kernel
theorem dX12_told_163 : decode cX12_told 163 = .ok (.aload_n 0, 1) := by decide +kernel
theorem dX12_told_164 : decode cX12_told 164 = .ok (.invokevirtual 191, 3) := by decide +kernel
theorem dX12_told_167 : decode cX12_told 167 = .ok (.ireturn, 1) := by decide +kernel
theorem dX12_told_168 : decode cX12_told 168 = .ok (.aload_n 0, 1) := by decide +kernel
theorem dX12_told_169 : decode cX12_told 169 = .ok (.invokevirtual 194, 3) := by decide +kernel
theorem dX12_told_172 : decode cX12_told 172 = .ok (.ireturn, 1) := by decide +kernel
theorem dX12_told_173 : decode cX12_told 173 = .ok (.aload_n 0, 1) := by decide +kernel
theorem dX12_told_174 : decode cX12_told 174 = .ok (.invokevirtual 197, 3) := by decide +kernel
theorem dX12_told_177 : decode cX12_told 177 = .ok (.ireturn, 1) := by decide +kernel
theorem dX12_told_178 : decode cX12_told 178 = .ok (.aload_n 0, 1) := by decide +kernel
theorem dX12_told_179 : decode cX12_told 179 = .ok (.getfield 144, 3) := by decide +kernel
theorem dX12_told_182 : decode cX12_told 182 = .ok (.ireturn, 1) := by decide +kernel
theorem dX12_told_183 : decode cX12_told 183 = .ok (.aload_n 0, 1) := by decide +kernel
theorem dX12_told_184 : decode cX12_told 184 = .ok (.invokevirtual 200, 3) := by decide +kernel
theorem dX12_told_187 : decode cX12_told 187 = .ok (.ireturn, 1) := by decide +kernel
theorem dX12_told_188 : decode cX12_told 188 = .ok (.aload_n 0, 1) := by decide +kernel
theorem dX12_told_189 : decode cX12_told 189 = .ok (.invokevirtual 203, 3) := by decide +kernel
theorem dX12_told_192 : decode cX12_told 192 = .ok (.ireturn, 1) := by decide +kernel
theorem dX12_told_193 : decode cX12_told 193 = .ok (.aload_n 0, 1) := by decide +kernel
theorem dX12_told_194 : decode cX12_told 194 = .ok (.invokevirtual 206, 3) := by decide +kernel
theorem dX12_told_197 : decode cX12_told 197 = .ok (.ireturn, 1) := by decide +kernel
theorem dX12_told_198 : decode cX12_told 198 = .ok (.aload_n 0, 1) := by decide +kernel
theorem dX12_told_199 : decode cX12_told 199 = .ok (.getfield 147, 3) := by decide +kernel
theorem dX12_told_202 : decode cX12_told 202 = .ok (.ireturn, 1) := by decide +kernel
theorem dX12_told_203 : decode cX12_told 203 = .ok (.aload_n 0, 1) := by decide +kernel
theorem dX12_told_204 : decode cX12_told 204 = .ok (.getfield 150, 3) := by decide +kernel
theorem dX12_told_207 : decode cX12_told 207 = .ok (.ireturn, 1) := by decide +kernel
theorem dX12_told_208 : decode cX12_told 208 = .ok (.ldc 84, 2) := by decide +kernel
theorem dX12_told_210 : decode cX12_told 210 = .ok (.ireturn, 1) := by decide +kernel
theorem dX12_ringOf_0 : decode cX12_ringOf 0 = .ok (.iload_n 1, 1) := by decide +kernel
theorem dX12_ringOf_1 : decode cX12_ringOf 1 = .ok (.istore_n 2, 1) := by decide +kernel
theorem dX12_ringOf_2 : decode cX12_ringOf 2 = .ok (.iconst 0, 1) := by decide +kernel
theorem dX12_ringOf_3 : decode cX12_ringOf 3 = .ok (.istore_n 3, 1) := by decide +kernel
theorem dX12_ringOf_4 : decode cX12_ringOf 4 = .ok (.iload_n 3, 1) := by decide +kernel
theorem dX12_ringOf_5 : decode cX12_ringOf 5 = .ok (.aload_n 0, 1) := by decide +kernel
theorem dX12_ringOf_6 : decode cX12_ringOf 6 = .ok (.getfield 72, 3) := by decide +kernel
theorem dX12_ringOf_9 : decode cX12_ringOf 9 = .ok (.if_icmp .ge 26, 3) := by decide +kernel
theorem dX12_ringOf_12 : decode cX12_ringOf 12 = .ok (.aload_n 0, 1) := by decide +kernel
theorem dX12_ringOf_13 : decode cX12_ringOf 13 = .ok (.getfield 16, 3) := by decide +kernel
theorem dX12_ringOf_16 : decode cX12_ringOf 16 = .ok (.iload_n 2, 1) := by decide +kernel
theorem dX12_ringOf_17 : decode cX12_ringOf 17 = .ok (.iaload, 1) := by decide +kernel
theorem dX12_ringOf_18 : decode cX12_ringOf 18 = .ok (.iconst (-1), 1) := by decide +kernel
theorem dX12_ringOf_19 : decode cX12_ringOf 19 = .ok (.if_icmp .eq 16, 3) := by decide +kernel
theorem dX12_ringOf_22 : decode cX12_ringOf 22 = .ok (.aload_n 0, 1) := by decide +kernel
theorem dX12_ringOf_23 : decode cX12_ringOf 23 = .ok (.getfield 16, 3) := by decide +kernel
theorem dX12_ringOf_26 : decode cX12_ringOf 26 = .ok (.iload_n 2, 1) := by decide +kernel
theorem dX12_ringOf_27 : decode cX12_ringOf 27 = .ok (.iaload, 1) := by decide +kernel
theorem dX12_ringOf_28 : decode cX12_ringOf 28 = .ok (.istore_n 2, 1) := by decide +kernel
theorem dX12_ringOf_29 : decode cX12_ringOf 29 = .ok (.iinc 3 1, 3) := by decide +kernel
theorem dX12_ringOf_32 : decode cX12_ringOf 32 = .ok (.goto (-28), 3) := by decide +kernel
theorem dX12_ringOf_35 : decode cX12_ringOf 35 = .ok (.aload_n 0, 1) := by decide +kernel
theorem dX12_ringOf_36 : decode cX12_ringOf 36 = .ok (.iload_n 2, 1) := by decide +kernel
theorem dX12_ringOf_37 : decode cX12_ringOf 37 = .ok (.putfield 209, 3) := by decide +kernel
theorem dX12_ringOf_40 : decode cX12_ringOf 40 = .ok (.aload_n 0, 1) := by decide +kernel
theorem dX12_ringOf_41 : decode cX12_ringOf 41 = .ok (.getfield 16, 3) := by decide +kernel
theorem dX12_ringOf_44 : decode cX12_ringOf 44 = .ok (.iload_n 2, 1) := by decide +kernel
theorem dX12_ringOf_45 : decode cX12_ringOf 45 = .ok (.iaload, 1) := by decide +kernel
theorem dX12_ringOf_46 : decode cX12_ringOf 46 = .ok (.iconst (-1), 1) := by decide +kernel
theorem dX12_ringOf_47 : decode cX12_ringOf 47 = .ok (.if_icmp .ne 5, 3) := by decide +kernel
theorem dX12_ringOf_50 : decode cX12_ringOf 50 = .ok (.iconst (-1), 1) := by decide +kernel
theorem dX12_ringOf_51 : decode cX12_ringOf 51 = .ok (.ireturn, 1) := by decide +kernel
theorem dX12_ringOf_52 : decode cX12_ringOf 52 = .ok (.iconst 1, 1) := by decide +kernel
theorem dX12_ringOf_53 : decode cX12_ringOf 53 = .ok (.istore_n 3, 1) := by decide +kernel
theorem dX12_ringOf_54 : decode cX12_ringOf 54 = .ok (.aload_n 0, 1) := by decide +kernel
theorem dX12_ringOf_55 : decode cX12_ringOf 55 = .ok (.getfield 16, 3) := by decide +kernel
theorem dX12_ringOf_58 : decode cX12_ringOf 58 = .ok (.iload_n 2, 1) := by decide +kernel
theorem dX12_ringOf_59 : decode cX12_ringOf 59 = .ok (.iaload, 1) := by decide +kernel
theorem dX12_ringOf_60 : decode cX12_ringOf 60 = .ok (.istore 4, 2) := by decide +kernel
theorem dX12_ringOf_62 : decode cX12_ringOf 62 = .ok (.iload 4, 2) := by decide +kernel
theorem dX12_ringOf_64 : decode cX12_ringOf 64 = .ok (.iload_n 2, 1) := by decide +kernel
theorem dX12_ringOf_65 : decode cX12_ringOf 65 = .ok (.if_icmp .eq 18, 3) := by decide +kernel
theorem dX12_ringOf_68 : decode cX12_ringOf 68 = .ok (.iinc 3 1, 3) := by decide +kernel
theorem dX12_ringOf_71 : decode cX12_ringOf 71 = .ok (.aload_n 0, 1) := by decide +kernel
theorem dX12_ringOf_72 : decode cX12_ringOf 72 = .ok (.getfield 16, 3) := by decide +kernel
theorem dX12_ringOf_75 : decode cX12_ringOf 75 = .ok (.iload 4, 2) := by decide +kernel
theorem dX12_ringOf_77 : decode cX12_ringOf 77 = .ok (.iaload, 1) := by decide +kernel
theorem dX12_ringOf_78 : decode cX12_ringOf 78 = .ok (.istore 4, 2) := by decide +kernel
theorem dX12_ringOf_80 : decode cX12_ringOf 80 = .ok (.goto (-18), 3) := by decide +kernel
theorem dX12_ringOf_83 : decode cX12_ringOf 83 = .ok (.iload_n 3, 1) := by decide +kernel
theorem dX12_ringOf_84 : decode cX12_ringOf 84 = .ok (.ireturn, 1) := by decide +kernel
theorem dX12_firstOf_0 : decode cX12_firstOf 0 = .ok (.aload_n 0, 1) := by decide +kernel
theorem dX12_firstOf_1 : decode cX12_firstOf 1 = .ok (.iload_n 1, 1) := by decide +kernel
theorem dX12_firstOf_2 : decode cX12_firstOf 2 = .ok (.invokevirtual 212, 3) := by decide +kernel
theorem dX12_firstOf_5 : decode cX12_firstOf 5 = .ok (.iconst (-1), 1) := by decide +kernel
theorem dX12_firstOf_6 : decode cX12_firstOf 6 = .ok (.if_icmp .ne 10, 3) := by decide +kernel
theorem dX12_firstOf_9 : decode cX12_firstOf 9 = .ok (.aload_n 0, 1) := by decide +kernel
theorem dX12_firstOf_10 : decode cX12_firstOf 10 = .ok (.getfield 209, 3) := by decide +kernel
theorem dX12_firstOf_13 : decode cX12_firstOf 13 = .ok (.goto 4, 3) := by decide +kernel
theorem dX12_firstOf_16 : decode cX12_firstOf 16 = .ok (.iconst (-1), 1) := by decide +kernel
theorem dX12_firstOf_17 : decode cX12_firstOf 17 = .ok (.ireturn, 1) := by decide +kernel
theorem dX12_person_0 : decode cX12_person 0 = .ok (.aload_n 0, 1) := by decide +kernel
theorem dX12_person_1 : decode cX12_person 1 = .ok (.iload_n 1, 1) := by decide +kernel
theorem dX12_person_2 : decode cX12_person 2 = .ok (.invokevirtual 215, 3) := by decide +kernel
theorem dX12_person_5 : decode cX12_person 5 = .ok (.ifCond .ne 6, 3) := by decide +kernel
theorem dX12_person_8 : decode cX12_person 8 = .ok (.ldc 219, 2) := by decide +kernel
theorem dX12_person_10 : decode cX12_person 10 = .ok (.ireturn, 1) := by decide +kernel
theorem dX12_person_11 : decode cX12_person 11 = .ok (.iload_n 2, 1) := by decide +kernel
theorem dX12_person_12 : decode cX12_person 12 = .ok (.tableswitch 120 0 8 #[52, 59, 66, 75, 82, 92, 102, 108, 114], 52) := by decide +kernel
theorem dX12_person_64 : decode cX12_person 64 = .ok (.aload_n 0, 1) := by decide +kernel
theorem dX12_person_65 : decode cX12_person 65 = .ok (.getfield 7, 3) := by decide +kernel
theorem dX12_person_68 : decode cX12_person 68 = .ok (.iload_n 1, 1) := by decide +kernel
theorem dX12_person_69 : decode cX12_person 69 = .ok (.iaload, 1) := by decide +kernel
theorem dX12_person_70 : decode cX12_person 70 = .ok (.ireturn, 1) := by decide +kernel
theorem dX12_person_71 : decode cX12_person 71 = .ok (.aload_n 0, 1) := by decide +kernel
theorem dX12_person_72 : decode cX12_person 72 = .ok (.getfield 13, 3) := by decide +kernel
theorem dX12_person_75 : decode cX12_person 75 = .ok (.iload_n 1, 1) := by decide +kernel
theorem dX12_person_76 : decode cX12_person 76 = .ok (.iaload, 1) := by decide +kernel
theorem dX12_person_77 : decode cX12_person 77 = .ok (.ireturn, 1) := by decide +kernel
theorem dX12_person_78 : decode cX12_person 78 = .ok (.aload_n 0, 1) := by decide +kernel
theorem dX12_person_79 : decode cX12_person 79 = .ok (.getfield 19, 3) := by decide +kernel
theorem dX12_person_82 : decode cX12_person 82 = .ok (.iconst 5, 1) := by decide +kernel
theorem dX12_person_83 : decode cX12_person 83 = .ok (.iload_n 1, 1) := by decide +kernel
theorem dX12_person_84 : decode cX12_person 84 = .ok (.iadd, 1) := by decide +kernel
theorem dX12_person_85 : decode cX12_person 85 = .ok (.iaload, 1) := by decide +kernel
theorem dX12_person_86 : decode cX12_person 86 = .ok (.ireturn, 1) := by decide +kernel
theorem dX12_person_87 : decode cX12_person 87 = .ok (.aload_n 0, 1) := by decide +kernel
theorem dX12_person_88 : decode cX12_person 88 = .ok (.getfield 16, 3) := by decide +kernel
theorem dX12_person_91 : decode cX12_person 91 = .ok (.iload_n 1, 1) := by decide +kernel
theorem dX12_person_92 : decode cX12_person 92 = .ok (.iaload, 1) := by decide +kernel
theorem dX12_person_93 : decode cX12_person 93 = .ok (.ireturn, 1) := by decide +kernel
theorem dX12_person_94 : decode cX12_person 94 = .ok (.aload_n 0, 1) := by decide +kernel
theorem dX12_person_95 : decode cX12_person 95 = .ok (.getfield 19, 3) := by decide +kernel
theorem dX12_person_98 : decode cX12_person 98 = .ok (.bipush 12, 2) := by decide +kernel
theorem dX12_person_100 : decode cX12_person 100 = .ok (.iload_n 1, 1) := by decide +kernel
theorem dX12_person_101 : decode cX12_person 101 = .ok (.iadd, 1) := by decide +kernel
theorem dX12_person_102 : decode cX12_person 102 = .ok (.iaload, 1) := by decide +kernel
theorem dX12_person_103 : decode cX12_person 103 = .ok (.ireturn, 1) := by decide +kernel
theorem dX12_person_104 : decode cX12_person 104 = .ok (.aload_n 0, 1) := by decide +kernel
theorem dX12_person_105 : decode cX12_person 105 = .ok (.getfield 19, 3) := by decide +kernel
theorem dX12_person_108 : decode cX12_person 108 = .ok (.bipush 19, 2) := by decide +kernel
theorem dX12_person_110 : decode cX12_person 110 = .ok (.iload_n 1, 1) := by decide +kernel
theorem dX12_person_111 : decode cX12_person 111 = .ok (.iadd, 1) := by decide +kernel
theorem dX12_person_112 : decode cX12_person 112 = .ok (.iaload, 1) := by decide +kernel
theorem dX12_person_113 : decode cX12_person 113 = .ok (.ireturn, 1) := by decide +kernel
theorem dX12_person_114 : decode cX12_person 114 = .ok (.aload_n 0, 1) := by decide +kernel
theorem dX12_person_115 : decode cX12_person 115 = .ok (.iload_n 1, 1) := by decide +kernel
theorem dX12_person_116 : decode cX12_person 116 = .ok (.invokevirtual 220, 3) := by decide +kernel
theorem dX12_person_119 : decode cX12_person 119 = .ok (.ireturn, 1) := by decide +kernel
theorem dX12_person_120 : decode cX12_person 120 = .ok (.aload_n 0, 1) := by decide +kernel
theorem dX12_person_121 : decode cX12_person 121 = .ok (.iload_n 1, 1) := by decide +kernel
theorem dX12_person_122 : decode cX12_person 122 = .ok (.invokevirtual 212, 3) := by decide +kernel
theorem dX12_person_125 : decode cX12_person 125 = .ok (.ireturn, 1) := by decide +kernel
theorem dX12_person_126 : decode cX12_person 126 = .ok (.aload_n 0, 1) := by decide +kernel
theorem dX12_person_127 : decode cX12_person 127 = .ok (.iload_n 1, 1) := by decide +kernel
theorem dX12_person_128 : decode cX12_person 128 = .ok (.invokevirtual 223, 3) := by decide +kernel
theorem dX12_person_131 : decode cX12_person 131 = .ok (.ireturn, 1) := by decide +kernel
theorem dX12_person_132 : decode cX12_person 132 = .ok (.ldc 84, 2) := by decide +kernel
theorem dX12_person_134 : decode cX12_person 134 = .ok (.ireturn, 1) := by decide +kernel
theorem dX12_harmOf_0 : decode cX12_harmOf 0 = .ok (.iconst 0, 1) := by decide +kernel
theorem dX12_harmOf_1 : decode cX12_harmOf 1 = .ok (.istore_n 2, 1) := by decide +kernel
theorem dX12_harmOf_2 : decode cX12_harmOf 2 = .ok (.iconst 0, 1) := by decide +kernel
theorem dX12_harmOf_3 : decode cX12_harmOf 3 = .ok (.istore_n 3, 1) := by decide +kernel
theorem dX12_harmOf_4 : decode cX12_harmOf 4 = .ok (.iload_n 3, 1) := by decide +kernel
theorem dX12_harmOf_5 : decode cX12_harmOf 5 = .ok (.aload_n 0, 1) := by decide +kernel
theorem dX12_harmOf_6 : decode cX12_harmOf 6 = .ok (.getfield 72, 3) := by decide +kernel
theorem dX12_harmOf_9 : decode cX12_harmOf 9 = .ok (.if_icmp .ge 35, 3) := by decide +kernel
theorem dX12_harmOf_12 : decode cX12_harmOf 12 = .ok (.iload_n 2, 1) := by decide +kernel
theorem dX12_harmOf_13 : decode cX12_harmOf 13 = .ok (.aload_n 0, 1) := by decide +kernel
theorem dX12_harmOf_14 : decode cX12_harmOf 14 = .ok (.getfield 13, 3) := by decide +kernel
theorem dX12_harmOf_17 : decode cX12_harmOf 17 = .ok (.iload_n 3, 1) := by decide +kernel
theorem dX12_harmOf_18 : decode cX12_harmOf 18 = .ok (.iaload, 1) := by decide +kernel
theorem dX12_harmOf_19 : decode cX12_harmOf 19 = .ok (.iload_n 1, 1) := by decide +kernel
theorem dX12_harmOf_20 : decode cX12_harmOf 20 = .ok (.if_icmp .ne 15, 3) := by decide +kernel
theorem dX12_harmOf_23 : decode cX12_harmOf 23 = .ok (.aload_n 0, 1) := by decide +kernel
theorem dX12_harmOf_24 : decode cX12_harmOf 24 = .ok (.getfield 19, 3) := by decide +kernel
theorem dX12_harmOf_27 : decode cX12_harmOf 27 = .ok (.bipush 19, 2) := by decide +kernel
theorem dX12_harmOf_29 : decode cX12_harmOf 29 = .ok (.iload_n 3, 1) := by decide +kernel
theorem dX12_harmOf_30 : decode cX12_harmOf 30 = .ok (.iadd, 1) := by decide +kernel
theorem dX12_harmOf_31 : decode cX12_harmOf 31 = .ok (.iaload, 1) := by decide +kernel
theorem dX12_harmOf_32 : decode cX12_harmOf 32 = .ok (.goto 4, 3) := by decide +kernel
theorem dX12_harmOf_35 : decode cX12_harmOf 35 = .ok (.iconst 0, 1) := by decide +kernel
theorem dX12_harmOf_36 : decode cX12_harmOf 36 = .ok (.iadd, 1) := by decide +kernel
theorem dX12_harmOf_37 : decode cX12_harmOf 37 = .ok (.istore_n 2, 1) := by decide +kernel
theorem dX12_harmOf_38 : decode cX12_harmOf 38 = .ok (.iinc 3 1, 3) := by decide +kernel
theorem dX12_harmOf_41 : decode cX12_harmOf 41 = .ok (.goto (-37), 3) := by decide +kernel
theorem dX12_harmOf_44 : decode cX12_harmOf 44 = .ok (.iload_n 2, 1) := by decide +kernel
theorem dX12_harmOf_45 : decode cX12_harmOf 45 = .ok (.ireturn, 1) := by decide +kernel
theorem dX12_village_0 : decode cX12_village 0 = .ok (.aload_n 0, 1) := by decide +kernel
theorem dX12_village_1 : decode cX12_village 1 = .ok (.iload_n 1, 1) := by decide +kernel
theorem dX12_village_2 : decode cX12_village 2 = .ok (.invokevirtual 226, 3) := by decide +kernel
theorem dX12_village_5 : decode cX12_village 5 = .ok (.ifCond .ne 6, 3) := by decide +kernel
theorem dX12_village_8 : decode cX12_village 8 = .ok (.ldc 219, 2) := by decide +kernel
theorem dX12_village_10 : decode cX12_village 10 = .ok (.ireturn, 1) := by decide +kernel
theorem dX12_village_11 : decode cX12_village 11 = .ok (.iload_n 2, 1) := by decide +kernel
theorem dX12_village_12 : decode cX12_village 12 = .ok (.tableswitch 60 0 3 #[32, 42, 48, 54], 32) := by decide +kernel
theorem dX12_village_44 : decode cX12_village 44 = .ok (.aload_n 0, 1) := by decide +kernel
theorem dX12_village_45 : decode cX12_village 45 = .ok (.getfield 19, 3) := by decide +kernel
theorem dX12_village_48 : decode cX12_village 48 = .ok (.bipush 26, 2) := by decide +kernel
theorem dX12_village_50 : decode cX12_village 50 = .ok (.iload_n 1, 1) := by decide +kernel
theorem dX12_village_51 : decode cX12_village 51 = .ok (.iadd, 1) := by decide +kernel
theorem dX12_village_52 : decode cX12_village 52 = .ok (.iaload, 1) := by decide +kernel
theorem dX12_village_53 : decode cX12_village 53 = .ok (.ireturn, 1) := by decide +kernel
theorem dX12_village_54 : decode cX12_village 54 = .ok (.aload_n 0, 1) := by decide +kernel
theorem dX12_village_55 : decode cX12_village 55 = .ok (.iload_n 1, 1) := by decide +kernel
theorem dX12_village_56 : decode cX12_village 56 = .ok (.invokevirtual 162, 3) := by decide +kernel
theorem dX12_village_59 : decode cX12_village 59 = .ok (.ireturn, 1) := by decide +kernel
theorem dX12_village_60 : decode cX12_village 60 = .ok (.aload_n 0, 1) := by decide +kernel
theorem dX12_village_61 : decode cX12_village 61 = .ok (.iload_n 1, 1) := by decide +kernel
theorem dX12_village_62 : decode cX12_village 62 = .ok (.invokevirtual 229, 3) := by decide +kernel
theorem dX12_village_65 : decode cX12_village 65 = .ok (.ireturn, 1) := by decide +kernel
theorem dX12_village_66 : decode cX12_village 66 = .ok (.aload_n 0, 1) := by decide +kernel
theorem dX12_village_67 : decode cX12_village 67 = .ok (.iload_n 1, 1) := by decide +kernel
theorem dX12_village_68 : decode cX12_village 68 = .ok (.invokevirtual 232, 3) := by decide +kernel
theorem dX12_village_71 : decode cX12_village 71 = .ok (.ireturn, 1) := by decide +kernel
theorem dX12_village_72 : decode cX12_village 72 = .ok (.ldc 84, 2) := by decide +kernel
theorem dX12_village_74 : decode cX12_village 74 = .ok (.ireturn, 1) := by decide +kernel
theorem dX12_remember_0 : decode cX12_remember 0 = .ok (.aload_n 0, 1) := by decide +kernel
theorem dX12_remember_1 : decode cX12_remember 1 = .ok (.getfield 150, 3) := by decide +kernel
theorem dX12_remember_4 : decode cX12_remember 4 = .ok (.bipush 16, 2) := by decide +kernel
theorem dX12_remember_6 : decode cX12_remember 6 = .ok (.if_icmp .ne 44, 3) := by decide +kernel
theorem dX12_remember_9 : decode cX12_remember 9 = .ok (.bipush 30, 2) := by decide +kernel
theorem dX12_remember_11 : decode cX12_remember 11 = .ok (.istore_n 1, 1) := by decide +kernel
theorem dX12_remember_12 : decode cX12_remember 12 = .ok (.iload_n 1, 1) := by decide +kernel
theorem dX12_remember_13 : decode cX12_remember 13 = .ok (.sipush 480, 3) := by decide +kernel
theorem dX12_remember_16 : decode cX12_remember 16 = .ok (.if_icmp .ge 24, 3) := by decide +kernel
theorem dX12_remember_19 : decode cX12_remember 19 = .ok (.aload_n 0, 1) := by decide +kernel
theorem dX12_remember_20 : decode cX12_remember 20 = .ok (.getfield 44, 3) := by decide +kernel
theorem dX12_remember_23 : decode cX12_remember 23 = .ok (.iload_n 1, 1) := by decide +kernel
theorem dX12_remember_24 : decode cX12_remember 24 = .ok (.bipush 30, 2) := by decide +kernel
theorem dX12_remember_26 : decode cX12_remember 26 = .ok (.isub, 1) := by decide +kernel
theorem dX12_remember_27 : decode cX12_remember 27 = .ok (.aload_n 0, 1) := by decide +kernel
theorem dX12_remember_28 : decode cX12_remember 28 = .ok (.getfield 44, 3) := by decide +kernel
theorem dX12_remember_31 : decode cX12_remember 31 = .ok (.iload_n 1, 1) := by decide +kernel
theorem dX12_remember_32 : decode cX12_remember 32 = .ok (.iaload, 1) := by decide +kernel
theorem dX12_remember_33 : decode cX12_remember 33 = .ok (.iastore, 1) := by decide +kernel
theorem dX12_remember_34 : decode cX12_remember 34 = .ok (.iinc 1 1, 3) := by decide +kernel
theorem dX12_remember_37 : decode cX12_remember 37 = .ok (.goto (-25), 3) := by decide +kernel
theorem dX12_remember_40 : decode cX12_remember 40 = .ok (.aload_n 0, 1) := by decide +kernel
theorem dX12_remember_41 : decode cX12_remember 41 = .ok (.dup, 1) := by decide +kernel
theorem dX12_remember_42 : decode cX12_remember 42 = .ok (.getfield 150, 3) := by decide +kernel
theorem dX12_remember_45 : decode cX12_remember 45 = .ok (.iconst 1, 1) := by decide +kernel
theorem dX12_remember_46 : decode cX12_remember 46 = .ok (.isub, 1) := by decide +kernel
theorem dX12_remember_47 : decode cX12_remember 47 = .ok (.putfield 150, 3) := by decide +kernel
theorem dX12_remember_50 : decode cX12_remember 50 = .ok (.iconst 0, 1) := by decide +kernel
theorem dX12_remember_51 : decode cX12_remember 51 = .ok (.istore_n 1, 1) := by decide +kernel
theorem dX12_remember_52 : decode cX12_remember 52 = .ok (.iload_n 1, 1) := by decide +kernel
theorem dX12_remember_53 : decode cX12_remember 53 = .ok (.bipush 30, 2) := by decide +kernel
theorem dX12_remember_55 : decode cX12_remember 55 = .ok (.if_icmp .ge 29, 3) := by decide +kernel
theorem dX12_remember_58 : decode cX12_remember 58 = .ok (.aload_n 0, 1) := by decide +kernel
theorem dX12_remember_59 : decode cX12_remember 59 = .ok (.getfield 44, 3) := by decide +kernel
theorem dX12_remember_62 : decode cX12_remember 62 = .ok (.bipush 30, 2) := by decide +kernel
theorem dX12_remember_64 : decode cX12_remember 64 = .ok (.aload_n 0, 1) := by decide +kernel
theorem dX12_remember_65 : decode cX12_remember 65 = .ok (.getfield 150, 3) := by decide +kernel
theorem dX12_remember_68 : decode cX12_remember 68 = .ok (.imul, 1) := by decide +kernel
theorem dX12_remember_69 : decode cX12_remember 69 = .ok (.iload_n 1, 1) := by decide +kernel
theorem dX12_remember_70 : decode cX12_remember 70 = .ok (.iadd, 1) := by decide +kernel
theorem dX12_remember_71 : decode cX12_remember 71 = .ok (.aload_n 0, 1) := by decide +kernel
theorem dX12_remember_72 : decode cX12_remember 72 = .ok (.getfield 19, 3) := by decide +kernel
theorem dX12_remember_75 : decode cX12_remember 75 = .ok (.iload_n 1, 1) := by decide +kernel
theorem dX12_remember_76 : decode cX12_remember 76 = .ok (.iaload, 1) := by decide +kernel
theorem dX12_remember_77 : decode cX12_remember 77 = .ok (.iastore, 1) := by decide +kernel
theorem dX12_remember_78 : decode cX12_remember 78 = .ok (.iinc 1 1, 3) := by decide +kernel
theorem dX12_remember_81 : decode cX12_remember 81 = .ok (.goto (-29), 3) := by decide +kernel
theorem dX12_remember_84 : decode cX12_remember 84 = .ok (.aload_n 0, 1) := by decide +kernel
theorem dX12_remember_85 : decode cX12_remember 85 = .ok (.dup, 1) := by decide +kernel
theorem dX12_remember_86 : decode cX12_remember 86 = .ok (.getfield 150, 3) := by decide +kernel
theorem dX12_remember_89 : decode cX12_remember 89 = .ok (.iconst 1, 1) := by decide +kernel
theorem dX12_remember_90 : decode cX12_remember 90 = .ok (.iadd, 1) := by decide +kernel
theorem dX12_remember_91 : decode cX12_remember 91 = .ok (.putfield 150, 3) := by decide +kernel
theorem dX12_remember_94 : decode cX12_remember 94 = .ok (.return_, 1) := by decide +kernel
theorem dX12_tells_0 : decode cX12_tells 0 = .ok (.aload_n 0, 1) := by decide +kernel
theorem dX12_tells_1 : decode cX12_tells 1 = .ok (.getfield 19, 3) := by decide +kernel
theorem dX12_tells_4 : decode cX12_tells 4 = .ok (.bipush 12, 2) := by decide +kernel
theorem dX12_tells_6 : decode cX12_tells 6 = .ok (.iload_n 1, 1) := by decide +kernel
theorem dX12_tells_7 : decode cX12_tells 7 = .ok (.iadd, 1) := by decide +kernel
theorem dX12_tells_8 : decode cX12_tells 8 = .ok (.iaload, 1) := by decide +kernel
theorem dX12_tells_9 : decode cX12_tells 9 = .ok (.istore_n 3, 1) := by decide +kernel
theorem dX12_tells_10 : decode cX12_tells 10 = .ok (.aload_n 0, 1) := by decide +kernel
theorem dX12_tells_11 : decode cX12_tells 11 = .ok (.getfield 19, 3) := by decide +kernel
theorem dX12_tells_14 : decode cX12_tells 14 = .ok (.bipush 12, 2) := by decide +kernel
theorem dX12_tells_16 : decode cX12_tells 16 = .ok (.iload_n 1, 1) := by decide +kernel
theorem dX12_tells_17 : decode cX12_tells 17 = .ok (.iadd, 1) := by decide +kernel
theorem dX12_tells_18 : decode cX12_tells 18 = .ok (.iload_n 2, 1) := by decide +kernel
theorem dX12_tells_19 : decode cX12_tells 19 = .ok (.iastore, 1) := by decide +kernel
theorem dX12_tells_20 : decode cX12_tells 20 = .ok (.aload_n 0, 1) := by decide +kernel
theorem dX12_tells_21 : decode cX12_tells 21 = .ok (.getfield 19, 3) := by decide +kernel
theorem dX12_tells_24 : decode cX12_tells 24 = .ok (.iconst 4, 1) := by decide +kernel
theorem dX12_tells_25 : decode cX12_tells 25 = .ok (.dup2, 1) := by decide +kernel
theorem dX12_tells_26 : decode cX12_tells 26 = .ok (.iaload, 1) := by decide +kernel
theorem dX12_tells_27 : decode cX12_tells 27 = .ok (.iconst 1, 1) := by decide +kernel
theorem dX12_tells_28 : decode cX12_tells 28 = .ok (.iload_n 1, 1) := by decide +kernel
theorem dX12_tells_29 : decode cX12_tells 29 = .ok (.ishl, 1) := by decide +kernel
theorem dX12_tells_30 : decode cX12_tells 30 = .ok (.ior, 1) := by decide +kernel
theorem dX12_tells_31 : decode cX12_tells 31 = .ok (.iastore, 1) := by decide +kernel
theorem dX12_tells_32 : decode cX12_tells 32 = .ok (.iload_n 3, 1) := by decide +kernel
theorem dX12_tells_33 : decode cX12_tells 33 = .ok (.ireturn, 1) := by decide +kernel
theorem dX12_tell_0 : decode cX12_tell 0 = .ok (.aload_n 0, 1) := by decide +kernel
theorem dX12_tell_1 : decode cX12_tell 1 = .ok (.iload_n 1, 1) := by decide +kernel
theorem dX12_tell_2 : decode cX12_tell 2 = .ok (.invokevirtual 215, 3) := by decide +kernel
theorem dX12_tell_5 : decode cX12_tell 5 = .ok (.ifCond .ne 6, 3) := by decide +kernel
theorem dX12_tell_8 : decode cX12_tell 8 = .ok (.ldc 219, 2) := by decide +kernel
theorem dX12_tell_10 : decode cX12_tell 10 = .ok (.ireturn, 1) := by decide +kernel
theorem dX12_tell_11 : decode cX12_tell 11 = .ok (.iload_n 2, 1) := by decide +kernel
theorem dX12_tell_12 : decode cX12_tell 12 = .ok (.i2l, 1) := by decide +kernel
theorem dX12_tell_13 : decode cX12_tell 13 = .ok (.lconst 0, 1) := by decide +kernel
theorem dX12_tell_14 : decode cX12_tell 14 = .ok (.ldc2_w 235, 3) := by decide +kernel
theorem dX12_tell_17 : decode cX12_tell 17 = .ok (.invokestatic 75, 3) := by decide +kernel
theorem dX12_tell_20 : decode cX12_tell 20 = .ok (.ifCond .ne 6, 3) := by decide +kernel
theorem dX12_tell_23 : decode cX12_tell 23 = .ok (.ldc 84, 2) := by decide +kernel
theorem dX12_tell_25 : decode cX12_tell 25 = .ok (.ireturn, 1) := by decide +kernel
theorem dX12_tell_26 : decode cX12_tell 26 = .ok (.aload_n 0, 1) := by decide +kernel
theorem dX12_tell_27 : decode cX12_tell 27 = .ok (.invokevirtual 237, 3) := by decide +kernel
theorem dX12_tell_30 : decode cX12_tell 30 = .ok (.aload_n 0, 1) := by decide +kernel
theorem dX12_tell_31 : decode cX12_tell 31 = .ok (.iload_n 1, 1) := by decide +kernel
theorem dX12_tell_32 : decode cX12_tell 32 = .ok (.iload_n 2, 1) := by decide +kernel
theorem dX12_tell_33 : decode cX12_tell 33 = .ok (.invokevirtual 240, 3) := by decide +kernel
theorem dX12_tell_36 : decode cX12_tell 36 = .ok (.ireturn, 1) := by decide +kernel
theorem dX12_mayGo_0 : decode cX12_mayGo 0 = .ok (.aload_n 0, 1) := by decide +kernel
theorem dX12_mayGo_1 : decode cX12_mayGo 1 = .ok (.getfield 19, 3) := by decide +kernel
theorem dX12_mayGo_4 : decode cX12_mayGo 4 = .ok (.bipush 12, 2) := by decide +kernel
theorem dX12_mayGo_6 : decode cX12_mayGo 6 = .ok (.iload_n 1, 1) := by decide +kernel
theorem dX12_mayGo_7 : decode cX12_mayGo 7 = .ok (.iadd, 1) := by decide +kernel
theorem dX12_mayGo_8 : decode cX12_mayGo 8 = .ok (.iaload, 1) := by decide +kernel
theorem dX12_mayGo_9 : decode cX12_mayGo 9 = .ok (.ifCond .le 20, 3) := by decide +kernel
theorem dX12_mayGo_12 : decode cX12_mayGo 12 = .ok (.aload_n 0, 1) := by decide +kernel
theorem dX12_mayGo_13 : decode cX12_mayGo 13 = .ok (.getfield 19, 3) := by decide +kernel
theorem dX12_mayGo_16 : decode cX12_mayGo 16 = .ok (.iconst 3, 1) := by decide +kernel
theorem dX12_mayGo_17 : decode cX12_mayGo 17 = .ok (.iaload, 1) := by decide +kernel
theorem dX12_mayGo_18 : decode cX12_mayGo 18 = .ok (.iload_n 2, 1) := by decide +kernel
theorem dX12_mayGo_19 : decode cX12_mayGo 19 = .ok (.invokestatic 174, 3) := by decide +kernel
theorem dX12_mayGo_22 : decode cX12_mayGo 22 = .ok (.ifCond .ne 7, 3) := by decide +kernel
theorem dX12_mayGo_25 : decode cX12_mayGo 25 = .ok (.iconst 1, 1) := by decide +kernel
theorem dX12_mayGo_26 : decode cX12_mayGo 26 = .ok (.goto 4, 3) := by decide +kernel
theorem dX12_mayGo_29 : decode cX12_mayGo 29 = .ok (.iconst 0, 1) := by decide +kernel
theorem dX12_mayGo_30 : decode cX12_mayGo 30 = .ok (.ireturn, 1) := by decide +kernel
theorem dX12_answers_0 : decode cX12_answers 0 = .ok (.aload_n 0, 1) := by decide +kernel
theorem dX12_answers_1 : decode cX12_answers 1 = .ok (.getfield 19, 3) := by decide +kernel
theorem dX12_answers_4 : decode cX12_answers 4 = .ok (.bipush 12, 2) := by decide +kernel
theorem dX12_answers_6 : decode cX12_answers 6 = .ok (.iload_n 1, 1) := by decide +kernel
theorem dX12_answers_7 : decode cX12_answers 7 = .ok (.iadd, 1) := by decide +kernel
theorem dX12_answers_8 : decode cX12_answers 8 = .ok (.iaload, 1) := by decide +kernel
theorem dX12_answers_9 : decode cX12_answers 9 = .ok (.istore_n 3, 1) := by decide +kernel
theorem dX12_answers_10 : decode cX12_answers 10 = .ok (.aload_n 0, 1) := by decide +kernel
theorem dX12_answers_11 : decode cX12_answers 11 = .ok (.iload_n 2, 1) := by decide +kernel
theorem dX12_answers_12 : decode cX12_answers 12 = .ok (.iload_n 3, 1) := by decide +kernel
theorem dX12_answers_13 : decode cX12_answers 13 = .ok (.invokevirtual 159, 3) := by decide +kernel
theorem dX12_answers_16 : decode cX12_answers 16 = .ok (.istore 4, 2) := by decide +kernel
theorem dX12_answers_18 : decode cX12_answers 18 = .ok (.aload_n 0, 1) := by decide +kernel
theorem dX12_answers_19 : decode cX12_answers 19 = .ok (.getfield 19, 3) := by decide +kernel
theorem dX12_answers_22 : decode cX12_answers 22 = .ok (.bipush 12, 2) := by decide +kernel
theorem dX12_answers_24 : decode cX12_answers 24 = .ok (.iload_n 1, 1) := by decide +kernel
theorem dX12_answers_25 : decode cX12_answers 25 = .ok (.iadd, 1) := by decide +kernel
theorem dX12_answers_26 : decode cX12_answers 26 = .ok (.iload 4, 2) := by decide +kernel
theorem dX12_answers_28 : decode cX12_answers 28 = .ok (.iastore, 1) := by decide +kernel
theorem dX12_answers_29 : decode cX12_answers 29 = .ok (.aload_n 0, 1) := by decide +kernel
theorem dX12_answers_30 : decode cX12_answers 30 = .ok (.getfield 19, 3) := by decide +kernel
theorem dX12_answers_33 : decode cX12_answers 33 = .ok (.iconst 2, 1) := by decide +kernel
theorem dX12_answers_34 : decode cX12_answers 34 = .ok (.iaload, 1) := by decide +kernel
theorem dX12_answers_35 : decode cX12_answers 35 = .ok (.iload_n 3, 1) := by decide +kernel
theorem dX12_answers_36 : decode cX12_answers 36 = .ok (.iload 4, 2) := by decide +kernel
theorem dX12_answers_38 : decode cX12_answers 38 = .ok (.if_icmp .le 10, 3) := by decide +kernel
theorem dX12_answers_41 : decode cX12_answers 41 = .ok (.iload_n 3, 1) := by decide +kernel
theorem dX12_answers_42 : decode cX12_answers 42 = .ok (.iload 4, 2) := by decide +kernel
theorem dX12_answers_44 : decode cX12_answers 44 = .ok (.isub, 1) := by decide +kernel
theorem dX12_answers_45 : decode cX12_answers 45 = .ok (.goto 4, 3) := by decide +kernel
theorem dX12_answers_48 : decode cX12_answers 48 = .ok (.iconst 0, 1) := by decide +kernel
theorem dX12_answers_49 : decode cX12_answers 49 = .ok (.iadd, 1) := by decide +kernel
theorem dX12_answers_50 : decode cX12_answers 50 = .ok (.istore 5, 2) := by decide +kernel
theorem dX12_answers_52 : decode cX12_answers 52 = .ok (.aload_n 0, 1) := by decide +kernel
theorem dX12_answers_53 : decode cX12_answers 53 = .ok (.getfield 19, 3) := by decide +kernel
theorem dX12_answers_56 : decode cX12_answers 56 = .ok (.iconst 2, 1) := by decide +kernel
theorem dX12_answers_57 : decode cX12_answers 57 = .ok (.iload 5, 2) := by decide +kernel
theorem dX12_answers_59 : decode cX12_answers 59 = .ok (.sipush 9999, 3) := by decide +kernel
theorem dX12_answers_62 : decode cX12_answers 62 = .ok (.if_icmp .le 9, 3) := by decide +kernel
theorem dX12_answers_65 : decode cX12_answers 65 = .ok (.sipush 9999, 3) := by decide +kernel
theorem dX12_answers_68 : decode cX12_answers 68 = .ok (.goto 5, 3) := by decide +kernel
theorem dX12_answers_71 : decode cX12_answers 71 = .ok (.iload 5, 2) := by decide +kernel
theorem dX12_answers_73 : decode cX12_answers 73 = .ok (.iastore, 1) := by decide +kernel
theorem dX12_answers_74 : decode cX12_answers 74 = .ok (.aload_n 0, 1) := by decide +kernel
theorem dX12_answers_75 : decode cX12_answers 75 = .ok (.getfield 19, 3) := by decide +kernel
theorem dX12_answers_78 : decode cX12_answers 78 = .ok (.iconst 0, 1) := by decide +kernel
theorem dX12_answers_79 : decode cX12_answers 79 = .ok (.dup2, 1) := by decide +kernel
theorem dX12_answers_80 : decode cX12_answers 80 = .ok (.iaload, 1) := by decide +kernel
theorem dX12_answers_81 : decode cX12_answers 81 = .ok (.aload_n 0, 1) := by decide +kernel
theorem dX12_answers_82 : decode cX12_answers 82 = .ok (.getfield 19, 3) := by decide +kernel
theorem dX12_answers_85 : decode cX12_answers 85 = .ok (.iconst 0, 1) := by decide +kernel
theorem dX12_answers_86 : decode cX12_answers 86 = .ok (.iaload, 1) := by decide +kernel
theorem dX12_answers_87 : decode cX12_answers 87 = .ok (.iconst 1, 1) := by decide +kernel
theorem dX12_answers_88 : decode cX12_answers 88 = .ok (.if_icmp .le 7, 3) := by decide +kernel
theorem dX12_answers_91 : decode cX12_answers 91 = .ok (.iconst 1, 1) := by decide +kernel
theorem dX12_answers_92 : decode cX12_answers 92 = .ok (.goto 4, 3) := by decide +kernel
theorem dX12_answers_95 : decode cX12_answers 95 = .ok (.iconst 0, 1) := by decide +kernel
theorem dX12_answers_96 : decode cX12_answers 96 = .ok (.isub, 1) := by decide +kernel
theorem dX12_answers_97 : decode cX12_answers 97 = .ok (.iastore, 1) := by decide +kernel
theorem dX12_answers_98 : decode cX12_answers 98 = .ok (.aload_n 0, 1) := by decide +kernel
theorem dX12_answers_99 : decode cX12_answers 99 = .ok (.getfield 19, 3) := by decide +kernel
theorem dX12_answers_102 : decode cX12_answers 102 = .ok (.iconst 3, 1) := by decide +kernel
theorem dX12_answers_103 : decode cX12_answers 103 = .ok (.dup2, 1) := by decide +kernel
theorem dX12_answers_104 : decode cX12_answers 104 = .ok (.iaload, 1) := by decide +kernel
theorem dX12_answers_105 : decode cX12_answers 105 = .ok (.iconst 1, 1) := by decide +kernel
theorem dX12_answers_106 : decode cX12_answers 106 = .ok (.iload_n 2, 1) := by decide +kernel
theorem dX12_answers_107 : decode cX12_answers 107 = .ok (.ishl, 1) := by decide +kernel
theorem dX12_answers_108 : decode cX12_answers 108 = .ok (.ior, 1) := by decide +kernel
theorem dX12_answers_109 : decode cX12_answers 109 = .ok (.iastore, 1) := by decide +kernel
theorem dX12_answers_110 : decode cX12_answers 110 = .ok (.return_, 1) := by decide +kernel
theorem dX12_answer_0 : decode cX12_answer 0 = .ok (.aload_n 0, 1) := by decide +kernel
theorem dX12_answer_1 : decode cX12_answer 1 = .ok (.iload_n 1, 1) := by decide +kernel
theorem dX12_answer_2 : decode cX12_answer 2 = .ok (.invokevirtual 215, 3) := by decide +kernel
theorem dX12_answer_5 : decode cX12_answer 5 = .ok (.ifCond .eq 11, 3) := by decide +kernel
theorem dX12_answer_8 : decode cX12_answer 8 = .ok (.aload_n 0, 1) := by decide +kernel
theorem dX12_answer_9 : decode cX12_answer 9 = .ok (.iload_n 2, 1) := by decide +kernel
theorem dX12_answer_10 : decode cX12_answer 10 = .ok (.invokevirtual 215, 3) := by decide +kernel
theorem dX12_answer_13 : decode cX12_answer 13 = .ok (.ifCond .ne 6, 3) := by decide +kernel
theorem dX12_answer_16 : decode cX12_answer 16 = .ok (.ldc 219, 2) := by decide +kernel
theorem dX12_answer_18 : decode cX12_answer 18 = .ok (.ireturn, 1) := by decide +kernel
theorem dX12_answer_19 : decode cX12_answer 19 = .ok (.aload_n 0, 1) := by decide +kernel
theorem dX12_answer_20 : decode cX12_answer 20 = .ok (.iload_n 1, 1) := by decide +kernel
theorem dX12_answer_21 : decode cX12_answer 21 = .ok (.iload_n 2, 1) := by decide +kernel
theorem dX12_answer_22 : decode cX12_answer 22 = .ok (.invokevirtual 243, 3) := by decide +kernel
theorem dX12_answer_25 : decode cX12_answer 25 = .ok (.ifCond .ne 6, 3) := by decide +kernel
theorem dX12_answer_28 : decode cX12_answer 28 = .ok (.ldc 246, 2) := by decide +kernel
theorem dX12_answer_30 : decode cX12_answer 30 = .ok (.ireturn, 1) := by decide +kernel
theorem dX12_answer_31 : decode cX12_answer 31 = .ok (.aload_n 0, 1) := by decide +kernel
theorem dX12_answer_32 : decode cX12_answer 32 = .ok (.invokevirtual 237, 3) := by decide +kernel
theorem dX12_answer_35 : decode cX12_answer 35 = .ok (.aload_n 0, 1) := by decide +kernel
theorem dX12_answer_36 : decode cX12_answer 36 = .ok (.iload_n 1, 1) := by decide +kernel
theorem dX12_answer_37 : decode cX12_answer 37 = .ok (.iload_n 2, 1) := by decide +kernel
theorem dX12_answer_38 : decode cX12_answer 38 = .ok (.invokevirtual 247, 3) := by decide +kernel
theorem dX12_answer_41 : decode cX12_answer 41 = .ok (.aload_n 0, 1) := by decide +kernel
theorem dX12_answer_42 : decode cX12_answer 42 = .ok (.getfield 19, 3) := by decide +kernel
theorem dX12_answer_45 : decode cX12_answer 45 = .ok (.bipush 12, 2) := by decide +kernel
theorem dX12_answer_47 : decode cX12_answer 47 = .ok (.iload_n 1, 1) := by decide +kernel
theorem dX12_answer_48 : decode cX12_answer 48 = .ok (.iadd, 1) := by decide +kernel
theorem dX12_answer_49 : decode cX12_answer 49 = .ok (.iaload, 1) := by decide +kernel
theorem dX12_answer_50 : decode cX12_answer 50 = .ok (.ireturn, 1) := by decide +kernel
theorem dX12_year_0 : decode cX12_year 0 = .ok (.iload_n 1, 1) := by decide +kernel
theorem dX12_year_1 : decode cX12_year 1 = .ok (.i2l, 1) := by decide +kernel
theorem dX12_year_2 : decode cX12_year 2 = .ok (.lconst 1, 1) := by decide +kernel
theorem dX12_year_3 : decode cX12_year 3 = .ok (.ldc2_w 251, 3) := by decide +kernel
theorem dX12_year_6 : decode cX12_year 6 = .ok (.invokestatic 75, 3) := by decide +kernel
theorem dX12_year_9 : decode cX12_year 9 = .ok (.ifCond .ne 6, 3) := by decide +kernel
theorem dX12_year_12 : decode cX12_year 12 = .ok (.ldc 84, 2) := by decide +kernel
theorem dX12_year_14 : decode cX12_year 14 = .ok (.ireturn, 1) := by decide +kernel
theorem dX12_year_15 : decode cX12_year 15 = .ok (.aload_n 0, 1) := by decide +kernel
theorem dX12_year_16 : decode cX12_year 16 = .ok (.invokevirtual 253, 3) := by decide +kernel
theorem dX12_year_19 : decode cX12_year 19 = .ok (.ifCond .ne 6, 3) := by decide +kernel
theorem dX12_year_22 : decode cX12_year 22 = .ok (.ldc 246, 2) := by decide +kernel
theorem dX12_year_24 : decode cX12_year 24 = .ok (.ireturn, 1) := by decide +kernel
theorem dX12_year_25 : decode cX12_year 25 = .ok (.aload_n 0, 1) := by decide +kernel
theorem dX12_year_26 : decode cX12_year 26 = .ok (.getfield 19, 3) := by decide +kernel
theorem dX12_year_29 : decode cX12_year 29 = .ok (.iconst 1, 1) := by decide +kernel
theorem dX12_year_30 : decode cX12_year 30 = .ok (.iaload, 1) := by decide +kernel
theorem dX12_year_31 : decode cX12_year 31 = .ok (.sipush 9000, 3) := by decide +kernel
theorem dX12_year_34 : decode cX12_year 34 = .ok (.if_icmp .le 6, 3) := by decide +kernel
theorem dX12_year_37 : decode cX12_year 37 = .ok (.ldc 88, 2) := by decide +kernel
theorem dX12_year_39 : decode cX12_year 39 = .ok (.ireturn, 1) := by decide +kernel
theorem dX12_year_40 : decode cX12_year 40 = .ok (.aload_n 0, 1) := by decide +kernel
theorem dX12_year_41 : decode cX12_year 41 = .ok (.invokevirtual 237, 3) := by decide +kernel
theorem dX12_year_44 : decode cX12_year 44 = .ok (.iconst 0, 1) := by decide +kernel
theorem dX12_year_45 : decode cX12_year 45 = .ok (.istore_n 2, 1) := by decide +kernel
theorem dX12_year_46 : decode cX12_year 46 = .ok (.iload_n 2, 1) := by decide +kernel
theorem dX12_year_47 : decode cX12_year 47 = .ok (.iload_n 1, 1) := by decide +kernel
theorem dX12_year_48 : decode cX12_year 48 = .ok (.if_icmp .ge 14, 3) := by decide +kernel
theorem dX12_year_51 : decode cX12_year 51 = .ok (.aload_n 0, 1) := by decide +kernel
theorem dX12_year_52 : decode cX12_year 52 = .ok (.iconst 0, 1) := by decide +kernel
theorem dX12_year_53 : decode cX12_year 53 = .ok (.invokevirtual 184, 3) := by decide +kernel
theorem dX12_year_56 : decode cX12_year 56 = .ok (.iinc 2 1, 3) := by decide +kernel
theorem dX12_year_59 : decode cX12_year 59 = .ok (.goto (-13), 3) := by decide +kernel
theorem dX12_year_62 : decode cX12_year 62 = .ok (.aload_n 0, 1) := by decide +kernel
theorem dX12_year_63 : decode cX12_year 63 = .ok (.getfield 19, 3) := by decide +kernel
theorem dX12_year_66 : decode cX12_year 66 = .ok (.iconst 2, 1) := by decide +kernel
theorem dX12_year_67 : decode cX12_year 67 = .ok (.iaload, 1) := by decide +kernel
theorem dX12_year_68 : decode cX12_year 68 = .ok (.ireturn, 1) := by decide +kernel
theorem dX12_wit_0 : decode cX12_wit 0 = .ok (.aload_n 0, 1) := by decide +kernel
theorem dX12_wit_1 : decode cX12_wit 1 = .ok (.iload_n 1, 1) := by decide +kernel
theorem dX12_wit_2 : decode cX12_wit 2 = .ok (.invokevirtual 215, 3) := by decide +kernel
theorem dX12_wit_5 : decode cX12_wit 5 = .ok (.ifCond .ne 6, 3) := by decide +kernel
theorem dX12_wit_8 : decode cX12_wit 8 = .ok (.ldc 219, 2) := by decide +kernel
theorem dX12_wit_10 : decode cX12_wit 10 = .ok (.ireturn, 1) := by decide +kernel
theorem dX12_wit_11 : decode cX12_wit 11 = .ok (.iload_n 2, 1) := by decide +kernel
theorem dX12_wit_12 : decode cX12_wit 12 = .ok (.i2l, 1) := by decide +kernel
theorem dX12_wit_13 : decode cX12_wit 13 = .ok (.lconst 1, 1) := by decide +kernel
theorem dX12_wit_14 : decode cX12_wit 14 = .ok (.ldc2_w 257, 3) := by decide +kernel
theorem dX12_wit_17 : decode cX12_wit 17 = .ok (.invokestatic 75, 3) := by decide +kernel
theorem dX12_wit_20 : decode cX12_wit 20 = .ok (.ifCond .ne 6, 3) := by decide +kernel
theorem dX12_wit_23 : decode cX12_wit 23 = .ok (.ldc 84, 2) := by decide +kernel
theorem dX12_wit_25 : decode cX12_wit 25 = .ok (.ireturn, 1) := by decide +kernel
theorem dX12_wit_26 : decode cX12_wit 26 = .ok (.aload_n 0, 1) := by decide +kernel
theorem dX12_wit_27 : decode cX12_wit 27 = .ok (.invokevirtual 237, 3) := by decide +kernel
theorem dX12_wit_30 : decode cX12_wit 30 = .ok (.aload_n 0, 1) := by decide +kernel
theorem dX12_wit_31 : decode cX12_wit 31 = .ok (.getfield 19, 3) := by decide +kernel
theorem dX12_wit_34 : decode cX12_wit 34 = .ok (.iconst 5, 1) := by decide +kernel
theorem dX12_wit_35 : decode cX12_wit 35 = .ok (.iload_n 1, 1) := by decide +kernel
theorem dX12_wit_36 : decode cX12_wit 36 = .ok (.iadd, 1) := by decide +kernel
theorem dX12_wit_37 : decode cX12_wit 37 = .ok (.iaload, 1) := by decide +kernel
theorem dX12_wit_38 : decode cX12_wit 38 = .ok (.istore_n 3, 1) := by decide +kernel
theorem dX12_wit_39 : decode cX12_wit 39 = .ok (.aload_n 0, 1) := by decide +kernel
theorem dX12_wit_40 : decode cX12_wit 40 = .ok (.getfield 19, 3) := by decide +kernel
theorem dX12_wit_43 : decode cX12_wit 43 = .ok (.iconst 5, 1) := by decide +kernel
theorem dX12_wit_44 : decode cX12_wit 44 = .ok (.iload_n 1, 1) := by decide +kernel
theorem dX12_wit_45 : decode cX12_wit 45 = .ok (.iadd, 1) := by decide +kernel
theorem dX12_wit_46 : decode cX12_wit 46 = .ok (.iload_n 2, 1) := by decide +kernel
theorem dX12_wit_47 : decode cX12_wit 47 = .ok (.iastore, 1) := by decide +kernel
theorem dX12_wit_48 : decode cX12_wit 48 = .ok (.iload_n 3, 1) := by decide +kernel
theorem dX12_wit_49 : decode cX12_wit 49 = .ok (.ireturn, 1) := by decide +kernel
theorem dX12_bear_0 : decode cX12_bear 0 = .ok (.aload_n 0, 1) := by decide +kernel
theorem dX12_bear_1 : decode cX12_bear 1 = .ok (.iload_n 1, 1) := by decide +kernel
theorem dX12_bear_2 : decode cX12_bear 2 = .ok (.invokevirtual 226, 3) := by decide +kernel
theorem dX12_bear_5 : decode cX12_bear 5 = .ok (.ifCond .ne 6, 3) := by decide +kernel
theorem dX12_bear_8 : decode cX12_bear 8 = .ok (.ldc 219, 2) := by decide +kernel
theorem dX12_bear_10 : decode cX12_bear 10 = .ok (.ireturn, 1) := by decide +kernel
theorem dX12_bear_11 : decode cX12_bear 11 = .ok (.iload_n 2, 1) := by decide +kernel
theorem dX12_bear_12 : decode cX12_bear 12 = .ok (.i2l, 1) := by decide +kernel
theorem dX12_bear_13 : decode cX12_bear 13 = .ok (.lconst 0, 1) := by decide +kernel
theorem dX12_bear_14 : decode cX12_bear 14 = .ok (.ldc2_w 235, 3) := by decide +kernel
theorem dX12_bear_17 : decode cX12_bear 17 = .ok (.invokestatic 75, 3) := by decide +kernel
theorem dX12_bear_20 : decode cX12_bear 20 = .ok (.ifCond .ne 6, 3) := by decide +kernel
theorem dX12_bear_23 : decode cX12_bear 23 = .ok (.ldc 84, 2) := by decide +kernel
theorem dX12_bear_25 : decode cX12_bear 25 = .ok (.ireturn, 1) := by decide +kernel
theorem dX12_bear_26 : decode cX12_bear 26 = .ok (.aload_n 0, 1) := by decide +kernel
theorem dX12_bear_27 : decode cX12_bear 27 = .ok (.invokevirtual 237, 3) := by decide +kernel
theorem dX12_bear_30 : decode cX12_bear 30 = .ok (.aload_n 0, 1) := by decide +kernel
theorem dX12_bear_31 : decode cX12_bear 31 = .ok (.getfield 19, 3) := by decide +kernel
theorem dX12_bear_34 : decode cX12_bear 34 = .ok (.bipush 26, 2) := by decide +kernel
theorem dX12_bear_36 : decode cX12_bear 36 = .ok (.iload_n 1, 1) := by decide +kernel
theorem dX12_bear_37 : decode cX12_bear 37 = .ok (.iadd, 1) := by decide +kernel
theorem dX12_bear_38 : decode cX12_bear 38 = .ok (.iaload, 1) := by decide +kernel
theorem dX12_bear_39 : decode cX12_bear 39 = .ok (.istore_n 3, 1) := by decide +kernel
theorem dX12_bear_40 : decode cX12_bear 40 = .ok (.aload_n 0, 1) := by decide +kernel
theorem dX12_bear_41 : decode cX12_bear 41 = .ok (.getfield 19, 3) := by decide +kernel
theorem dX12_bear_44 : decode cX12_bear 44 = .ok (.bipush 26, 2) := by decide +kernel
theorem dX12_bear_46 : decode cX12_bear 46 = .ok (.iload_n 1, 1) := by decide +kernel
end
section
theorem dX12_bear_47 : decode cX12_bear 47 = .ok (.iadd, 1) := by decide +kernel
theorem dX12_bear_48 : decode cX12_bear 48 = .ok (.iload_n 2, 1) := by decide +kernel
theorem dX12_bear_49 : decode cX12_bear 49 = .ok (.iastore, 1) := by decide +kernel
theorem dX12_bear_50 : decode cX12_bear 50 = .ok (.iload_n 3, 1) := by decide +kernel
theorem dX12_bear_51 : decode cX12_bear 51 = .ok (.ireturn, 1) := by decide +kernel
theorem dX12_draw_0 : decode cX12_draw 0 = .ok (.aload_n 0, 1) := by decide +kernel
theorem dX12_draw_1 : decode cX12_draw 1 = .ok (.aload_n 0, 1) := by decide +kernel
theorem dX12_draw_2 : decode cX12_draw 2 = .ok (.getfield 259, 3) := by decide +kernel
theorem dX12_draw_5 : decode cX12_draw 5 = .ok (.i2l, 1) := by decide +kernel
theorem dX12_draw_6 : decode cX12_draw 6 = .ok (.ldc2_w 262, 3) := by decide +kernel
theorem dX12_draw_9 : decode cX12_draw 9 = .ok (.lmul, 1) := by decide +kernel
theorem dX12_draw_10 : decode cX12_draw 10 = .ok (.ldc2_w 264, 3) := by decide +kernel
theorem dX12_draw_13 : decode cX12_draw 13 = .ok (.ladd, 1) := by decide +kernel
theorem dX12_draw_14 : decode cX12_draw 14 = .ok (.ldc2_w 266, 3) := by decide +kernel
theorem dX12_draw_17 : decode cX12_draw 17 = .ok (.lrem, 1) := by decide +kernel
theorem dX12_draw_18 : decode cX12_draw 18 = .ok (.l2i, 1) := by decide +kernel
theorem dX12_draw_19 : decode cX12_draw 19 = .ok (.putfield 259, 3) := by decide +kernel
theorem dX12_draw_22 : decode cX12_draw 22 = .ok (.aload_n 0, 1) := by decide +kernel
theorem dX12_draw_23 : decode cX12_draw 23 = .ok (.getfield 259, 3) := by decide +kernel
theorem dX12_draw_26 : decode cX12_draw 26 = .ok (.ldc_w 268, 3) := by decide +kernel
theorem dX12_draw_29 : decode cX12_draw 29 = .ok (.idiv, 1) := by decide +kernel
theorem dX12_draw_30 : decode cX12_draw 30 = .ok (.iload_n 1, 1) := by decide +kernel
theorem dX12_draw_31 : decode cX12_draw 31 = .ok (.irem, 1) := by decide +kernel
theorem dX12_draw_32 : decode cX12_draw 32 = .ok (.ireturn, 1) := by decide +kernel
theorem dX12_chance_0 : decode cX12_chance 0 = .ok (.aload_n 0, 1) := by decide +kernel
theorem dX12_chance_1 : decode cX12_chance 1 = .ok (.iconst 4, 1) := by decide +kernel
theorem dX12_chance_2 : decode cX12_chance 2 = .ok (.invokevirtual 269, 3) := by decide +kernel
theorem dX12_chance_5 : decode cX12_chance 5 = .ok (.istore_n 1, 1) := by decide +kernel
theorem dX12_chance_6 : decode cX12_chance 6 = .ok (.aload_n 0, 1) := by decide +kernel
theorem dX12_chance_7 : decode cX12_chance 7 = .ok (.aload_n 0, 1) := by decide +kernel
theorem dX12_chance_8 : decode cX12_chance 8 = .ok (.getfield 72, 3) := by decide +kernel
theorem dX12_chance_11 : decode cX12_chance 11 = .ok (.invokevirtual 269, 3) := by decide +kernel
theorem dX12_chance_14 : decode cX12_chance 14 = .ok (.istore_n 2, 1) := by decide +kernel
theorem dX12_chance_15 : decode cX12_chance 15 = .ok (.aload_n 0, 1) := by decide +kernel
theorem dX12_chance_16 : decode cX12_chance 16 = .ok (.bipush 100, 2) := by decide +kernel
theorem dX12_chance_18 : decode cX12_chance 18 = .ok (.invokevirtual 269, 3) := by decide +kernel
theorem dX12_chance_21 : decode cX12_chance 21 = .ok (.istore_n 3, 1) := by decide +kernel
theorem dX12_chance_22 : decode cX12_chance 22 = .ok (.iload_n 1, 1) := by decide +kernel
theorem dX12_chance_23 : decode cX12_chance 23 = .ok (.iconst 2, 1) := by decide +kernel
theorem dX12_chance_24 : decode cX12_chance 24 = .ok (.if_icmp .ge 14, 3) := by decide +kernel
theorem dX12_chance_27 : decode cX12_chance 27 = .ok (.aload_n 0, 1) := by decide +kernel
theorem dX12_chance_28 : decode cX12_chance 28 = .ok (.iload_n 2, 1) := by decide +kernel
theorem dX12_chance_29 : decode cX12_chance 29 = .ok (.iload_n 3, 1) := by decide +kernel
theorem dX12_chance_30 : decode cX12_chance 30 = .ok (.invokevirtual 240, 3) := by decide +kernel
theorem dX12_chance_33 : decode cX12_chance 33 = .ok (.istore 4, 2) := by decide +kernel
theorem dX12_chance_35 : decode cX12_chance 35 = .ok (.goto 40, 3) := by decide +kernel
theorem dX12_chance_38 : decode cX12_chance 38 = .ok (.iload_n 1, 1) := by decide +kernel
theorem dX12_chance_39 : decode cX12_chance 39 = .ok (.iconst 3, 1) := by decide +kernel
theorem dX12_chance_40 : decode cX12_chance 40 = .ok (.if_icmp .ne 20, 3) := by decide +kernel
theorem dX12_chance_43 : decode cX12_chance 43 = .ok (.aload_n 0, 1) := by decide +kernel
theorem dX12_chance_44 : decode cX12_chance 44 = .ok (.getfield 19, 3) := by decide +kernel
theorem dX12_chance_47 : decode cX12_chance 47 = .ok (.iconst 5, 1) := by decide +kernel
theorem dX12_chance_48 : decode cX12_chance 48 = .ok (.iload_n 2, 1) := by decide +kernel
theorem dX12_chance_49 : decode cX12_chance 49 = .ok (.iadd, 1) := by decide +kernel
theorem dX12_chance_50 : decode cX12_chance 50 = .ok (.iload_n 3, 1) := by decide +kernel
theorem dX12_chance_51 : decode cX12_chance 51 = .ok (.bipush 9, 2) := by decide +kernel
theorem dX12_chance_53 : decode cX12_chance 53 = .ok (.irem, 1) := by decide +kernel
theorem dX12_chance_54 : decode cX12_chance 54 = .ok (.iconst 1, 1) := by decide +kernel
theorem dX12_chance_55 : decode cX12_chance 55 = .ok (.iadd, 1) := by decide +kernel
theorem dX12_chance_56 : decode cX12_chance 56 = .ok (.iastore, 1) := by decide +kernel
theorem dX12_chance_57 : decode cX12_chance 57 = .ok (.goto 18, 3) := by decide +kernel
theorem dX12_chance_60 : decode cX12_chance 60 = .ok (.aload_n 0, 1) := by decide +kernel
theorem dX12_chance_61 : decode cX12_chance 61 = .ok (.iload_n 2, 1) := by decide +kernel
theorem dX12_chance_62 : decode cX12_chance 62 = .ok (.iload_n 2, 1) := by decide +kernel
theorem dX12_chance_63 : decode cX12_chance 63 = .ok (.invokevirtual 243, 3) := by decide +kernel
theorem dX12_chance_66 : decode cX12_chance 66 = .ok (.ifCond .eq 9, 3) := by decide +kernel
theorem dX12_chance_69 : decode cX12_chance 69 = .ok (.aload_n 0, 1) := by decide +kernel
theorem dX12_chance_70 : decode cX12_chance 70 = .ok (.iload_n 2, 1) := by decide +kernel
theorem dX12_chance_71 : decode cX12_chance 71 = .ok (.iload_n 2, 1) := by decide +kernel
theorem dX12_chance_72 : decode cX12_chance 72 = .ok (.invokevirtual 247, 3) := by decide +kernel
theorem dX12_chance_75 : decode cX12_chance 75 = .ok (.return_, 1) := by decide +kernel
theorem dX12_drift_0 : decode cX12_drift 0 = .ok (.iload_n 1, 1) := by decide +kernel
theorem dX12_drift_1 : decode cX12_drift 1 = .ok (.i2l, 1) := by decide +kernel
theorem dX12_drift_2 : decode cX12_drift 2 = .ok (.lconst 1, 1) := by decide +kernel
theorem dX12_drift_3 : decode cX12_drift 3 = .ok (.ldc2_w 251, 3) := by decide +kernel
theorem dX12_drift_6 : decode cX12_drift 6 = .ok (.invokestatic 75, 3) := by decide +kernel
theorem dX12_drift_9 : decode cX12_drift 9 = .ok (.ifCond .ne 6, 3) := by decide +kernel
theorem dX12_drift_12 : decode cX12_drift 12 = .ok (.ldc 84, 2) := by decide +kernel
theorem dX12_drift_14 : decode cX12_drift 14 = .ok (.ireturn, 1) := by decide +kernel
theorem dX12_drift_15 : decode cX12_drift 15 = .ok (.aload_n 0, 1) := by decide +kernel
theorem dX12_drift_16 : decode cX12_drift 16 = .ok (.invokevirtual 253, 3) := by decide +kernel
theorem dX12_drift_19 : decode cX12_drift 19 = .ok (.ifCond .ne 6, 3) := by decide +kernel
theorem dX12_drift_22 : decode cX12_drift 22 = .ok (.ldc 246, 2) := by decide +kernel
theorem dX12_drift_24 : decode cX12_drift 24 = .ok (.ireturn, 1) := by decide +kernel
theorem dX12_drift_25 : decode cX12_drift 25 = .ok (.aload_n 0, 1) := by decide +kernel
theorem dX12_drift_26 : decode cX12_drift 26 = .ok (.getfield 19, 3) := by decide +kernel
theorem dX12_drift_29 : decode cX12_drift 29 = .ok (.iconst 1, 1) := by decide +kernel
theorem dX12_drift_30 : decode cX12_drift 30 = .ok (.iaload, 1) := by decide +kernel
theorem dX12_drift_31 : decode cX12_drift 31 = .ok (.sipush 9000, 3) := by decide +kernel
theorem dX12_drift_34 : decode cX12_drift 34 = .ok (.if_icmp .le 6, 3) := by decide +kernel
theorem dX12_drift_37 : decode cX12_drift 37 = .ok (.ldc 88, 2) := by decide +kernel
theorem dX12_drift_39 : decode cX12_drift 39 = .ok (.ireturn, 1) := by decide +kernel
theorem dX12_drift_40 : decode cX12_drift 40 = .ok (.aload_n 0, 1) := by decide +kernel
theorem dX12_drift_41 : decode cX12_drift 41 = .ok (.invokevirtual 237, 3) := by decide +kernel
theorem dX12_drift_44 : decode cX12_drift 44 = .ok (.iconst 0, 1) := by decide +kernel
theorem dX12_drift_45 : decode cX12_drift 45 = .ok (.istore_n 2, 1) := by decide +kernel
theorem dX12_drift_46 : decode cX12_drift 46 = .ok (.iload_n 2, 1) := by decide +kernel
theorem dX12_drift_47 : decode cX12_drift 47 = .ok (.iload_n 1, 1) := by decide +kernel
theorem dX12_drift_48 : decode cX12_drift 48 = .ok (.if_icmp .ge 25, 3) := by decide +kernel
theorem dX12_drift_51 : decode cX12_drift 51 = .ok (.aload_n 0, 1) := by decide +kernel
theorem dX12_drift_52 : decode cX12_drift 52 = .ok (.getfield 72, 3) := by decide +kernel
theorem dX12_drift_55 : decode cX12_drift 55 = .ok (.ifCond .le 7, 3) := by decide +kernel
theorem dX12_drift_58 : decode cX12_drift 58 = .ok (.aload_n 0, 1) := by decide +kernel
theorem dX12_drift_59 : decode cX12_drift 59 = .ok (.invokevirtual 272, 3) := by decide +kernel
theorem dX12_drift_62 : decode cX12_drift 62 = .ok (.aload_n 0, 1) := by decide +kernel
theorem dX12_drift_63 : decode cX12_drift 63 = .ok (.iconst 0, 1) := by decide +kernel
theorem dX12_drift_64 : decode cX12_drift 64 = .ok (.invokevirtual 184, 3) := by decide +kernel
theorem dX12_drift_67 : decode cX12_drift 67 = .ok (.iinc 2 1, 3) := by decide +kernel
theorem dX12_drift_70 : decode cX12_drift 70 = .ok (.goto (-24), 3) := by decide +kernel
theorem dX12_drift_73 : decode cX12_drift 73 = .ok (.aload_n 0, 1) := by decide +kernel
theorem dX12_drift_74 : decode cX12_drift 74 = .ok (.getfield 19, 3) := by decide +kernel
theorem dX12_drift_77 : decode cX12_drift 77 = .ok (.iconst 2, 1) := by decide +kernel
theorem dX12_drift_78 : decode cX12_drift 78 = .ok (.iaload, 1) := by decide +kernel
theorem dX12_drift_79 : decode cX12_drift 79 = .ok (.ireturn, 1) := by decide +kernel
theorem dX12_undo_0 : decode cX12_undo 0 = .ok (.aload_n 0, 1) := by decide +kernel
theorem dX12_undo_1 : decode cX12_undo 1 = .ok (.getfield 150, 3) := by decide +kernel
theorem dX12_undo_4 : decode cX12_undo 4 = .ok (.ifCond .ne 6, 3) := by decide +kernel
theorem dX12_undo_7 : decode cX12_undo 7 = .ok (.ldc 246, 2) := by decide +kernel
theorem dX12_undo_9 : decode cX12_undo 9 = .ok (.ireturn, 1) := by decide +kernel
theorem dX12_undo_10 : decode cX12_undo 10 = .ok (.aload_n 0, 1) := by decide +kernel
theorem dX12_undo_11 : decode cX12_undo 11 = .ok (.dup, 1) := by decide +kernel
theorem dX12_undo_12 : decode cX12_undo 12 = .ok (.getfield 150, 3) := by decide +kernel
theorem dX12_undo_15 : decode cX12_undo 15 = .ok (.iconst 1, 1) := by decide +kernel
theorem dX12_undo_16 : decode cX12_undo 16 = .ok (.isub, 1) := by decide +kernel
theorem dX12_undo_17 : decode cX12_undo 17 = .ok (.putfield 150, 3) := by decide +kernel
theorem dX12_undo_20 : decode cX12_undo 20 = .ok (.iconst 0, 1) := by decide +kernel
theorem dX12_undo_21 : decode cX12_undo 21 = .ok (.istore_n 1, 1) := by decide +kernel
theorem dX12_undo_22 : decode cX12_undo 22 = .ok (.iload_n 1, 1) := by decide +kernel
theorem dX12_undo_23 : decode cX12_undo 23 = .ok (.bipush 30, 2) := by decide +kernel
theorem dX12_undo_25 : decode cX12_undo 25 = .ok (.if_icmp .ge 29, 3) := by decide +kernel
theorem dX12_undo_28 : decode cX12_undo 28 = .ok (.aload_n 0, 1) := by decide +kernel
theorem dX12_undo_29 : decode cX12_undo 29 = .ok (.getfield 19, 3) := by decide +kernel
theorem dX12_undo_32 : decode cX12_undo 32 = .ok (.iload_n 1, 1) := by decide +kernel
theorem dX12_undo_33 : decode cX12_undo 33 = .ok (.aload_n 0, 1) := by decide +kernel
theorem dX12_undo_34 : decode cX12_undo 34 = .ok (.getfield 44, 3) := by decide +kernel
theorem dX12_undo_37 : decode cX12_undo 37 = .ok (.bipush 30, 2) := by decide +kernel
theorem dX12_undo_39 : decode cX12_undo 39 = .ok (.aload_n 0, 1) := by decide +kernel
theorem dX12_undo_40 : decode cX12_undo 40 = .ok (.getfield 150, 3) := by decide +kernel
theorem dX12_undo_43 : decode cX12_undo 43 = .ok (.imul, 1) := by decide +kernel
theorem dX12_undo_44 : decode cX12_undo 44 = .ok (.iload_n 1, 1) := by decide +kernel
theorem dX12_undo_45 : decode cX12_undo 45 = .ok (.iadd, 1) := by decide +kernel
theorem dX12_undo_46 : decode cX12_undo 46 = .ok (.iaload, 1) := by decide +kernel
theorem dX12_undo_47 : decode cX12_undo 47 = .ok (.iastore, 1) := by decide +kernel
theorem dX12_undo_48 : decode cX12_undo 48 = .ok (.iinc 1 1, 3) := by decide +kernel
theorem dX12_undo_51 : decode cX12_undo 51 = .ok (.goto (-29), 3) := by decide +kernel
theorem dX12_undo_54 : decode cX12_undo 54 = .ok (.aload_n 0, 1) := by decide +kernel
theorem dX12_undo_55 : decode cX12_undo 55 = .ok (.getfield 150, 3) := by decide +kernel
theorem dX12_undo_58 : decode cX12_undo 58 = .ok (.ireturn, 1) := by decide +kernel
theorem dX12_down_0 : decode cX12_down 0 = .ok (.aload_n 0, 1) := by decide +kernel
theorem dX12_down_1 : decode cX12_down 1 = .ok (.iload_n 1, 1) := by decide +kernel
theorem dX12_down_2 : decode cX12_down 2 = .ok (.invokevirtual 215, 3) := by decide +kernel
theorem dX12_down_5 : decode cX12_down 5 = .ok (.ifCond .ne 6, 3) := by decide +kernel
theorem dX12_down_8 : decode cX12_down 8 = .ok (.ldc 219, 2) := by decide +kernel
theorem dX12_down_10 : decode cX12_down 10 = .ok (.ireturn, 1) := by decide +kernel
theorem dX12_down_11 : decode cX12_down 11 = .ok (.iload_n 2, 1) := by decide +kernel
theorem dX12_down_12 : decode cX12_down 12 = .ok (.i2l, 1) := by decide +kernel
theorem dX12_down_13 : decode cX12_down 13 = .ok (.lconst 0, 1) := by decide +kernel
theorem dX12_down_14 : decode cX12_down 14 = .ok (.ldc2_w 235, 3) := by decide +kernel
theorem dX12_down_17 : decode cX12_down 17 = .ok (.invokestatic 75, 3) := by decide +kernel
theorem dX12_down_20 : decode cX12_down 20 = .ok (.ifCond .eq 13, 3) := by decide +kernel
theorem dX12_down_23 : decode cX12_down 23 = .ok (.iload_n 3, 1) := by decide +kernel
theorem dX12_down_24 : decode cX12_down 24 = .ok (.i2l, 1) := by decide +kernel
theorem dX12_down_25 : decode cX12_down 25 = .ok (.lconst 0, 1) := by decide +kernel
theorem dX12_down_26 : decode cX12_down 26 = .ok (.lconst 1, 1) := by decide +kernel
theorem dX12_down_27 : decode cX12_down 27 = .ok (.invokestatic 75, 3) := by decide +kernel
theorem dX12_down_30 : decode cX12_down 30 = .ok (.ifCond .ne 6, 3) := by decide +kernel
theorem dX12_down_33 : decode cX12_down 33 = .ok (.ldc 84, 2) := by decide +kernel
theorem dX12_down_35 : decode cX12_down 35 = .ok (.ireturn, 1) := by decide +kernel
theorem dX12_down_36 : decode cX12_down 36 = .ok (.aload_n 0, 1) := by decide +kernel
theorem dX12_down_37 : decode cX12_down 37 = .ok (.iload_n 1, 1) := by decide +kernel
theorem dX12_down_38 : decode cX12_down 38 = .ok (.iload_n 2, 1) := by decide +kernel
theorem dX12_down_39 : decode cX12_down 39 = .ok (.invokevirtual 159, 3) := by decide +kernel
theorem dX12_down_42 : decode cX12_down 42 = .ok (.istore 4, 2) := by decide +kernel
theorem dX12_down_44 : decode cX12_down 44 = .ok (.iload_n 3, 1) := by decide +kernel
theorem dX12_down_45 : decode cX12_down 45 = .ok (.ifCond .ne 8, 3) := by decide +kernel
theorem dX12_down_48 : decode cX12_down 48 = .ok (.iload 4, 2) := by decide +kernel
theorem dX12_down_50 : decode cX12_down 50 = .ok (.goto 7, 3) := by decide +kernel
theorem dX12_down_53 : decode cX12_down 53 = .ok (.aload_n 0, 1) := by decide +kernel
theorem dX12_down_54 : decode cX12_down 54 = .ok (.getfield 153, 3) := by decide +kernel
theorem dX12_down_57 : decode cX12_down 57 = .ok (.ireturn, 1) := by decide +kernel
theorem dX12_best_0 : decode cX12_best 0 = .ok (.iload_n 1, 1) := by decide +kernel
theorem dX12_best_1 : decode cX12_best 1 = .ok (.i2l, 1) := by decide +kernel
theorem dX12_best_2 : decode cX12_best 2 = .ok (.lconst 0, 1) := by decide +kernel
theorem dX12_best_3 : decode cX12_best 3 = .ok (.ldc2_w 235, 3) := by decide +kernel
theorem dX12_best_6 : decode cX12_best 6 = .ok (.invokestatic 75, 3) := by decide +kernel
theorem dX12_best_9 : decode cX12_best 9 = .ok (.ifCond .ne 6, 3) := by decide +kernel
theorem dX12_best_12 : decode cX12_best 12 = .ok (.ldc 84, 2) := by decide +kernel
theorem dX12_best_14 : decode cX12_best 14 = .ok (.ireturn, 1) := by decide +kernel
theorem dX12_best_15 : decode cX12_best 15 = .ok (.iconst (-1), 1) := by decide +kernel
theorem dX12_best_16 : decode cX12_best 16 = .ok (.istore_n 2, 1) := by decide +kernel
theorem dX12_best_17 : decode cX12_best 17 = .ok (.ldc_w 275, 3) := by decide +kernel
theorem dX12_best_20 : decode cX12_best 20 = .ok (.istore_n 3, 1) := by decide +kernel
theorem dX12_best_21 : decode cX12_best 21 = .ok (.iconst 0, 1) := by decide +kernel
theorem dX12_best_22 : decode cX12_best 22 = .ok (.istore 4, 2) := by decide +kernel
theorem dX12_best_24 : decode cX12_best 24 = .ok (.iload 4, 2) := by decide +kernel
theorem dX12_best_26 : decode cX12_best 26 = .ok (.aload_n 0, 1) := by decide +kernel
theorem dX12_best_27 : decode cX12_best 27 = .ok (.getfield 72, 3) := by decide +kernel
theorem dX12_best_30 : decode cX12_best 30 = .ok (.if_icmp .ge 58, 3) := by decide +kernel
theorem dX12_best_33 : decode cX12_best 33 = .ok (.aload_n 0, 1) := by decide +kernel
theorem dX12_best_34 : decode cX12_best 34 = .ok (.getfield 19, 3) := by decide +kernel
theorem dX12_best_37 : decode cX12_best 37 = .ok (.iconst 3, 1) := by decide +kernel
theorem dX12_best_38 : decode cX12_best 38 = .ok (.iaload, 1) := by decide +kernel
theorem dX12_best_39 : decode cX12_best 39 = .ok (.iload 4, 2) := by decide +kernel
theorem dX12_best_41 : decode cX12_best 41 = .ok (.invokestatic 174, 3) := by decide +kernel
theorem dX12_best_44 : decode cX12_best 44 = .ok (.ifCond .ne 38, 3) := by decide +kernel
theorem dX12_best_47 : decode cX12_best 47 = .ok (.aload_n 0, 1) := by decide +kernel
theorem dX12_best_48 : decode cX12_best 48 = .ok (.iload 4, 2) := by decide +kernel
theorem dX12_best_50 : decode cX12_best 50 = .ok (.iload_n 1, 1) := by decide +kernel
theorem dX12_best_51 : decode cX12_best 51 = .ok (.invokevirtual 159, 3) := by decide +kernel
theorem dX12_best_54 : decode cX12_best 54 = .ok (.istore 5, 2) := by decide +kernel
theorem dX12_best_56 : decode cX12_best 56 = .ok (.iload 5, 2) := by decide +kernel
theorem dX12_best_58 : decode cX12_best 58 = .ok (.iload_n 3, 1) := by decide +kernel
theorem dX12_best_59 : decode cX12_best 59 = .ok (.if_icmp .ge 8, 3) := by decide +kernel
theorem dX12_best_62 : decode cX12_best 62 = .ok (.iload 4, 2) := by decide +kernel
theorem dX12_best_64 : decode cX12_best 64 = .ok (.goto 4, 3) := by decide +kernel
theorem dX12_best_67 : decode cX12_best 67 = .ok (.iload_n 2, 1) := by decide +kernel
theorem dX12_best_68 : decode cX12_best 68 = .ok (.istore_n 2, 1) := by decide +kernel
theorem dX12_best_69 : decode cX12_best 69 = .ok (.iload 5, 2) := by decide +kernel
theorem dX12_best_71 : decode cX12_best 71 = .ok (.iload_n 3, 1) := by decide +kernel
theorem dX12_best_72 : decode cX12_best 72 = .ok (.if_icmp .ge 8, 3) := by decide +kernel
theorem dX12_best_75 : decode cX12_best 75 = .ok (.iload 5, 2) := by decide +kernel
theorem dX12_best_77 : decode cX12_best 77 = .ok (.goto 4, 3) := by decide +kernel
theorem dX12_best_80 : decode cX12_best 80 = .ok (.iload_n 3, 1) := by decide +kernel
theorem dX12_best_81 : decode cX12_best 81 = .ok (.istore_n 3, 1) := by decide +kernel
theorem dX12_best_82 : decode cX12_best 82 = .ok (.iinc 4 1, 3) := by decide +kernel
theorem dX12_best_85 : decode cX12_best 85 = .ok (.goto (-61), 3) := by decide +kernel
theorem dX12_best_88 : decode cX12_best 88 = .ok (.iload_n 2, 1) := by decide +kernel
theorem dX12_best_89 : decode cX12_best 89 = .ok (.ireturn, 1) := by decide +kernel
theorem dX12_leftBy_0 : decode cX12_leftBy 0 = .ok (.aload_n 0, 1) := by decide +kernel
theorem dX12_leftBy_1 : decode cX12_leftBy 1 = .ok (.iload_n 2, 1) := by decide +kernel
theorem dX12_leftBy_2 : decode cX12_leftBy 2 = .ok (.aload_n 0, 1) := by decide +kernel
theorem dX12_leftBy_3 : decode cX12_leftBy 3 = .ok (.getfield 19, 3) := by decide +kernel
theorem dX12_leftBy_6 : decode cX12_leftBy 6 = .ok (.bipush 12, 2) := by decide +kernel
theorem dX12_leftBy_8 : decode cX12_leftBy 8 = .ok (.iload_n 1, 1) := by decide +kernel
theorem dX12_leftBy_9 : decode cX12_leftBy 9 = .ok (.iadd, 1) := by decide +kernel
theorem dX12_leftBy_10 : decode cX12_leftBy 10 = .ok (.iaload, 1) := by decide +kernel
theorem dX12_leftBy_11 : decode cX12_leftBy 11 = .ok (.invokevirtual 159, 3) := by decide +kernel
theorem dX12_leftBy_14 : decode cX12_leftBy 14 = .ok (.ireturn, 1) := by decide +kernel
theorem dX12_layLeast_0 : decode cX12_layLeast 0 = .ok (.iconst 1, 1) := by decide +kernel
theorem dX12_layLeast_1 : decode cX12_layLeast 1 = .ok (.aload_n 0, 1) := by decide +kernel
theorem dX12_layLeast_2 : decode cX12_layLeast 2 = .ok (.getfield 72, 3) := by decide +kernel
theorem dX12_layLeast_5 : decode cX12_layLeast 5 = .ok (.ishl, 1) := by decide +kernel
theorem dX12_layLeast_6 : decode cX12_layLeast 6 = .ok (.istore_n 1, 1) := by decide +kernel
theorem dX12_layLeast_7 : decode cX12_layLeast 7 = .ok (.iconst 0, 1) := by decide +kernel
theorem dX12_layLeast_8 : decode cX12_layLeast 8 = .ok (.istore_n 2, 1) := by decide +kernel
theorem dX12_layLeast_9 : decode cX12_layLeast 9 = .ok (.iload_n 2, 1) := by decide +kernel
theorem dX12_layLeast_10 : decode cX12_layLeast 10 = .ok (.iload_n 1, 1) := by decide +kernel
theorem dX12_layLeast_11 : decode cX12_layLeast 11 = .ok (.if_icmp .ge 25, 3) := by decide +kernel
theorem dX12_layLeast_14 : decode cX12_layLeast 14 = .ok (.aload_n 0, 1) := by decide +kernel
theorem dX12_layLeast_15 : decode cX12_layLeast 15 = .ok (.getfield 47, 3) := by decide +kernel
theorem dX12_layLeast_18 : decode cX12_layLeast 18 = .ok (.sipush 128, 3) := by decide +kernel
theorem dX12_layLeast_21 : decode cX12_layLeast 21 = .ok (.aload_n 0, 1) := by decide +kernel
theorem dX12_layLeast_22 : decode cX12_layLeast 22 = .ok (.getfield 72, 3) := by decide +kernel
theorem dX12_layLeast_25 : decode cX12_layLeast 25 = .ok (.imul, 1) := by decide +kernel
theorem dX12_layLeast_26 : decode cX12_layLeast 26 = .ok (.iload_n 2, 1) := by decide +kernel
theorem dX12_layLeast_27 : decode cX12_layLeast 27 = .ok (.iadd, 1) := by decide +kernel
theorem dX12_layLeast_28 : decode cX12_layLeast 28 = .ok (.iconst 0, 1) := by decide +kernel
theorem dX12_layLeast_29 : decode cX12_layLeast 29 = .ok (.iastore, 1) := by decide +kernel
theorem dX12_layLeast_30 : decode cX12_layLeast 30 = .ok (.iinc 2 1, 3) := by decide +kernel
theorem dX12_layLeast_33 : decode cX12_layLeast 33 = .ok (.goto (-24), 3) := by decide +kernel
theorem dX12_layLeast_36 : decode cX12_layLeast 36 = .ok (.aload_n 0, 1) := by decide +kernel
theorem dX12_layLeast_37 : decode cX12_layLeast 37 = .ok (.getfield 72, 3) := by decide +kernel
theorem dX12_layLeast_40 : decode cX12_layLeast 40 = .ok (.iconst 1, 1) := by decide +kernel
theorem dX12_layLeast_41 : decode cX12_layLeast 41 = .ok (.isub, 1) := by decide +kernel
theorem dX12_layLeast_42 : decode cX12_layLeast 42 = .ok (.istore_n 2, 1) := by decide +kernel
theorem dX12_layLeast_43 : decode cX12_layLeast 43 = .ok (.iload_n 2, 1) := by decide +kernel
theorem dX12_layLeast_44 : decode cX12_layLeast 44 = .ok (.ifCond .lt 146, 3) := by decide +kernel
theorem dX12_layLeast_47 : decode cX12_layLeast 47 = .ok (.iconst 0, 1) := by decide +kernel
theorem dX12_layLeast_48 : decode cX12_layLeast 48 = .ok (.istore_n 3, 1) := by decide +kernel
theorem dX12_layLeast_49 : decode cX12_layLeast 49 = .ok (.iload_n 3, 1) := by decide +kernel
theorem dX12_layLeast_50 : decode cX12_layLeast 50 = .ok (.iload_n 1, 1) := by decide +kernel
theorem dX12_layLeast_51 : decode cX12_layLeast 51 = .ok (.if_icmp .ge 133, 3) := by decide +kernel
theorem dX12_layLeast_54 : decode cX12_layLeast 54 = .ok (.aload_n 0, 1) := by decide +kernel
theorem dX12_layLeast_55 : decode cX12_layLeast 55 = .ok (.getfield 19, 3) := by decide +kernel
theorem dX12_layLeast_58 : decode cX12_layLeast 58 = .ok (.bipush 12, 2) := by decide +kernel
theorem dX12_layLeast_60 : decode cX12_layLeast 60 = .ok (.iload_n 2, 1) := by decide +kernel
theorem dX12_layLeast_61 : decode cX12_layLeast 61 = .ok (.iadd, 1) := by decide +kernel
theorem dX12_layLeast_62 : decode cX12_layLeast 62 = .ok (.iaload, 1) := by decide +kernel
theorem dX12_layLeast_63 : decode cX12_layLeast 63 = .ok (.aload_n 0, 1) := by decide +kernel
theorem dX12_layLeast_64 : decode cX12_layLeast 64 = .ok (.getfield 47, 3) := by decide +kernel
theorem dX12_layLeast_67 : decode cX12_layLeast 67 = .ok (.sipush 128, 3) := by decide +kernel
theorem dX12_layLeast_70 : decode cX12_layLeast 70 = .ok (.iload_n 2, 1) := by decide +kernel
theorem dX12_layLeast_71 : decode cX12_layLeast 71 = .ok (.iconst 1, 1) := by decide +kernel
theorem dX12_layLeast_72 : decode cX12_layLeast 72 = .ok (.iadd, 1) := by decide +kernel
theorem dX12_layLeast_73 : decode cX12_layLeast 73 = .ok (.imul, 1) := by decide +kernel
theorem dX12_layLeast_74 : decode cX12_layLeast 74 = .ok (.iload_n 3, 1) := by decide +kernel
theorem dX12_layLeast_75 : decode cX12_layLeast 75 = .ok (.iadd, 1) := by decide +kernel
theorem dX12_layLeast_76 : decode cX12_layLeast 76 = .ok (.iaload, 1) := by decide +kernel
theorem dX12_layLeast_77 : decode cX12_layLeast 77 = .ok (.iadd, 1) := by decide +kernel
theorem dX12_layLeast_78 : decode cX12_layLeast 78 = .ok (.istore 4, 2) := by decide +kernel
theorem dX12_layLeast_80 : decode cX12_layLeast 80 = .ok (.iconst 0, 1) := by decide +kernel
theorem dX12_layLeast_81 : decode cX12_layLeast 81 = .ok (.istore 5, 2) := by decide +kernel
theorem dX12_layLeast_83 : decode cX12_layLeast 83 = .ok (.iload 5, 2) := by decide +kernel
theorem dX12_layLeast_85 : decode cX12_layLeast 85 = .ok (.aload_n 0, 1) := by decide +kernel
theorem dX12_layLeast_86 : decode cX12_layLeast 86 = .ok (.getfield 72, 3) := by decide +kernel
theorem dX12_layLeast_89 : decode cX12_layLeast 89 = .ok (.if_icmp .ge 75, 3) := by decide +kernel
theorem dX12_layLeast_92 : decode cX12_layLeast 92 = .ok (.aload_n 0, 1) := by decide +kernel
theorem dX12_layLeast_93 : decode cX12_layLeast 93 = .ok (.getfield 19, 3) := by decide +kernel
theorem dX12_layLeast_96 : decode cX12_layLeast 96 = .ok (.bipush 12, 2) := by decide +kernel
theorem dX12_layLeast_98 : decode cX12_layLeast 98 = .ok (.iload_n 2, 1) := by decide +kernel
theorem dX12_layLeast_99 : decode cX12_layLeast 99 = .ok (.iadd, 1) := by decide +kernel
theorem dX12_layLeast_100 : decode cX12_layLeast 100 = .ok (.iaload, 1) := by decide +kernel
theorem dX12_layLeast_101 : decode cX12_layLeast 101 = .ok (.ifCond .le 63, 3) := by decide +kernel
theorem dX12_layLeast_104 : decode cX12_layLeast 104 = .ok (.iload_n 3, 1) := by decide +kernel
theorem dX12_layLeast_105 : decode cX12_layLeast 105 = .ok (.iload 5, 2) := by decide +kernel
theorem dX12_layLeast_107 : decode cX12_layLeast 107 = .ok (.invokestatic 174, 3) := by decide +kernel
theorem dX12_layLeast_110 : decode cX12_layLeast 110 = .ok (.ifCond .ne 48, 3) := by decide +kernel
theorem dX12_layLeast_113 : decode cX12_layLeast 113 = .ok (.aload_n 0, 1) := by decide +kernel
theorem dX12_layLeast_114 : decode cX12_layLeast 114 = .ok (.iload_n 2, 1) := by decide +kernel
theorem dX12_layLeast_115 : decode cX12_layLeast 115 = .ok (.iload 5, 2) := by decide +kernel
theorem dX12_layLeast_117 : decode cX12_layLeast 117 = .ok (.invokevirtual 276, 3) := by decide +kernel
theorem dX12_layLeast_120 : decode cX12_layLeast 120 = .ok (.aload_n 0, 1) := by decide +kernel
theorem dX12_layLeast_121 : decode cX12_layLeast 121 = .ok (.getfield 47, 3) := by decide +kernel
theorem dX12_layLeast_124 : decode cX12_layLeast 124 = .ok (.sipush 128, 3) := by decide +kernel
theorem dX12_layLeast_127 : decode cX12_layLeast 127 = .ok (.iload_n 2, 1) := by decide +kernel
theorem dX12_layLeast_128 : decode cX12_layLeast 128 = .ok (.iconst 1, 1) := by decide +kernel
theorem dX12_layLeast_129 : decode cX12_layLeast 129 = .ok (.iadd, 1) := by decide +kernel
theorem dX12_layLeast_130 : decode cX12_layLeast 130 = .ok (.imul, 1) := by decide +kernel
theorem dX12_layLeast_131 : decode cX12_layLeast 131 = .ok (.iload_n 3, 1) := by decide +kernel
theorem dX12_layLeast_132 : decode cX12_layLeast 132 = .ok (.iconst 1, 1) := by decide +kernel
theorem dX12_layLeast_133 : decode cX12_layLeast 133 = .ok (.iload 5, 2) := by decide +kernel
theorem dX12_layLeast_135 : decode cX12_layLeast 135 = .ok (.ishl, 1) := by decide +kernel
theorem dX12_layLeast_136 : decode cX12_layLeast 136 = .ok (.ior, 1) := by decide +kernel
theorem dX12_layLeast_137 : decode cX12_layLeast 137 = .ok (.iadd, 1) := by decide +kernel
theorem dX12_layLeast_138 : decode cX12_layLeast 138 = .ok (.iaload, 1) := by decide +kernel
theorem dX12_layLeast_139 : decode cX12_layLeast 139 = .ok (.iadd, 1) := by decide +kernel
theorem dX12_layLeast_140 : decode cX12_layLeast 140 = .ok (.istore 6, 2) := by decide +kernel
theorem dX12_layLeast_142 : decode cX12_layLeast 142 = .ok (.iload 6, 2) := by decide +kernel
theorem dX12_layLeast_144 : decode cX12_layLeast 144 = .ok (.iload 4, 2) := by decide +kernel
theorem dX12_layLeast_146 : decode cX12_layLeast 146 = .ok (.if_icmp .ge 8, 3) := by decide +kernel
theorem dX12_layLeast_149 : decode cX12_layLeast 149 = .ok (.iload 6, 2) := by decide +kernel
theorem dX12_layLeast_151 : decode cX12_layLeast 151 = .ok (.goto 5, 3) := by decide +kernel
theorem dX12_layLeast_154 : decode cX12_layLeast 154 = .ok (.iload 4, 2) := by decide +kernel
theorem dX12_layLeast_156 : decode cX12_layLeast 156 = .ok (.istore 4, 2) := by decide +kernel
theorem dX12_layLeast_158 : decode cX12_layLeast 158 = .ok (.iinc 5 1, 3) := by decide +kernel
theorem dX12_layLeast_161 : decode cX12_layLeast 161 = .ok (.goto (-78), 3) := by decide +kernel
theorem dX12_layLeast_164 : decode cX12_layLeast 164 = .ok (.aload_n 0, 1) := by decide +kernel
theorem dX12_layLeast_165 : decode cX12_layLeast 165 = .ok (.getfield 47, 3) := by decide +kernel
theorem dX12_layLeast_168 : decode cX12_layLeast 168 = .ok (.sipush 128, 3) := by decide +kernel
theorem dX12_layLeast_171 : decode cX12_layLeast 171 = .ok (.iload_n 2, 1) := by decide +kernel
theorem dX12_layLeast_172 : decode cX12_layLeast 172 = .ok (.imul, 1) := by decide +kernel
theorem dX12_layLeast_173 : decode cX12_layLeast 173 = .ok (.iload_n 3, 1) := by decide +kernel
theorem dX12_layLeast_174 : decode cX12_layLeast 174 = .ok (.iadd, 1) := by decide +kernel
theorem dX12_layLeast_175 : decode cX12_layLeast 175 = .ok (.iload 4, 2) := by decide +kernel
theorem dX12_layLeast_177 : decode cX12_layLeast 177 = .ok (.iastore, 1) := by decide +kernel
theorem dX12_layLeast_178 : decode cX12_layLeast 178 = .ok (.iinc 3 1, 3) := by decide +kernel
theorem dX12_layLeast_181 : decode cX12_layLeast 181 = .ok (.goto (-132), 3) := by decide +kernel
theorem dX12_layLeast_184 : decode cX12_layLeast 184 = .ok (.iinc 2 (-1), 3) := by decide +kernel
theorem dX12_layLeast_187 : decode cX12_layLeast 187 = .ok (.goto (-144), 3) := by decide +kernel
theorem dX12_layLeast_190 : decode cX12_layLeast 190 = .ok (.return_, 1) := by decide +kernel
theorem dX12_goerFor_0 : decode cX12_goerFor 0 = .ok (.aload_n 0, 1) := by decide +kernel
theorem dX12_goerFor_1 : decode cX12_goerFor 1 = .ok (.getfield 19, 3) := by decide +kernel
theorem dX12_goerFor_4 : decode cX12_goerFor 4 = .ok (.iconst 3, 1) := by decide +kernel
theorem dX12_goerFor_5 : decode cX12_goerFor 5 = .ok (.iaload, 1) := by decide +kernel
theorem dX12_goerFor_6 : decode cX12_goerFor 6 = .ok (.istore_n 2, 1) := by decide +kernel
theorem dX12_goerFor_7 : decode cX12_goerFor 7 = .ok (.iconst (-1), 1) := by decide +kernel
theorem dX12_goerFor_8 : decode cX12_goerFor 8 = .ok (.istore_n 3, 1) := by decide +kernel
theorem dX12_goerFor_9 : decode cX12_goerFor 9 = .ok (.iconst 0, 1) := by decide +kernel
theorem dX12_goerFor_10 : decode cX12_goerFor 10 = .ok (.istore 4, 2) := by decide +kernel
theorem dX12_goerFor_12 : decode cX12_goerFor 12 = .ok (.iload 4, 2) := by decide +kernel
theorem dX12_goerFor_14 : decode cX12_goerFor 14 = .ok (.iload_n 1, 1) := by decide +kernel
theorem dX12_goerFor_15 : decode cX12_goerFor 15 = .ok (.if_icmp .gt 119, 3) := by decide +kernel
theorem dX12_goerFor_18 : decode cX12_goerFor 18 = .ok (.iconst (-1), 1) := by decide +kernel
theorem dX12_goerFor_19 : decode cX12_goerFor 19 = .ok (.istore_n 3, 1) := by decide +kernel
theorem dX12_goerFor_20 : decode cX12_goerFor 20 = .ok (.aload_n 0, 1) := by decide +kernel
theorem dX12_goerFor_21 : decode cX12_goerFor 21 = .ok (.getfield 47, 3) := by decide +kernel
theorem dX12_goerFor_24 : decode cX12_goerFor 24 = .ok (.sipush 128, 3) := by decide +kernel
theorem dX12_goerFor_27 : decode cX12_goerFor 27 = .ok (.iload 4, 2) := by decide +kernel
theorem dX12_goerFor_29 : decode cX12_goerFor 29 = .ok (.imul, 1) := by decide +kernel
theorem dX12_goerFor_30 : decode cX12_goerFor 30 = .ok (.iload_n 2, 1) := by decide +kernel
theorem dX12_goerFor_31 : decode cX12_goerFor 31 = .ok (.iadd, 1) := by decide +kernel
theorem dX12_goerFor_32 : decode cX12_goerFor 32 = .ok (.iaload, 1) := by decide +kernel
theorem dX12_goerFor_33 : decode cX12_goerFor 33 = .ok (.istore 5, 2) := by decide +kernel
theorem dX12_goerFor_35 : decode cX12_goerFor 35 = .ok (.aload_n 0, 1) := by decide +kernel
theorem dX12_goerFor_36 : decode cX12_goerFor 36 = .ok (.getfield 72, 3) := by decide +kernel
theorem dX12_goerFor_39 : decode cX12_goerFor 39 = .ok (.iconst 1, 1) := by decide +kernel
theorem dX12_goerFor_40 : decode cX12_goerFor 40 = .ok (.isub, 1) := by decide +kernel
theorem dX12_goerFor_41 : decode cX12_goerFor 41 = .ok (.istore 6, 2) := by decide +kernel
theorem dX12_goerFor_43 : decode cX12_goerFor 43 = .ok (.iload 6, 2) := by decide +kernel
theorem dX12_goerFor_45 : decode cX12_goerFor 45 = .ok (.ifCond .lt 68, 3) := by decide +kernel
theorem dX12_goerFor_48 : decode cX12_goerFor 48 = .ok (.aload_n 0, 1) := by decide +kernel
theorem dX12_goerFor_49 : decode cX12_goerFor 49 = .ok (.getfield 19, 3) := by decide +kernel
theorem dX12_goerFor_52 : decode cX12_goerFor 52 = .ok (.bipush 12, 2) := by decide +kernel
theorem dX12_goerFor_54 : decode cX12_goerFor 54 = .ok (.iload 4, 2) := by decide +kernel
theorem dX12_goerFor_56 : decode cX12_goerFor 56 = .ok (.iadd, 1) := by decide +kernel
theorem dX12_goerFor_57 : decode cX12_goerFor 57 = .ok (.iaload, 1) := by decide +kernel
theorem dX12_goerFor_58 : decode cX12_goerFor 58 = .ok (.ifCond .le 55, 3) := by decide +kernel
theorem dX12_goerFor_61 : decode cX12_goerFor 61 = .ok (.iload_n 2, 1) := by decide +kernel
theorem dX12_goerFor_62 : decode cX12_goerFor 62 = .ok (.iload 6, 2) := by decide +kernel
theorem dX12_goerFor_64 : decode cX12_goerFor 64 = .ok (.invokestatic 174, 3) := by decide +kernel
theorem dX12_goerFor_67 : decode cX12_goerFor 67 = .ok (.ifCond .ne 40, 3) := by decide +kernel
theorem dX12_goerFor_70 : decode cX12_goerFor 70 = .ok (.aload_n 0, 1) := by decide +kernel
theorem dX12_goerFor_71 : decode cX12_goerFor 71 = .ok (.iload 4, 2) := by decide +kernel
theorem dX12_goerFor_73 : decode cX12_goerFor 73 = .ok (.iload 6, 2) := by decide +kernel
theorem dX12_goerFor_75 : decode cX12_goerFor 75 = .ok (.invokevirtual 276, 3) := by decide +kernel
theorem dX12_goerFor_78 : decode cX12_goerFor 78 = .ok (.aload_n 0, 1) := by decide +kernel
theorem dX12_goerFor_79 : decode cX12_goerFor 79 = .ok (.getfield 47, 3) := by decide +kernel
theorem dX12_goerFor_82 : decode cX12_goerFor 82 = .ok (.sipush 128, 3) := by decide +kernel
theorem dX12_goerFor_85 : decode cX12_goerFor 85 = .ok (.iload 4, 2) := by decide +kernel
theorem dX12_goerFor_87 : decode cX12_goerFor 87 = .ok (.iconst 1, 1) := by decide +kernel
theorem dX12_goerFor_88 : decode cX12_goerFor 88 = .ok (.iadd, 1) := by decide +kernel
theorem dX12_goerFor_89 : decode cX12_goerFor 89 = .ok (.imul, 1) := by decide +kernel
theorem dX12_goerFor_90 : decode cX12_goerFor 90 = .ok (.iload_n 2, 1) := by decide +kernel
theorem dX12_goerFor_91 : decode cX12_goerFor 91 = .ok (.iconst 1, 1) := by decide +kernel
theorem dX12_goerFor_92 : decode cX12_goerFor 92 = .ok (.iload 6, 2) := by decide +kernel
theorem dX12_goerFor_94 : decode cX12_goerFor 94 = .ok (.ishl, 1) := by decide +kernel
theorem dX12_goerFor_95 : decode cX12_goerFor 95 = .ok (.ior, 1) := by decide +kernel
theorem dX12_goerFor_96 : decode cX12_goerFor 96 = .ok (.iadd, 1) := by decide +kernel
theorem dX12_goerFor_97 : decode cX12_goerFor 97 = .ok (.iaload, 1) := by decide +kernel
theorem dX12_goerFor_98 : decode cX12_goerFor 98 = .ok (.iadd, 1) := by decide +kernel
theorem dX12_goerFor_99 : decode cX12_goerFor 99 = .ok (.iload 5, 2) := by decide +kernel
theorem dX12_goerFor_101 : decode cX12_goerFor 101 = .ok (.if_icmp .ne 6, 3) := by decide +kernel
theorem dX12_goerFor_104 : decode cX12_goerFor 104 = .ok (.iload 6, 2) := by decide +kernel
theorem dX12_goerFor_106 : decode cX12_goerFor 106 = .ok (.istore_n 3, 1) := by decide +kernel
theorem dX12_goerFor_107 : decode cX12_goerFor 107 = .ok (.iinc 6 (-1), 3) := by decide +kernel
theorem dX12_goerFor_110 : decode cX12_goerFor 110 = .ok (.goto (-67), 3) := by decide +kernel
theorem dX12_goerFor_113 : decode cX12_goerFor 113 = .ok (.iload_n 2, 1) := by decide +kernel
theorem dX12_goerFor_114 : decode cX12_goerFor 114 = .ok (.iload_n 3, 1) := by decide +kernel
theorem dX12_goerFor_115 : decode cX12_goerFor 115 = .ok (.iconst (-1), 1) := by decide +kernel
theorem dX12_goerFor_116 : decode cX12_goerFor 116 = .ok (.if_icmp .ne 7, 3) := by decide +kernel
theorem dX12_goerFor_119 : decode cX12_goerFor 119 = .ok (.iconst 0, 1) := by decide +kernel
theorem dX12_goerFor_120 : decode cX12_goerFor 120 = .ok (.goto 6, 3) := by decide +kernel
theorem dX12_goerFor_123 : decode cX12_goerFor 123 = .ok (.iconst 1, 1) := by decide +kernel
theorem dX12_goerFor_124 : decode cX12_goerFor 124 = .ok (.iload_n 3, 1) := by decide +kernel
theorem dX12_goerFor_125 : decode cX12_goerFor 125 = .ok (.ishl, 1) := by decide +kernel
theorem dX12_goerFor_126 : decode cX12_goerFor 126 = .ok (.ior, 1) := by decide +kernel
theorem dX12_goerFor_127 : decode cX12_goerFor 127 = .ok (.istore_n 2, 1) := by decide +kernel
theorem dX12_goerFor_128 : decode cX12_goerFor 128 = .ok (.iinc 4 1, 3) := by decide +kernel
theorem dX12_goerFor_131 : decode cX12_goerFor 131 = .ok (.goto (-119), 3) := by decide +kernel
theorem dX12_goerFor_134 : decode cX12_goerFor 134 = .ok (.iload_n 3, 1) := by decide +kernel
theorem dX12_goerFor_135 : decode cX12_goerFor 135 = .ok (.ireturn, 1) := by decide +kernel
theorem dX12_match_0 : decode cX12_match 0 = .ok (.iload_n 1, 1) := by decide +kernel
theorem dX12_match_1 : decode cX12_match 1 = .ok (.iconst (-1), 1) := by decide +kernel
theorem dX12_match_2 : decode cX12_match 2 = .ok (.if_icmp .eq 14, 3) := by decide +kernel
theorem dX12_match_5 : decode cX12_match 5 = .ok (.aload_n 0, 1) := by decide +kernel
theorem dX12_match_6 : decode cX12_match 6 = .ok (.iload_n 1, 1) := by decide +kernel
theorem dX12_match_7 : decode cX12_match 7 = .ok (.invokevirtual 215, 3) := by decide +kernel
theorem dX12_match_10 : decode cX12_match 10 = .ok (.ifCond .ne 6, 3) := by decide +kernel
theorem dX12_match_13 : decode cX12_match 13 = .ok (.ldc 219, 2) := by decide +kernel
theorem dX12_match_15 : decode cX12_match 15 = .ok (.ireturn, 1) := by decide +kernel
theorem dX12_match_16 : decode cX12_match 16 = .ok (.aload_n 0, 1) := by decide +kernel
theorem dX12_match_17 : decode cX12_match 17 = .ok (.invokevirtual 279, 3) := by decide +kernel
theorem dX12_match_20 : decode cX12_match 20 = .ok (.iload_n 1, 1) := by decide +kernel
theorem dX12_match_21 : decode cX12_match 21 = .ok (.iconst (-1), 1) := by decide +kernel
theorem dX12_match_22 : decode cX12_match 22 = .ok (.if_icmp .ne 17, 3) := by decide +kernel
theorem dX12_match_25 : decode cX12_match 25 = .ok (.aload_n 0, 1) := by decide +kernel
theorem dX12_match_26 : decode cX12_match 26 = .ok (.getfield 47, 3) := by decide +kernel
theorem dX12_match_29 : decode cX12_match 29 = .ok (.aload_n 0, 1) := by decide +kernel
theorem dX12_match_30 : decode cX12_match 30 = .ok (.getfield 19, 3) := by decide +kernel
theorem dX12_match_33 : decode cX12_match 33 = .ok (.iconst 3, 1) := by decide +kernel
theorem dX12_match_34 : decode cX12_match 34 = .ok (.iaload, 1) := by decide +kernel
theorem dX12_match_35 : decode cX12_match 35 = .ok (.iaload, 1) := by decide +kernel
theorem dX12_match_36 : decode cX12_match 36 = .ok (.goto 8, 3) := by decide +kernel
theorem dX12_match_39 : decode cX12_match 39 = .ok (.aload_n 0, 1) := by decide +kernel
theorem dX12_match_40 : decode cX12_match 40 = .ok (.iload_n 1, 1) := by decide +kernel
theorem dX12_match_41 : decode cX12_match 41 = .ok (.invokevirtual 282, 3) := by decide +kernel
theorem dX12_match_44 : decode cX12_match 44 = .ok (.ireturn, 1) := by decide +kernel
theorem dX12_levelOf_0 : decode cX12_levelOf 0 = .ok (.iconst 0, 1) := by decide +kernel
theorem dX12_levelOf_1 : decode cX12_levelOf 1 = .ok (.istore_n 2, 1) := by decide +kernel
theorem dX12_levelOf_2 : decode cX12_levelOf 2 = .ok (.iconst 0, 1) := by decide +kernel
theorem dX12_levelOf_3 : decode cX12_levelOf 3 = .ok (.istore_n 3, 1) := by decide +kernel
theorem dX12_levelOf_4 : decode cX12_levelOf 4 = .ok (.iload_n 3, 1) := by decide +kernel
theorem dX12_levelOf_5 : decode cX12_levelOf 5 = .ok (.iload_n 1, 1) := by decide +kernel
theorem dX12_levelOf_6 : decode cX12_levelOf 6 = .ok (.if_icmp .ge 22, 3) := by decide +kernel
theorem dX12_levelOf_9 : decode cX12_levelOf 9 = .ok (.iload_n 2, 1) := by decide +kernel
theorem dX12_levelOf_10 : decode cX12_levelOf 10 = .ok (.bipush 100, 2) := by decide +kernel
theorem dX12_levelOf_12 : decode cX12_levelOf 12 = .ok (.if_icmp .ge 16, 3) := by decide +kernel
theorem dX12_levelOf_15 : decode cX12_levelOf 15 = .ok (.iinc 2 1, 3) := by decide +kernel
theorem dX12_levelOf_18 : decode cX12_levelOf 18 = .ok (.aload_n 0, 1) := by decide +kernel
theorem dX12_levelOf_19 : decode cX12_levelOf 19 = .ok (.iload_n 2, 1) := by decide +kernel
theorem dX12_levelOf_20 : decode cX12_levelOf 20 = .ok (.iconst (-1), 1) := by decide +kernel
theorem dX12_levelOf_21 : decode cX12_levelOf 21 = .ok (.invokevirtual 285, 3) := by decide +kernel
theorem dX12_levelOf_24 : decode cX12_levelOf 24 = .ok (.istore_n 3, 1) := by decide +kernel
theorem dX12_levelOf_25 : decode cX12_levelOf 25 = .ok (.goto (-21), 3) := by decide +kernel
theorem dX12_levelOf_28 : decode cX12_levelOf 28 = .ok (.iload_n 3, 1) := by decide +kernel
theorem dX12_levelOf_29 : decode cX12_levelOf 29 = .ok (.iload_n 1, 1) := by decide +kernel
theorem dX12_levelOf_30 : decode cX12_levelOf 30 = .ok (.if_icmp .ge 7, 3) := by decide +kernel
theorem dX12_levelOf_33 : decode cX12_levelOf 33 = .ok (.iconst (-1), 1) := by decide +kernel
theorem dX12_levelOf_34 : decode cX12_levelOf 34 = .ok (.goto 4, 3) := by decide +kernel
theorem dX12_levelOf_37 : decode cX12_levelOf 37 = .ok (.iload_n 2, 1) := by decide +kernel
theorem dX12_levelOf_38 : decode cX12_levelOf 38 = .ok (.ireturn, 1) := by decide +kernel
theorem dX12_sumAt_0 : decode cX12_sumAt 0 = .ok (.iconst 0, 1) := by decide +kernel
theorem dX12_sumAt_1 : decode cX12_sumAt 1 = .ok (.istore_n 3, 1) := by decide +kernel
theorem dX12_sumAt_2 : decode cX12_sumAt 2 = .ok (.iload_n 2, 1) := by decide +kernel
theorem dX12_sumAt_3 : decode cX12_sumAt 3 = .ok (.iconst 1, 1) := by decide +kernel
theorem dX12_sumAt_4 : decode cX12_sumAt 4 = .ok (.iadd, 1) := by decide +kernel
theorem dX12_sumAt_5 : decode cX12_sumAt 5 = .ok (.istore 4, 2) := by decide +kernel
theorem dX12_sumAt_7 : decode cX12_sumAt 7 = .ok (.iload 4, 2) := by decide +kernel
theorem dX12_sumAt_9 : decode cX12_sumAt 9 = .ok (.aload_n 0, 1) := by decide +kernel
theorem dX12_sumAt_10 : decode cX12_sumAt 10 = .ok (.getfield 79, 3) := by decide +kernel
theorem dX12_sumAt_13 : decode cX12_sumAt 13 = .ok (.if_icmp .ge 40, 3) := by decide +kernel
theorem dX12_sumAt_16 : decode cX12_sumAt 16 = .ok (.iload_n 3, 1) := by decide +kernel
theorem dX12_sumAt_17 : decode cX12_sumAt 17 = .ok (.aload_n 0, 1) := by decide +kernel
theorem dX12_sumAt_18 : decode cX12_sumAt 18 = .ok (.getfield 19, 3) := by decide +kernel
theorem dX12_sumAt_21 : decode cX12_sumAt 21 = .ok (.bipush 26, 2) := by decide +kernel
theorem dX12_sumAt_23 : decode cX12_sumAt 23 = .ok (.iload 4, 2) := by decide +kernel
theorem dX12_sumAt_25 : decode cX12_sumAt 25 = .ok (.iadd, 1) := by decide +kernel
theorem dX12_sumAt_26 : decode cX12_sumAt 26 = .ok (.iaload, 1) := by decide +kernel
theorem dX12_sumAt_27 : decode cX12_sumAt 27 = .ok (.iload_n 1, 1) := by decide +kernel
theorem dX12_sumAt_28 : decode cX12_sumAt 28 = .ok (.if_icmp .ge 16, 3) := by decide +kernel
theorem dX12_sumAt_31 : decode cX12_sumAt 31 = .ok (.aload_n 0, 1) := by decide +kernel
theorem dX12_sumAt_32 : decode cX12_sumAt 32 = .ok (.getfield 19, 3) := by decide +kernel
theorem dX12_sumAt_35 : decode cX12_sumAt 35 = .ok (.bipush 26, 2) := by decide +kernel
theorem dX12_sumAt_37 : decode cX12_sumAt 37 = .ok (.iload 4, 2) := by decide +kernel
theorem dX12_sumAt_39 : decode cX12_sumAt 39 = .ok (.iadd, 1) := by decide +kernel
theorem dX12_sumAt_40 : decode cX12_sumAt 40 = .ok (.iaload, 1) := by decide +kernel
theorem dX12_sumAt_41 : decode cX12_sumAt 41 = .ok (.goto 4, 3) := by decide +kernel
theorem dX12_sumAt_44 : decode cX12_sumAt 44 = .ok (.iload_n 1, 1) := by decide +kernel
theorem dX12_sumAt_45 : decode cX12_sumAt 45 = .ok (.iadd, 1) := by decide +kernel
theorem dX12_sumAt_46 : decode cX12_sumAt 46 = .ok (.istore_n 3, 1) := by decide +kernel
theorem dX12_sumAt_47 : decode cX12_sumAt 47 = .ok (.iinc 4 1, 3) := by decide +kernel
theorem dX12_sumAt_50 : decode cX12_sumAt 50 = .ok (.goto (-43), 3) := by decide +kernel
theorem dX12_sumAt_53 : decode cX12_sumAt 53 = .ok (.iload_n 3, 1) := by decide +kernel
theorem dX12_sumAt_54 : decode cX12_sumAt 54 = .ok (.ireturn, 1) := by decide +kernel
theorem dX12_shares_0 : decode cX12_shares 0 = .ok (.aload_n 0, 1) := by decide +kernel
theorem dX12_shares_1 : decode cX12_shares 1 = .ok (.iload_n 2, 1) := by decide +kernel
theorem dX12_shares_2 : decode cX12_shares 2 = .ok (.invokevirtual 226, 3) := by decide +kernel
theorem dX12_shares_5 : decode cX12_shares 5 = .ok (.ifCond .ne 6, 3) := by decide +kernel
theorem dX12_shares_8 : decode cX12_shares 8 = .ok (.ldc 219, 2) := by decide +kernel
theorem dX12_shares_10 : decode cX12_shares 10 = .ok (.ireturn, 1) := by decide +kernel
theorem dX12_shares_11 : decode cX12_shares 11 = .ok (.iload_n 1, 1) := by decide +kernel
theorem dX12_shares_12 : decode cX12_shares 12 = .ok (.i2l, 1) := by decide +kernel
theorem dX12_shares_13 : decode cX12_shares 13 = .ok (.lconst 0, 1) := by decide +kernel
theorem dX12_shares_14 : decode cX12_shares 14 = .ok (.ldc2_w 288, 3) := by decide +kernel
theorem dX12_shares_17 : decode cX12_shares 17 = .ok (.invokestatic 75, 3) := by decide +kernel
theorem dX12_shares_20 : decode cX12_shares 20 = .ok (.ifCond .ne 6, 3) := by decide +kernel
theorem dX12_shares_23 : decode cX12_shares 23 = .ok (.ldc 84, 2) := by decide +kernel
theorem dX12_shares_25 : decode cX12_shares 25 = .ok (.ireturn, 1) := by decide +kernel
theorem dX12_shares_26 : decode cX12_shares 26 = .ok (.aload_n 0, 1) := by decide +kernel
theorem dX12_shares_27 : decode cX12_shares 27 = .ok (.iload_n 1, 1) := by decide +kernel
theorem dX12_shares_28 : decode cX12_shares 28 = .ok (.invokevirtual 290, 3) := by decide +kernel
theorem dX12_shares_31 : decode cX12_shares 31 = .ok (.istore_n 3, 1) := by decide +kernel
theorem dX12_shares_32 : decode cX12_shares 32 = .ok (.iload_n 3, 1) := by decide +kernel
theorem dX12_shares_33 : decode cX12_shares 33 = .ok (.iconst (-1), 1) := by decide +kernel
theorem dX12_shares_34 : decode cX12_shares 34 = .ok (.if_icmp .ne 5, 3) := by decide +kernel
theorem dX12_shares_37 : decode cX12_shares 37 = .ok (.iconst (-1), 1) := by decide +kernel
theorem dX12_shares_38 : decode cX12_shares 38 = .ok (.ireturn, 1) := by decide +kernel
theorem dX12_shares_39 : decode cX12_shares 39 = .ok (.iload_n 1, 1) := by decide +kernel
theorem dX12_shares_40 : decode cX12_shares 40 = .ok (.istore 4, 2) := by decide +kernel
theorem dX12_shares_42 : decode cX12_shares 42 = .ok (.iconst 0, 1) := by decide +kernel
theorem dX12_shares_43 : decode cX12_shares 43 = .ok (.istore 5, 2) := by decide +kernel
theorem dX12_shares_45 : decode cX12_shares 45 = .ok (.iconst 0, 1) := by decide +kernel
theorem dX12_shares_46 : decode cX12_shares 46 = .ok (.istore 6, 2) := by decide +kernel
theorem dX12_shares_48 : decode cX12_shares 48 = .ok (.iload 6, 2) := by decide +kernel
theorem dX12_shares_50 : decode cX12_shares 50 = .ok (.iload_n 2, 1) := by decide +kernel
theorem dX12_shares_51 : decode cX12_shares 51 = .ok (.if_icmp .gt 41, 3) := by decide +kernel
theorem dX12_shares_54 : decode cX12_shares 54 = .ok (.iload 4, 2) := by decide +kernel
theorem dX12_shares_56 : decode cX12_shares 56 = .ok (.aload_n 0, 1) := by decide +kernel
theorem dX12_shares_57 : decode cX12_shares 57 = .ok (.iload_n 3, 1) := by decide +kernel
theorem dX12_shares_58 : decode cX12_shares 58 = .ok (.iload 6, 2) := by decide +kernel
theorem dX12_shares_60 : decode cX12_shares 60 = .ok (.invokevirtual 285, 3) := by decide +kernel
theorem dX12_shares_63 : decode cX12_shares 63 = .ok (.isub, 1) := by decide +kernel
theorem dX12_shares_64 : decode cX12_shares 64 = .ok (.istore 5, 2) := by decide +kernel
theorem dX12_shares_66 : decode cX12_shares 66 = .ok (.iload 5, 2) := by decide +kernel
theorem dX12_shares_68 : decode cX12_shares 68 = .ok (.ifCond .ge 7, 3) := by decide +kernel
theorem dX12_shares_71 : decode cX12_shares 71 = .ok (.iconst 0, 1) := by decide +kernel
theorem dX12_shares_72 : decode cX12_shares 72 = .ok (.goto 5, 3) := by decide +kernel
theorem dX12_shares_75 : decode cX12_shares 75 = .ok (.iload 5, 2) := by decide +kernel
theorem dX12_shares_77 : decode cX12_shares 77 = .ok (.istore 5, 2) := by decide +kernel
theorem dX12_shares_79 : decode cX12_shares 79 = .ok (.iload 4, 2) := by decide +kernel
theorem dX12_shares_81 : decode cX12_shares 81 = .ok (.iload 5, 2) := by decide +kernel
theorem dX12_shares_83 : decode cX12_shares 83 = .ok (.isub, 1) := by decide +kernel
theorem dX12_shares_84 : decode cX12_shares 84 = .ok (.istore 4, 2) := by decide +kernel
theorem dX12_shares_86 : decode cX12_shares 86 = .ok (.iinc 6 1, 3) := by decide +kernel
theorem dX12_shares_89 : decode cX12_shares 89 = .ok (.goto (-41), 3) := by decide +kernel
theorem dX12_shares_92 : decode cX12_shares 92 = .ok (.iload 5, 2) := by decide +kernel
theorem dX12_shares_94 : decode cX12_shares 94 = .ok (.ireturn, 1) := by decide +kernel
theorem dX12_dry_0 : decode cX12_dry 0 = .ok (.iload_n 1, 1) := by decide +kernel
theorem dX12_dry_1 : decode cX12_dry 1 = .ok (.i2l, 1) := by decide +kernel
theorem dX12_dry_2 : decode cX12_dry 2 = .ok (.lconst 0, 1) := by decide +kernel
theorem dX12_dry_3 : decode cX12_dry 3 = .ok (.ldc2_w 251, 3) := by decide +kernel
theorem dX12_dry_6 : decode cX12_dry 6 = .ok (.invokestatic 75, 3) := by decide +kernel
theorem dX12_dry_9 : decode cX12_dry 9 = .ok (.ifCond .eq 15, 3) := by decide +kernel
theorem dX12_dry_12 : decode cX12_dry 12 = .ok (.iload_n 2, 1) := by decide +kernel
theorem dX12_dry_13 : decode cX12_dry 13 = .ok (.i2l, 1) := by decide +kernel
theorem dX12_dry_14 : decode cX12_dry 14 = .ok (.lconst 0, 1) := by decide +kernel
theorem dX12_dry_15 : decode cX12_dry 15 = .ok (.ldc2_w 293, 3) := by decide +kernel
theorem dX12_dry_18 : decode cX12_dry 18 = .ok (.invokestatic 75, 3) := by decide +kernel
theorem dX12_dry_21 : decode cX12_dry 21 = .ok (.ifCond .ne 6, 3) := by decide +kernel
theorem dX12_dry_24 : decode cX12_dry 24 = .ok (.ldc 84, 2) := by decide +kernel
theorem dX12_dry_26 : decode cX12_dry 26 = .ok (.ireturn, 1) := by decide +kernel
theorem dX12_dry_27 : decode cX12_dry 27 = .ok (.ldc2_w 295, 3) := by decide +kernel
theorem dX12_dry_30 : decode cX12_dry 30 = .ok (.lstore_n 3, 1) := by decide +kernel
theorem dX12_dry_31 : decode cX12_dry 31 = .ok (.iconst 0, 1) := by decide +kernel
theorem dX12_dry_32 : decode cX12_dry 32 = .ok (.istore 5, 2) := by decide +kernel
theorem dX12_dry_34 : decode cX12_dry 34 = .ok (.iload 5, 2) := by decide +kernel
theorem dX12_dry_36 : decode cX12_dry 36 = .ok (.iload_n 1, 1) := by decide +kernel
theorem dX12_dry_37 : decode cX12_dry 37 = .ok (.if_icmp .ge 18, 3) := by decide +kernel
theorem dX12_dry_40 : decode cX12_dry 40 = .ok (.lload_n 3, 1) := by decide +kernel
theorem dX12_dry_41 : decode cX12_dry 41 = .ok (.iload_n 2, 1) := by decide +kernel
theorem dX12_dry_42 : decode cX12_dry 42 = .ok (.i2l, 1) := by decide +kernel
theorem dX12_dry_43 : decode cX12_dry 43 = .ok (.lmul, 1) := by decide +kernel
theorem dX12_dry_44 : decode cX12_dry 44 = .ok (.ldc2_w 293, 3) := by decide +kernel
theorem dX12_dry_47 : decode cX12_dry 47 = .ok (.ldiv, 1) := by decide +kernel
theorem dX12_dry_48 : decode cX12_dry 48 = .ok (.lstore_n 3, 1) := by decide +kernel
theorem dX12_dry_49 : decode cX12_dry 49 = .ok (.iinc 5 1, 3) := by decide +kernel
theorem dX12_dry_52 : decode cX12_dry 52 = .ok (.goto (-18), 3) := by decide +kernel
theorem dX12_dry_55 : decode cX12_dry 55 = .ok (.lload_n 3, 1) := by decide +kernel
theorem dX12_dry_56 : decode cX12_dry 56 = .ok (.l2i, 1) := by decide +kernel
theorem dX12_dry_57 : decode cX12_dry 57 = .ok (.ireturn, 1) := by decide +kernel
theorem dX12_returned_0 : decode cX12_returned 0 = .ok (.iload_n 1, 1) := by decide +kernel
theorem dX12_returned_1 : decode cX12_returned 1 = .ok (.i2l, 1) := by decide +kernel
theorem dX12_returned_2 : decode cX12_returned 2 = .ok (.lconst 0, 1) := by decide +kernel
theorem dX12_returned_3 : decode cX12_returned 3 = .ok (.ldc2_w 288, 3) := by decide +kernel
theorem dX12_returned_6 : decode cX12_returned 6 = .ok (.invokestatic 75, 3) := by decide +kernel
theorem dX12_returned_9 : decode cX12_returned 9 = .ok (.ifCond .ne 6, 3) := by decide +kernel
theorem dX12_returned_12 : decode cX12_returned 12 = .ok (.ldc 84, 2) := by decide +kernel
theorem dX12_returned_14 : decode cX12_returned 14 = .ok (.ireturn, 1) := by decide +kernel
theorem dX12_returned_15 : decode cX12_returned 15 = .ok (.aload_n 0, 1) := by decide +kernel
theorem dX12_returned_16 : decode cX12_returned 16 = .ok (.invokevirtual 253, 3) := by decide +kernel
theorem dX12_returned_19 : decode cX12_returned 19 = .ok (.ifCond .ne 6, 3) := by decide +kernel
theorem dX12_returned_22 : decode cX12_returned 22 = .ok (.ldc 246, 2) := by decide +kernel
theorem dX12_returned_24 : decode cX12_returned 24 = .ok (.ireturn, 1) := by decide +kernel
theorem dX12_returned_25 : decode cX12_returned 25 = .ok (.aload_n 0, 1) := by decide +kernel
theorem dX12_returned_26 : decode cX12_returned 26 = .ok (.getfield 144, 3) := by decide +kernel
theorem dX12_returned_29 : decode cX12_returned 29 = .ok (.bipush 6, 2) := by decide +kernel
theorem dX12_returned_31 : decode cX12_returned 31 = .ok (.if_icmp .ne 6, 3) := by decide +kernel
theorem dX12_returned_34 : decode cX12_returned 34 = .ok (.ldc 88, 2) := by decide +kernel
theorem dX12_returned_36 : decode cX12_returned 36 = .ok (.ireturn, 1) := by decide +kernel
theorem dX12_returned_37 : decode cX12_returned 37 = .ok (.aload_n 0, 1) := by decide +kernel
theorem dX12_returned_38 : decode cX12_returned 38 = .ok (.getfield 50, 3) := by decide +kernel
theorem dX12_returned_41 : decode cX12_returned 41 = .ok (.aload_n 0, 1) := by decide +kernel
theorem dX12_returned_42 : decode cX12_returned 42 = .ok (.getfield 144, 3) := by decide +kernel
theorem dX12_returned_45 : decode cX12_returned 45 = .ok (.iload_n 1, 1) := by decide +kernel
theorem dX12_returned_46 : decode cX12_returned 46 = .ok (.iastore, 1) := by decide +kernel
theorem dX12_returned_47 : decode cX12_returned 47 = .ok (.iconst 0, 1) := by decide +kernel
theorem dX12_returned_48 : decode cX12_returned 48 = .ok (.istore_n 2, 1) := by decide +kernel
theorem dX12_returned_49 : decode cX12_returned 49 = .ok (.iload_n 2, 1) := by decide +kernel
theorem dX12_returned_50 : decode cX12_returned 50 = .ok (.iconst 4, 1) := by decide +kernel
theorem dX12_returned_51 : decode cX12_returned 51 = .ok (.if_icmp .ge 31, 3) := by decide +kernel
theorem dX12_returned_54 : decode cX12_returned 54 = .ok (.aload_n 0, 1) := by decide +kernel
theorem dX12_returned_55 : decode cX12_returned 55 = .ok (.getfield 53, 3) := by decide +kernel
theorem dX12_returned_58 : decode cX12_returned 58 = .ok (.iconst 4, 1) := by decide +kernel
theorem dX12_returned_59 : decode cX12_returned 59 = .ok (.aload_n 0, 1) := by decide +kernel
theorem dX12_returned_60 : decode cX12_returned 60 = .ok (.getfield 144, 3) := by decide +kernel
theorem dX12_returned_63 : decode cX12_returned 63 = .ok (.imul, 1) := by decide +kernel
theorem dX12_returned_64 : decode cX12_returned 64 = .ok (.iload_n 2, 1) := by decide +kernel
theorem dX12_returned_65 : decode cX12_returned 65 = .ok (.iadd, 1) := by decide +kernel
theorem dX12_returned_66 : decode cX12_returned 66 = .ok (.aload_n 0, 1) := by decide +kernel
theorem dX12_returned_67 : decode cX12_returned 67 = .ok (.getfield 19, 3) := by decide +kernel
theorem dX12_returned_70 : decode cX12_returned 70 = .ok (.bipush 26, 2) := by decide +kernel
theorem dX12_returned_72 : decode cX12_returned 72 = .ok (.iload_n 2, 1) := by decide +kernel
theorem dX12_returned_73 : decode cX12_returned 73 = .ok (.iadd, 1) := by decide +kernel
theorem dX12_returned_74 : decode cX12_returned 74 = .ok (.iaload, 1) := by decide +kernel
theorem dX12_returned_75 : decode cX12_returned 75 = .ok (.iastore, 1) := by decide +kernel
theorem dX12_returned_76 : decode cX12_returned 76 = .ok (.iinc 2 1, 3) := by decide +kernel
theorem dX12_returned_79 : decode cX12_returned 79 = .ok (.goto (-30), 3) := by decide +kernel
theorem dX12_returned_82 : decode cX12_returned 82 = .ok (.aload_n 0, 1) := by decide +kernel
theorem dX12_returned_83 : decode cX12_returned 83 = .ok (.dup, 1) := by decide +kernel
theorem dX12_returned_84 : decode cX12_returned 84 = .ok (.getfield 144, 3) := by decide +kernel
theorem dX12_returned_87 : decode cX12_returned 87 = .ok (.iconst 1, 1) := by decide +kernel
theorem dX12_returned_88 : decode cX12_returned 88 = .ok (.iadd, 1) := by decide +kernel
theorem dX12_returned_89 : decode cX12_returned 89 = .ok (.putfield 144, 3) := by decide +kernel
theorem dX12_returned_92 : decode cX12_returned 92 = .ok (.aload_n 0, 1) := by decide +kernel
theorem dX12_returned_93 : decode cX12_returned 93 = .ok (.getfield 144, 3) := by decide +kernel
theorem dX12_returned_96 : decode cX12_returned 96 = .ok (.ireturn, 1) := by decide +kernel
theorem dX12_mayBe_0 : decode cX12_mayBe 0 = .ok (.aload_n 0, 1) := by decide +kernel
theorem dX12_mayBe_1 : decode cX12_mayBe 1 = .ok (.invokevirtual 253, 3) := by decide +kernel
theorem dX12_mayBe_4 : decode cX12_mayBe 4 = .ok (.istore_n 2, 1) := by decide +kernel
theorem dX12_mayBe_5 : decode cX12_mayBe 5 = .ok (.iconst 0, 1) := by decide +kernel
theorem dX12_mayBe_6 : decode cX12_mayBe 6 = .ok (.istore_n 3, 1) := by decide +kernel
theorem dX12_mayBe_7 : decode cX12_mayBe 7 = .ok (.iload_n 3, 1) := by decide +kernel
theorem dX12_mayBe_8 : decode cX12_mayBe 8 = .ok (.aload_n 0, 1) := by decide +kernel
theorem dX12_mayBe_9 : decode cX12_mayBe 9 = .ok (.getfield 144, 3) := by decide +kernel
theorem dX12_mayBe_12 : decode cX12_mayBe 12 = .ok (.if_icmp .ge 80, 3) := by decide +kernel
theorem dX12_mayBe_15 : decode cX12_mayBe 15 = .ok (.iload_n 2, 1) := by decide +kernel
theorem dX12_mayBe_16 : decode cX12_mayBe 16 = .ok (.ifCond .eq 76, 3) := by decide +kernel
theorem dX12_mayBe_19 : decode cX12_mayBe 19 = .ok (.iconst 0, 1) := by decide +kernel
theorem dX12_mayBe_20 : decode cX12_mayBe 20 = .ok (.istore 4, 2) := by decide +kernel
theorem dX12_mayBe_22 : decode cX12_mayBe 22 = .ok (.iconst 0, 1) := by decide +kernel
theorem dX12_mayBe_23 : decode cX12_mayBe 23 = .ok (.istore 5, 2) := by decide +kernel
theorem dX12_mayBe_25 : decode cX12_mayBe 25 = .ok (.iload 5, 2) := by decide +kernel
theorem dX12_mayBe_27 : decode cX12_mayBe 27 = .ok (.aload_n 0, 1) := by decide +kernel
theorem dX12_mayBe_28 : decode cX12_mayBe 28 = .ok (.getfield 79, 3) := by decide +kernel
theorem dX12_mayBe_31 : decode cX12_mayBe 31 = .ok (.if_icmp .ge 38, 3) := by decide +kernel
theorem dX12_mayBe_34 : decode cX12_mayBe 34 = .ok (.iload 4, 2) := by decide +kernel
theorem dX12_mayBe_36 : decode cX12_mayBe 36 = .ok (.iload_n 1, 1) := by decide +kernel
theorem dX12_mayBe_37 : decode cX12_mayBe 37 = .ok (.iload 5, 2) := by decide +kernel
theorem dX12_mayBe_39 : decode cX12_mayBe 39 = .ok (.invokestatic 174, 3) := by decide +kernel
theorem dX12_mayBe_42 : decode cX12_mayBe 42 = .ok (.ifCond .eq 17, 3) := by decide +kernel
theorem dX12_mayBe_45 : decode cX12_mayBe 45 = .ok (.aload_n 0, 1) := by decide +kernel
theorem dX12_mayBe_46 : decode cX12_mayBe 46 = .ok (.getfield 53, 3) := by decide +kernel
theorem dX12_mayBe_49 : decode cX12_mayBe 49 = .ok (.iconst 4, 1) := by decide +kernel
theorem dX12_mayBe_50 : decode cX12_mayBe 50 = .ok (.iload_n 3, 1) := by decide +kernel
theorem dX12_mayBe_51 : decode cX12_mayBe 51 = .ok (.imul, 1) := by decide +kernel
theorem dX12_mayBe_52 : decode cX12_mayBe 52 = .ok (.iload 5, 2) := by decide +kernel
theorem dX12_mayBe_54 : decode cX12_mayBe 54 = .ok (.iadd, 1) := by decide +kernel
theorem dX12_mayBe_55 : decode cX12_mayBe 55 = .ok (.iaload, 1) := by decide +kernel
theorem dX12_mayBe_56 : decode cX12_mayBe 56 = .ok (.goto 4, 3) := by decide +kernel
theorem dX12_mayBe_59 : decode cX12_mayBe 59 = .ok (.iconst 0, 1) := by decide +kernel
theorem dX12_mayBe_60 : decode cX12_mayBe 60 = .ok (.iadd, 1) := by decide +kernel
theorem dX12_mayBe_61 : decode cX12_mayBe 61 = .ok (.istore 4, 2) := by decide +kernel
theorem dX12_mayBe_63 : decode cX12_mayBe 63 = .ok (.iinc 5 1, 3) := by decide +kernel
theorem dX12_mayBe_66 : decode cX12_mayBe 66 = .ok (.goto (-41), 3) := by decide +kernel
theorem dX12_mayBe_69 : decode cX12_mayBe 69 = .ok (.iload 4, 2) := by decide +kernel
theorem dX12_mayBe_71 : decode cX12_mayBe 71 = .ok (.aload_n 0, 1) := by decide +kernel
theorem dX12_mayBe_72 : decode cX12_mayBe 72 = .ok (.getfield 50, 3) := by decide +kernel
theorem dX12_mayBe_75 : decode cX12_mayBe 75 = .ok (.iload_n 3, 1) := by decide +kernel
theorem dX12_mayBe_76 : decode cX12_mayBe 76 = .ok (.iaload, 1) := by decide +kernel
theorem dX12_mayBe_77 : decode cX12_mayBe 77 = .ok (.if_icmp .ne 7, 3) := by decide +kernel
theorem dX12_mayBe_80 : decode cX12_mayBe 80 = .ok (.iconst 1, 1) := by decide +kernel
theorem dX12_mayBe_81 : decode cX12_mayBe 81 = .ok (.goto 4, 3) := by decide +kernel
theorem dX12_mayBe_84 : decode cX12_mayBe 84 = .ok (.iconst 0, 1) := by decide +kernel
theorem dX12_mayBe_85 : decode cX12_mayBe 85 = .ok (.istore_n 2, 1) := by decide +kernel
theorem dX12_mayBe_86 : decode cX12_mayBe 86 = .ok (.iinc 3 1, 3) := by decide +kernel
theorem dX12_mayBe_89 : decode cX12_mayBe 89 = .ok (.goto (-82), 3) := by decide +kernel
theorem dX12_mayBe_92 : decode cX12_mayBe 92 = .ok (.iload_n 2, 1) := by decide +kernel
theorem dX12_mayBe_93 : decode cX12_mayBe 93 = .ok (.ireturn, 1) := by decide +kernel
theorem dX12_manyWent_0 : decode cX12_manyWent 0 = .ok (.iconst 0, 1) := by decide +kernel
theorem dX12_manyWent_1 : decode cX12_manyWent 1 = .ok (.istore_n 1, 1) := by decide +kernel
theorem dX12_manyWent_2 : decode cX12_manyWent 2 = .ok (.iconst 0, 1) := by decide +kernel
theorem dX12_manyWent_3 : decode cX12_manyWent 3 = .ok (.istore_n 2, 1) := by decide +kernel
theorem dX12_manyWent_4 : decode cX12_manyWent 4 = .ok (.iload_n 2, 1) := by decide +kernel
theorem dX12_manyWent_5 : decode cX12_manyWent 5 = .ok (.iconst 1, 1) := by decide +kernel
theorem dX12_manyWent_6 : decode cX12_manyWent 6 = .ok (.aload_n 0, 1) := by decide +kernel
theorem dX12_manyWent_7 : decode cX12_manyWent 7 = .ok (.getfield 79, 3) := by decide +kernel
theorem dX12_manyWent_10 : decode cX12_manyWent 10 = .ok (.ishl, 1) := by decide +kernel
theorem dX12_manyWent_11 : decode cX12_manyWent 11 = .ok (.if_icmp .ge 25, 3) := by decide +kernel
theorem dX12_manyWent_14 : decode cX12_manyWent 14 = .ok (.iload_n 1, 1) := by decide +kernel
theorem dX12_manyWent_15 : decode cX12_manyWent 15 = .ok (.aload_n 0, 1) := by decide +kernel
theorem dX12_manyWent_16 : decode cX12_manyWent 16 = .ok (.iload_n 2, 1) := by decide +kernel
theorem dX12_manyWent_17 : decode cX12_manyWent 17 = .ok (.invokevirtual 297, 3) := by decide +kernel
theorem dX12_manyWent_20 : decode cX12_manyWent 20 = .ok (.ifCond .eq 7, 3) := by decide +kernel
theorem dX12_manyWent_23 : decode cX12_manyWent 23 = .ok (.iconst 1, 1) := by decide +kernel
theorem dX12_manyWent_24 : decode cX12_manyWent 24 = .ok (.goto 4, 3) := by decide +kernel
theorem dX12_manyWent_27 : decode cX12_manyWent 27 = .ok (.iconst 0, 1) := by decide +kernel
theorem dX12_manyWent_28 : decode cX12_manyWent 28 = .ok (.iadd, 1) := by decide +kernel
theorem dX12_manyWent_29 : decode cX12_manyWent 29 = .ok (.istore_n 1, 1) := by decide +kernel
theorem dX12_manyWent_30 : decode cX12_manyWent 30 = .ok (.iinc 2 1, 3) := by decide +kernel
theorem dX12_manyWent_33 : decode cX12_manyWent 33 = .ok (.goto (-29), 3) := by decide +kernel
theorem dX12_manyWent_36 : decode cX12_manyWent 36 = .ok (.iload_n 1, 1) := by decide +kernel
theorem dX12_manyWent_37 : decode cX12_manyWent 37 = .ok (.ireturn, 1) := by decide +kernel
theorem dX12_inEach_0 : decode cX12_inEach 0 = .ok (.iconst 1, 1) := by decide +kernel
theorem dX12_inEach_1 : decode cX12_inEach 1 = .ok (.aload_n 0, 1) := by decide +kernel
theorem dX12_inEach_2 : decode cX12_inEach 2 = .ok (.getfield 79, 3) := by decide +kernel
theorem dX12_inEach_5 : decode cX12_inEach 5 = .ok (.ishl, 1) := by decide +kernel
theorem dX12_inEach_6 : decode cX12_inEach 6 = .ok (.iconst 1, 1) := by decide +kernel
theorem dX12_inEach_7 : decode cX12_inEach 7 = .ok (.isub, 1) := by decide +kernel
theorem dX12_inEach_8 : decode cX12_inEach 8 = .ok (.istore_n 1, 1) := by decide +kernel
theorem dX12_inEach_9 : decode cX12_inEach 9 = .ok (.iconst 0, 1) := by decide +kernel
theorem dX12_inEach_10 : decode cX12_inEach 10 = .ok (.istore_n 2, 1) := by decide +kernel
theorem dX12_inEach_11 : decode cX12_inEach 11 = .ok (.iload_n 2, 1) := by decide +kernel
theorem dX12_inEach_12 : decode cX12_inEach 12 = .ok (.iconst 1, 1) := by decide +kernel
theorem dX12_inEach_13 : decode cX12_inEach 13 = .ok (.aload_n 0, 1) := by decide +kernel
theorem dX12_inEach_14 : decode cX12_inEach 14 = .ok (.getfield 79, 3) := by decide +kernel
theorem dX12_inEach_17 : decode cX12_inEach 17 = .ok (.ishl, 1) := by decide +kernel
theorem dX12_inEach_18 : decode cX12_inEach 18 = .ok (.if_icmp .ge 25, 3) := by decide +kernel
theorem dX12_inEach_21 : decode cX12_inEach 21 = .ok (.iload_n 1, 1) := by decide +kernel
theorem dX12_inEach_22 : decode cX12_inEach 22 = .ok (.aload_n 0, 1) := by decide +kernel
theorem dX12_inEach_23 : decode cX12_inEach 23 = .ok (.iload_n 2, 1) := by decide +kernel
theorem dX12_inEach_24 : decode cX12_inEach 24 = .ok (.invokevirtual 297, 3) := by decide +kernel
theorem dX12_inEach_27 : decode cX12_inEach 27 = .ok (.ifCond .eq 7, 3) := by decide +kernel
theorem dX12_inEach_30 : decode cX12_inEach 30 = .ok (.iload_n 2, 1) := by decide +kernel
theorem dX12_inEach_31 : decode cX12_inEach 31 = .ok (.goto 4, 3) := by decide +kernel
theorem dX12_inEach_34 : decode cX12_inEach 34 = .ok (.iconst (-1), 1) := by decide +kernel
theorem dX12_inEach_35 : decode cX12_inEach 35 = .ok (.iand, 1) := by decide +kernel
theorem dX12_inEach_36 : decode cX12_inEach 36 = .ok (.istore_n 1, 1) := by decide +kernel
theorem dX12_inEach_37 : decode cX12_inEach 37 = .ok (.iinc 2 1, 3) := by decide +kernel
theorem dX12_inEach_40 : decode cX12_inEach 40 = .ok (.goto (-29), 3) := by decide +kernel
theorem dX12_inEach_43 : decode cX12_inEach 43 = .ok (.aload_n 0, 1) := by decide +kernel
theorem dX12_inEach_44 : decode cX12_inEach 44 = .ok (.invokevirtual 200, 3) := by decide +kernel
theorem dX12_inEach_47 : decode cX12_inEach 47 = .ok (.ifCond .ne 7, 3) := by decide +kernel
theorem dX12_inEach_50 : decode cX12_inEach 50 = .ok (.iconst (-1), 1) := by decide +kernel
theorem dX12_inEach_51 : decode cX12_inEach 51 = .ok (.goto 4, 3) := by decide +kernel
theorem dX12_inEach_54 : decode cX12_inEach 54 = .ok (.iload_n 1, 1) := by decide +kernel
theorem dX12_inEach_55 : decode cX12_inEach 55 = .ok (.ireturn, 1) := by decide +kernel
theorem dX12_askNext_0 : decode cX12_askNext 0 = .ok (.aload_n 0, 1) := by decide +kernel
theorem dX12_askNext_1 : decode cX12_askNext 1 = .ok (.invokevirtual 200, 3) := by decide +kernel
theorem dX12_askNext_4 : decode cX12_askNext 4 = .ok (.istore_n 1, 1) := by decide +kernel
theorem dX12_askNext_5 : decode cX12_askNext 5 = .ok (.iconst (-1), 1) := by decide +kernel
theorem dX12_askNext_6 : decode cX12_askNext 6 = .ok (.istore_n 2, 1) := by decide +kernel
theorem dX12_askNext_7 : decode cX12_askNext 7 = .ok (.iload_n 1, 1) := by decide +kernel
theorem dX12_askNext_8 : decode cX12_askNext 8 = .ok (.istore_n 3, 1) := by decide +kernel
theorem dX12_askNext_9 : decode cX12_askNext 9 = .ok (.iconst 0, 1) := by decide +kernel
theorem dX12_askNext_10 : decode cX12_askNext 10 = .ok (.istore 4, 2) := by decide +kernel
theorem dX12_askNext_12 : decode cX12_askNext 12 = .ok (.iload 4, 2) := by decide +kernel
theorem dX12_askNext_14 : decode cX12_askNext 14 = .ok (.aload_n 0, 1) := by decide +kernel
theorem dX12_askNext_15 : decode cX12_askNext 15 = .ok (.getfield 79, 3) := by decide +kernel
theorem dX12_askNext_18 : decode cX12_askNext 18 = .ok (.if_icmp .ge 107, 3) := by decide +kernel
theorem dX12_askNext_21 : decode cX12_askNext 21 = .ok (.iconst 0, 1) := by decide +kernel
theorem dX12_askNext_22 : decode cX12_askNext 22 = .ok (.istore 5, 2) := by decide +kernel
theorem dX12_askNext_24 : decode cX12_askNext 24 = .ok (.iconst 0, 1) := by decide +kernel
theorem dX12_askNext_25 : decode cX12_askNext 25 = .ok (.istore 6, 2) := by decide +kernel
theorem dX12_askNext_27 : decode cX12_askNext 27 = .ok (.iload 6, 2) := by decide +kernel
theorem dX12_askNext_29 : decode cX12_askNext 29 = .ok (.iconst 1, 1) := by decide +kernel
theorem dX12_askNext_30 : decode cX12_askNext 30 = .ok (.aload_n 0, 1) := by decide +kernel
theorem dX12_askNext_31 : decode cX12_askNext 31 = .ok (.getfield 79, 3) := by decide +kernel
theorem dX12_askNext_34 : decode cX12_askNext 34 = .ok (.ishl, 1) := by decide +kernel
theorem dX12_askNext_35 : decode cX12_askNext 35 = .ok (.if_icmp .ge 38, 3) := by decide +kernel
theorem dX12_askNext_38 : decode cX12_askNext 38 = .ok (.iload 5, 2) := by decide +kernel
theorem dX12_askNext_40 : decode cX12_askNext 40 = .ok (.iload 6, 2) := by decide +kernel
theorem dX12_askNext_42 : decode cX12_askNext 42 = .ok (.iload 4, 2) := by decide +kernel
theorem dX12_askNext_44 : decode cX12_askNext 44 = .ok (.invokestatic 174, 3) := by decide +kernel
theorem dX12_askNext_47 : decode cX12_askNext 47 = .ok (.ifCond .eq 16, 3) := by decide +kernel
theorem dX12_askNext_50 : decode cX12_askNext 50 = .ok (.aload_n 0, 1) := by decide +kernel
theorem dX12_askNext_51 : decode cX12_askNext 51 = .ok (.iload 6, 2) := by decide +kernel
theorem dX12_askNext_53 : decode cX12_askNext 53 = .ok (.invokevirtual 297, 3) := by decide +kernel
theorem dX12_askNext_56 : decode cX12_askNext 56 = .ok (.ifCond .eq 7, 3) := by decide +kernel
theorem dX12_askNext_59 : decode cX12_askNext 59 = .ok (.iconst 1, 1) := by decide +kernel
theorem dX12_askNext_60 : decode cX12_askNext 60 = .ok (.goto 4, 3) := by decide +kernel
theorem dX12_askNext_63 : decode cX12_askNext 63 = .ok (.iconst 0, 1) := by decide +kernel
theorem dX12_askNext_64 : decode cX12_askNext 64 = .ok (.iadd, 1) := by decide +kernel
theorem dX12_askNext_65 : decode cX12_askNext 65 = .ok (.istore 5, 2) := by decide +kernel
theorem dX12_askNext_67 : decode cX12_askNext 67 = .ok (.iinc 6 1, 3) := by decide +kernel
theorem dX12_askNext_70 : decode cX12_askNext 70 = .ok (.goto (-43), 3) := by decide +kernel
theorem dX12_askNext_73 : decode cX12_askNext 73 = .ok (.iload 5, 2) := by decide +kernel
theorem dX12_askNext_75 : decode cX12_askNext 75 = .ok (.iload_n 1, 1) := by decide +kernel
theorem dX12_askNext_76 : decode cX12_askNext 76 = .ok (.iload 5, 2) := by decide +kernel
theorem dX12_askNext_78 : decode cX12_askNext 78 = .ok (.isub, 1) := by decide +kernel
theorem dX12_askNext_79 : decode cX12_askNext 79 = .ok (.if_icmp .le 8, 3) := by decide +kernel
theorem dX12_askNext_82 : decode cX12_askNext 82 = .ok (.iload 5, 2) := by decide +kernel
theorem dX12_askNext_84 : decode cX12_askNext 84 = .ok (.goto 7, 3) := by decide +kernel
theorem dX12_askNext_87 : decode cX12_askNext 87 = .ok (.iload_n 1, 1) := by decide +kernel
theorem dX12_askNext_88 : decode cX12_askNext 88 = .ok (.iload 5, 2) := by decide +kernel
theorem dX12_askNext_90 : decode cX12_askNext 90 = .ok (.isub, 1) := by decide +kernel
theorem dX12_askNext_91 : decode cX12_askNext 91 = .ok (.istore 6, 2) := by decide +kernel
theorem dX12_askNext_93 : decode cX12_askNext 93 = .ok (.iload 6, 2) := by decide +kernel
theorem dX12_askNext_95 : decode cX12_askNext 95 = .ok (.iload_n 3, 1) := by decide +kernel
theorem dX12_askNext_96 : decode cX12_askNext 96 = .ok (.if_icmp .ge 8, 3) := by decide +kernel
theorem dX12_askNext_99 : decode cX12_askNext 99 = .ok (.iload 4, 2) := by decide +kernel
theorem dX12_askNext_101 : decode cX12_askNext 101 = .ok (.goto 4, 3) := by decide +kernel
theorem dX12_askNext_104 : decode cX12_askNext 104 = .ok (.iload_n 2, 1) := by decide +kernel
theorem dX12_askNext_105 : decode cX12_askNext 105 = .ok (.istore_n 2, 1) := by decide +kernel
theorem dX12_askNext_106 : decode cX12_askNext 106 = .ok (.iload 6, 2) := by decide +kernel
theorem dX12_askNext_108 : decode cX12_askNext 108 = .ok (.iload_n 3, 1) := by decide +kernel
theorem dX12_askNext_109 : decode cX12_askNext 109 = .ok (.if_icmp .ge 8, 3) := by decide +kernel
theorem dX12_askNext_112 : decode cX12_askNext 112 = .ok (.iload 6, 2) := by decide +kernel
theorem dX12_askNext_114 : decode cX12_askNext 114 = .ok (.goto 4, 3) := by decide +kernel
theorem dX12_askNext_117 : decode cX12_askNext 117 = .ok (.iload_n 3, 1) := by decide +kernel
theorem dX12_askNext_118 : decode cX12_askNext 118 = .ok (.istore_n 3, 1) := by decide +kernel
theorem dX12_askNext_119 : decode cX12_askNext 119 = .ok (.iinc 4 1, 3) := by decide +kernel
theorem dX12_askNext_122 : decode cX12_askNext 122 = .ok (.goto (-110), 3) := by decide +kernel
theorem dX12_askNext_125 : decode cX12_askNext 125 = .ok (.iload_n 2, 1) := by decide +kernel
theorem dX12_askNext_126 : decode cX12_askNext 126 = .ok (.ireturn, 1) := by decide +kernel
theorem dX12_write_0 : decode cX12_write 0 = .ok (.aload_n 0, 1) := by decide +kernel
theorem dX12_write_1 : decode cX12_write 1 = .ok (.iload_n 1, 1) := by decide +kernel
theorem dX12_write_2 : decode cX12_write 2 = .ok (.invokevirtual 215, 3) := by decide +kernel
theorem dX12_write_5 : decode cX12_write 5 = .ok (.ifCond .ne 6, 3) := by decide +kernel
theorem dX12_write_8 : decode cX12_write 8 = .ok (.ldc 219, 2) := by decide +kernel
theorem dX12_write_10 : decode cX12_write 10 = .ok (.ireturn, 1) := by decide +kernel
theorem dX12_write_11 : decode cX12_write 11 = .ok (.iload_n 2, 1) := by decide +kernel
theorem dX12_write_12 : decode cX12_write 12 = .ok (.i2l, 1) := by decide +kernel
theorem dX12_write_13 : decode cX12_write 13 = .ok (.lconst 0, 1) := by decide +kernel
theorem dX12_write_14 : decode cX12_write 14 = .ok (.ldc2_w 300, 3) := by decide +kernel
theorem dX12_write_17 : decode cX12_write 17 = .ok (.invokestatic 75, 3) := by decide +kernel
theorem dX12_write_20 : decode cX12_write 20 = .ok (.ifCond .ne 6, 3) := by decide +kernel
theorem dX12_write_23 : decode cX12_write 23 = .ok (.ldc 84, 2) := by decide +kernel
theorem dX12_write_25 : decode cX12_write 25 = .ok (.ireturn, 1) := by decide +kernel
theorem dX12_write_26 : decode cX12_write 26 = .ok (.aload_n 0, 1) := by decide +kernel
theorem dX12_write_27 : decode cX12_write 27 = .ok (.getfield 147, 3) := by decide +kernel
theorem dX12_write_30 : decode cX12_write 30 = .ok (.bipush 15, 2) := by decide +kernel
theorem dX12_write_32 : decode cX12_write 32 = .ok (.if_icmp .ne 6, 3) := by decide +kernel
theorem dX12_write_35 : decode cX12_write 35 = .ok (.ldc 88, 2) := by decide +kernel
theorem dX12_write_37 : decode cX12_write 37 = .ok (.ireturn, 1) := by decide +kernel
theorem dX12_write_38 : decode cX12_write 38 = .ok (.aload_n 0, 1) := by decide +kernel
theorem dX12_write_39 : decode cX12_write 39 = .ok (.getfield 56, 3) := by decide +kernel
theorem dX12_write_42 : decode cX12_write 42 = .ok (.aload_n 0, 1) := by decide +kernel
theorem dX12_write_43 : decode cX12_write 43 = .ok (.getfield 147, 3) := by decide +kernel
theorem dX12_write_46 : decode cX12_write 46 = .ok (.iload_n 1, 1) := by decide +kernel
theorem dX12_write_47 : decode cX12_write 47 = .ok (.iastore, 1) := by decide +kernel
theorem dX12_write_48 : decode cX12_write 48 = .ok (.aload_n 0, 1) := by decide +kernel
theorem dX12_write_49 : decode cX12_write 49 = .ok (.getfield 59, 3) := by decide +kernel
theorem dX12_write_52 : decode cX12_write 52 = .ok (.aload_n 0, 1) := by decide +kernel
theorem dX12_write_53 : decode cX12_write 53 = .ok (.getfield 147, 3) := by decide +kernel
theorem dX12_write_56 : decode cX12_write 56 = .ok (.iload_n 2, 1) := by decide +kernel
theorem dX12_write_57 : decode cX12_write 57 = .ok (.iastore, 1) := by decide +kernel
theorem dX12_write_58 : decode cX12_write 58 = .ok (.aload_n 0, 1) := by decide +kernel
theorem dX12_write_59 : decode cX12_write 59 = .ok (.dup, 1) := by decide +kernel
theorem dX12_write_60 : decode cX12_write 60 = .ok (.getfield 147, 3) := by decide +kernel
theorem dX12_write_63 : decode cX12_write 63 = .ok (.iconst 1, 1) := by decide +kernel
theorem dX12_write_64 : decode cX12_write 64 = .ok (.iadd, 1) := by decide +kernel
theorem dX12_write_65 : decode cX12_write 65 = .ok (.putfield 147, 3) := by decide +kernel
theorem dX12_write_68 : decode cX12_write 68 = .ok (.aload_n 0, 1) := by decide +kernel
theorem dX12_write_69 : decode cX12_write 69 = .ok (.getfield 147, 3) := by decide +kernel
theorem dX12_write_72 : decode cX12_write 72 = .ok (.ireturn, 1) := by decide +kernel
theorem dX12_tear_0 : decode cX12_tear 0 = .ok (.aload_n 0, 1) := by decide +kernel
theorem dX12_tear_1 : decode cX12_tear 1 = .ok (.getfield 144, 3) := by decide +kernel
theorem dX12_tear_4 : decode cX12_tear 4 = .ok (.aload_n 0, 1) := by decide +kernel
theorem dX12_tear_5 : decode cX12_tear 5 = .ok (.getfield 147, 3) := by decide +kernel
theorem dX12_tear_8 : decode cX12_tear 8 = .ok (.iadd, 1) := by decide +kernel
theorem dX12_tear_9 : decode cX12_tear 9 = .ok (.istore_n 1, 1) := by decide +kernel
theorem dX12_tear_10 : decode cX12_tear 10 = .ok (.aload_n 0, 1) := by decide +kernel
theorem dX12_tear_11 : decode cX12_tear 11 = .ok (.iconst 0, 1) := by decide +kernel
theorem dX12_tear_12 : decode cX12_tear 12 = .ok (.putfield 144, 3) := by decide +kernel
theorem dX12_tear_15 : decode cX12_tear 15 = .ok (.aload_n 0, 1) := by decide +kernel
theorem dX12_tear_16 : decode cX12_tear 16 = .ok (.iconst 0, 1) := by decide +kernel
theorem dX12_tear_17 : decode cX12_tear 17 = .ok (.putfield 147, 3) := by decide +kernel
theorem dX12_tear_20 : decode cX12_tear 20 = .ok (.iload_n 1, 1) := by decide +kernel
theorem dX12_tear_21 : decode cX12_tear 21 = .ok (.ireturn, 1) := by decide +kernel
theorem dX12_judge_0 : decode cX12_judge 0 = .ok (.iconst 0, 1) := by decide +kernel
theorem dX12_judge_1 : decode cX12_judge 1 = .ok (.istore_n 1, 1) := by decide +kernel
theorem dX12_judge_2 : decode cX12_judge 2 = .ok (.iload_n 1, 1) := by decide +kernel
theorem dX12_judge_3 : decode cX12_judge 3 = .ok (.aload_n 0, 1) := by decide +kernel
theorem dX12_judge_4 : decode cX12_judge 4 = .ok (.getfield 147, 3) := by decide +kernel
theorem dX12_judge_7 : decode cX12_judge 7 = .ok (.if_icmp .ge 34, 3) := by decide +kernel
theorem dX12_judge_10 : decode cX12_judge 10 = .ok (.aload_n 0, 1) := by decide +kernel
theorem dX12_judge_11 : decode cX12_judge 11 = .ok (.getfield 19, 3) := by decide +kernel
theorem dX12_judge_14 : decode cX12_judge 14 = .ok (.bipush 19, 2) := by decide +kernel
theorem dX12_judge_16 : decode cX12_judge 16 = .ok (.aload_n 0, 1) := by decide +kernel
theorem dX12_judge_17 : decode cX12_judge 17 = .ok (.getfield 56, 3) := by decide +kernel
theorem dX12_judge_20 : decode cX12_judge 20 = .ok (.iload_n 1, 1) := by decide +kernel
theorem dX12_judge_21 : decode cX12_judge 21 = .ok (.iaload, 1) := by decide +kernel
theorem dX12_judge_22 : decode cX12_judge 22 = .ok (.iadd, 1) := by decide +kernel
theorem dX12_judge_23 : decode cX12_judge 23 = .ok (.iaload, 1) := by decide +kernel
theorem dX12_judge_24 : decode cX12_judge 24 = .ok (.aload_n 0, 1) := by decide +kernel
theorem dX12_judge_25 : decode cX12_judge 25 = .ok (.getfield 59, 3) := by decide +kernel
theorem dX12_judge_28 : decode cX12_judge 28 = .ok (.iload_n 1, 1) := by decide +kernel
theorem dX12_judge_29 : decode cX12_judge 29 = .ok (.iaload, 1) := by decide +kernel
theorem dX12_judge_30 : decode cX12_judge 30 = .ok (.if_icmp .eq 5, 3) := by decide +kernel
theorem dX12_judge_33 : decode cX12_judge 33 = .ok (.iload_n 1, 1) := by decide +kernel
theorem dX12_judge_34 : decode cX12_judge 34 = .ok (.ireturn, 1) := by decide +kernel
theorem dX12_judge_35 : decode cX12_judge 35 = .ok (.iinc 1 1, 3) := by decide +kernel
theorem dX12_judge_38 : decode cX12_judge 38 = .ok (.goto (-36), 3) := by decide +kernel
theorem dX12_judge_41 : decode cX12_judge 41 = .ok (.iconst (-1), 1) := by decide +kernel
theorem dX12_judge_42 : decode cX12_judge 42 = .ok (.ireturn, 1) := by decide +kernel
theorem dX12_seed_0 : decode cX12_seed 0 = .ok (.iload_n 1, 1) := by decide +kernel
theorem dX12_seed_1 : decode cX12_seed 1 = .ok (.ifCond .ge 6, 3) := by decide +kernel
theorem dX12_seed_4 : decode cX12_seed 4 = .ok (.ldc 84, 2) := by decide +kernel
theorem dX12_seed_6 : decode cX12_seed 6 = .ok (.ireturn, 1) := by decide +kernel
theorem dX12_seed_7 : decode cX12_seed 7 = .ok (.aload_n 0, 1) := by decide +kernel
theorem dX12_seed_8 : decode cX12_seed 8 = .ok (.getfield 259, 3) := by decide +kernel
theorem dX12_seed_11 : decode cX12_seed 11 = .ok (.istore_n 2, 1) := by decide +kernel
theorem dX12_seed_12 : decode cX12_seed 12 = .ok (.aload_n 0, 1) := by decide +kernel
theorem dX12_seed_13 : decode cX12_seed 13 = .ok (.iload_n 1, 1) := by decide +kernel
theorem dX12_seed_14 : decode cX12_seed 14 = .ok (.putfield 259, 3) := by decide +kernel
theorem dX12_seed_17 : decode cX12_seed 17 = .ok (.iload_n 2, 1) := by decide +kernel
theorem dX12_seed_18 : decode cX12_seed 18 = .ok (.ireturn, 1) := by decide +kernel
theorem dX12_keep_0 : decode cX12_keep 0 = .ok (.iload_n 1, 1) := by decide +kernel
theorem dX12_keep_1 : decode cX12_keep 1 = .ok (.i2l, 1) := by decide +kernel
theorem dX12_keep_2 : decode cX12_keep 2 = .ok (.lconst 0, 1) := by decide +kernel
theorem dX12_keep_3 : decode cX12_keep 3 = .ok (.lconst 1, 1) := by decide +kernel
theorem dX12_keep_4 : decode cX12_keep 4 = .ok (.invokestatic 75, 3) := by decide +kernel
theorem dX12_keep_7 : decode cX12_keep 7 = .ok (.ifCond .ne 6, 3) := by decide +kernel
theorem dX12_keep_10 : decode cX12_keep 10 = .ok (.ldc 219, 2) := by decide +kernel
theorem dX12_keep_12 : decode cX12_keep 12 = .ok (.ireturn, 1) := by decide +kernel
theorem dX12_keep_13 : decode cX12_keep 13 = .ok (.iconst 0, 1) := by decide +kernel
theorem dX12_keep_14 : decode cX12_keep 14 = .ok (.istore_n 2, 1) := by decide +kernel
theorem dX12_keep_15 : decode cX12_keep 15 = .ok (.iload_n 2, 1) := by decide +kernel
theorem dX12_keep_16 : decode cX12_keep 16 = .ok (.bipush 30, 2) := by decide +kernel
theorem dX12_keep_18 : decode cX12_keep 18 = .ok (.if_icmp .ge 26, 3) := by decide +kernel
theorem dX12_keep_21 : decode cX12_keep 21 = .ok (.aload_n 0, 1) := by decide +kernel
theorem dX12_keep_22 : decode cX12_keep 22 = .ok (.getfield 62, 3) := by decide +kernel
theorem dX12_keep_25 : decode cX12_keep 25 = .ok (.bipush 31, 2) := by decide +kernel
theorem dX12_keep_27 : decode cX12_keep 27 = .ok (.iload_n 1, 1) := by decide +kernel
theorem dX12_keep_28 : decode cX12_keep 28 = .ok (.imul, 1) := by decide +kernel
theorem dX12_keep_29 : decode cX12_keep 29 = .ok (.iload_n 2, 1) := by decide +kernel
theorem dX12_keep_30 : decode cX12_keep 30 = .ok (.iadd, 1) := by decide +kernel
theorem dX12_keep_31 : decode cX12_keep 31 = .ok (.aload_n 0, 1) := by decide +kernel
theorem dX12_keep_32 : decode cX12_keep 32 = .ok (.getfield 19, 3) := by decide +kernel
theorem dX12_keep_35 : decode cX12_keep 35 = .ok (.iload_n 2, 1) := by decide +kernel
theorem dX12_keep_36 : decode cX12_keep 36 = .ok (.iaload, 1) := by decide +kernel
theorem dX12_keep_37 : decode cX12_keep 37 = .ok (.iastore, 1) := by decide +kernel
theorem dX12_keep_38 : decode cX12_keep 38 = .ok (.iinc 2 1, 3) := by decide +kernel
theorem dX12_keep_41 : decode cX12_keep 41 = .ok (.goto (-26), 3) := by decide +kernel
theorem dX12_keep_44 : decode cX12_keep 44 = .ok (.aload_n 0, 1) := by decide +kernel
theorem dX12_keep_45 : decode cX12_keep 45 = .ok (.getfield 62, 3) := by decide +kernel
theorem dX12_keep_48 : decode cX12_keep 48 = .ok (.bipush 31, 2) := by decide +kernel
theorem dX12_keep_50 : decode cX12_keep 50 = .ok (.iload_n 1, 1) := by decide +kernel
theorem dX12_keep_51 : decode cX12_keep 51 = .ok (.imul, 1) := by decide +kernel
theorem dX12_keep_52 : decode cX12_keep 52 = .ok (.bipush 30, 2) := by decide +kernel
theorem dX12_keep_54 : decode cX12_keep 54 = .ok (.iadd, 1) := by decide +kernel
theorem dX12_keep_55 : decode cX12_keep 55 = .ok (.aload_n 0, 1) := by decide +kernel
theorem dX12_keep_56 : decode cX12_keep 56 = .ok (.getfield 259, 3) := by decide +kernel
theorem dX12_keep_59 : decode cX12_keep 59 = .ok (.iastore, 1) := by decide +kernel
theorem dX12_keep_60 : decode cX12_keep 60 = .ok (.aload_n 0, 1) := by decide +kernel
theorem dX12_keep_61 : decode cX12_keep 61 = .ok (.getfield 65, 3) := by decide +kernel
theorem dX12_keep_64 : decode cX12_keep 64 = .ok (.iload_n 1, 1) := by decide +kernel
theorem dX12_keep_65 : decode cX12_keep 65 = .ok (.iconst 1, 1) := by decide +kernel
theorem dX12_keep_66 : decode cX12_keep 66 = .ok (.bastore, 1) := by decide +kernel
theorem dX12_keep_67 : decode cX12_keep 67 = .ok (.aload_n 0, 1) := by decide +kernel
theorem dX12_keep_68 : decode cX12_keep 68 = .ok (.iconst 0, 1) := by decide +kernel
theorem dX12_keep_69 : decode cX12_keep 69 = .ok (.putfield 150, 3) := by decide +kernel
theorem dX12_keep_72 : decode cX12_keep 72 = .ok (.iconst 1, 1) := by decide +kernel
theorem dX12_keep_73 : decode cX12_keep 73 = .ok (.ireturn, 1) := by decide +kernel
theorem dX12_goBack_0 : decode cX12_goBack 0 = .ok (.iload_n 1, 1) := by decide +kernel
theorem dX12_goBack_1 : decode cX12_goBack 1 = .ok (.i2l, 1) := by decide +kernel
theorem dX12_goBack_2 : decode cX12_goBack 2 = .ok (.lconst 0, 1) := by decide +kernel
theorem dX12_goBack_3 : decode cX12_goBack 3 = .ok (.lconst 1, 1) := by decide +kernel
theorem dX12_goBack_4 : decode cX12_goBack 4 = .ok (.invokestatic 75, 3) := by decide +kernel
theorem dX12_goBack_7 : decode cX12_goBack 7 = .ok (.ifCond .ne 6, 3) := by decide +kernel
theorem dX12_goBack_10 : decode cX12_goBack 10 = .ok (.ldc 219, 2) := by decide +kernel
theorem dX12_goBack_12 : decode cX12_goBack 12 = .ok (.ireturn, 1) := by decide +kernel
theorem dX12_goBack_13 : decode cX12_goBack 13 = .ok (.aload_n 0, 1) := by decide +kernel
theorem dX12_goBack_14 : decode cX12_goBack 14 = .ok (.getfield 65, 3) := by decide +kernel
theorem dX12_goBack_17 : decode cX12_goBack 17 = .ok (.iload_n 1, 1) := by decide +kernel
theorem dX12_goBack_18 : decode cX12_goBack 18 = .ok (.baload, 1) := by decide +kernel
theorem dX12_goBack_19 : decode cX12_goBack 19 = .ok (.ifCond .ne 6, 3) := by decide +kernel
theorem dX12_goBack_22 : decode cX12_goBack 22 = .ok (.ldc 246, 2) := by decide +kernel
theorem dX12_goBack_24 : decode cX12_goBack 24 = .ok (.ireturn, 1) := by decide +kernel
theorem dX12_goBack_25 : decode cX12_goBack 25 = .ok (.iconst 0, 1) := by decide +kernel
theorem dX12_goBack_26 : decode cX12_goBack 26 = .ok (.istore_n 2, 1) := by decide +kernel
theorem dX12_goBack_27 : decode cX12_goBack 27 = .ok (.iload_n 2, 1) := by decide +kernel
theorem dX12_goBack_28 : decode cX12_goBack 28 = .ok (.bipush 30, 2) := by decide +kernel
theorem dX12_goBack_30 : decode cX12_goBack 30 = .ok (.if_icmp .ge 26, 3) := by decide +kernel
theorem dX12_goBack_33 : decode cX12_goBack 33 = .ok (.aload_n 0, 1) := by decide +kernel
theorem dX12_goBack_34 : decode cX12_goBack 34 = .ok (.getfield 19, 3) := by decide +kernel
theorem dX12_goBack_37 : decode cX12_goBack 37 = .ok (.iload_n 2, 1) := by decide +kernel
theorem dX12_goBack_38 : decode cX12_goBack 38 = .ok (.aload_n 0, 1) := by decide +kernel
theorem dX12_goBack_39 : decode cX12_goBack 39 = .ok (.getfield 62, 3) := by decide +kernel
theorem dX12_goBack_42 : decode cX12_goBack 42 = .ok (.bipush 31, 2) := by decide +kernel
theorem dX12_goBack_44 : decode cX12_goBack 44 = .ok (.iload_n 1, 1) := by decide +kernel
theorem dX12_goBack_45 : decode cX12_goBack 45 = .ok (.imul, 1) := by decide +kernel
theorem dX12_goBack_46 : decode cX12_goBack 46 = .ok (.iload_n 2, 1) := by decide +kernel
theorem dX12_goBack_47 : decode cX12_goBack 47 = .ok (.iadd, 1) := by decide +kernel
theorem dX12_goBack_48 : decode cX12_goBack 48 = .ok (.iaload, 1) := by decide +kernel
theorem dX12_goBack_49 : decode cX12_goBack 49 = .ok (.iastore, 1) := by decide +kernel
theorem dX12_goBack_50 : decode cX12_goBack 50 = .ok (.iinc 2 1, 3) := by decide +kernel
theorem dX12_goBack_53 : decode cX12_goBack 53 = .ok (.goto (-26), 3) := by decide +kernel
theorem dX12_goBack_56 : decode cX12_goBack 56 = .ok (.aload_n 0, 1) := by decide +kernel
theorem dX12_goBack_57 : decode cX12_goBack 57 = .ok (.aload_n 0, 1) := by decide +kernel
theorem dX12_goBack_58 : decode cX12_goBack 58 = .ok (.getfield 62, 3) := by decide +kernel
theorem dX12_goBack_61 : decode cX12_goBack 61 = .ok (.bipush 31, 2) := by decide +kernel
theorem dX12_goBack_63 : decode cX12_goBack 63 = .ok (.iload_n 1, 1) := by decide +kernel
theorem dX12_goBack_64 : decode cX12_goBack 64 = .ok (.imul, 1) := by decide +kernel
theorem dX12_goBack_65 : decode cX12_goBack 65 = .ok (.bipush 30, 2) := by decide +kernel
theorem dX12_goBack_67 : decode cX12_goBack 67 = .ok (.iadd, 1) := by decide +kernel
theorem dX12_goBack_68 : decode cX12_goBack 68 = .ok (.iaload, 1) := by decide +kernel
theorem dX12_goBack_69 : decode cX12_goBack 69 = .ok (.putfield 259, 3) := by decide +kernel
theorem dX12_goBack_72 : decode cX12_goBack 72 = .ok (.aload_n 0, 1) := by decide +kernel
theorem dX12_goBack_73 : decode cX12_goBack 73 = .ok (.iconst 0, 1) := by decide +kernel
theorem dX12_goBack_74 : decode cX12_goBack 74 = .ok (.putfield 150, 3) := by decide +kernel
theorem dX12_goBack_77 : decode cX12_goBack 77 = .ok (.iconst 1, 1) := by decide +kernel
theorem dX12_goBack_78 : decode cX12_goBack 78 = .ok (.ireturn, 1) := by decide +kernel
theorem dJ6_bitCount_0f7a4_0 : decode cJ6_bitCount_0f7a4 0 = .ok (.iload_n 0, 1) := by decide +kernel
theorem dJ6_bitCount_0f7a4_1 : decode cJ6_bitCount_0f7a4 1 = .ok (.iload_n 0, 1) := by decide +kernel
theorem dJ6_bitCount_0f7a4_2 : decode cJ6_bitCount_0f7a4 2 = .ok (.iconst 1, 1) := by decide +kernel
theorem dJ6_bitCount_0f7a4_3 : decode cJ6_bitCount_0f7a4 3 = .ok (.iushr, 1) := by decide +kernel
theorem dJ6_bitCount_0f7a4_4 : decode cJ6_bitCount_0f7a4 4 = .ok (.ldc_w 265, 3) := by decide +kernel
theorem dJ6_bitCount_0f7a4_7 : decode cJ6_bitCount_0f7a4 7 = .ok (.iand, 1) := by decide +kernel
theorem dJ6_bitCount_0f7a4_8 : decode cJ6_bitCount_0f7a4 8 = .ok (.isub, 1) := by decide +kernel
theorem dJ6_bitCount_0f7a4_9 : decode cJ6_bitCount_0f7a4 9 = .ok (.istore_n 0, 1) := by decide +kernel
theorem dJ6_bitCount_0f7a4_10 : decode cJ6_bitCount_0f7a4 10 = .ok (.iload_n 0, 1) := by decide +kernel
theorem dJ6_bitCount_0f7a4_11 : decode cJ6_bitCount_0f7a4 11 = .ok (.ldc_w 266, 3) := by decide +kernel
theorem dJ6_bitCount_0f7a4_14 : decode cJ6_bitCount_0f7a4 14 = .ok (.iand, 1) := by decide +kernel
theorem dJ6_bitCount_0f7a4_15 : decode cJ6_bitCount_0f7a4 15 = .ok (.iload_n 0, 1) := by decide +kernel
theorem dJ6_bitCount_0f7a4_16 : decode cJ6_bitCount_0f7a4 16 = .ok (.iconst 2, 1) := by decide +kernel
theorem dJ6_bitCount_0f7a4_17 : decode cJ6_bitCount_0f7a4 17 = .ok (.iushr, 1) := by decide +kernel
theorem dJ6_bitCount_0f7a4_18 : decode cJ6_bitCount_0f7a4 18 = .ok (.ldc_w 266, 3) := by decide +kernel
theorem dJ6_bitCount_0f7a4_21 : decode cJ6_bitCount_0f7a4 21 = .ok (.iand, 1) := by decide +kernel
theorem dJ6_bitCount_0f7a4_22 : decode cJ6_bitCount_0f7a4 22 = .ok (.iadd, 1) := by decide +kernel
theorem dJ6_bitCount_0f7a4_23 : decode cJ6_bitCount_0f7a4 23 = .ok (.istore_n 0, 1) := by decide +kernel
theorem dJ6_bitCount_0f7a4_24 : decode cJ6_bitCount_0f7a4 24 = .ok (.iload_n 0, 1) := by decide +kernel
theorem dJ6_bitCount_0f7a4_25 : decode cJ6_bitCount_0f7a4 25 = .ok (.iload_n 0, 1) := by decide +kernel
theorem dJ6_bitCount_0f7a4_26 : decode cJ6_bitCount_0f7a4 26 = .ok (.iconst 4, 1) := by decide +kernel
theorem dJ6_bitCount_0f7a4_27 : decode cJ6_bitCount_0f7a4 27 = .ok (.iushr, 1) := by decide +kernel
theorem dJ6_bitCount_0f7a4_28 : decode cJ6_bitCount_0f7a4 28 = .ok (.iadd, 1) := by decide +kernel
theorem dJ6_bitCount_0f7a4_29 : decode cJ6_bitCount_0f7a4 29 = .ok (.ldc_w 267, 3) := by decide +kernel
theorem dJ6_bitCount_0f7a4_32 : decode cJ6_bitCount_0f7a4 32 = .ok (.iand, 1) := by decide +kernel
theorem dJ6_bitCount_0f7a4_33 : decode cJ6_bitCount_0f7a4 33 = .ok (.istore_n 0, 1) := by decide +kernel
theorem dJ6_bitCount_0f7a4_34 : decode cJ6_bitCount_0f7a4 34 = .ok (.iload_n 0, 1) := by decide +kernel
theorem dJ6_bitCount_0f7a4_35 : decode cJ6_bitCount_0f7a4 35 = .ok (.iload_n 0, 1) := by decide +kernel
theorem dJ6_bitCount_0f7a4_36 : decode cJ6_bitCount_0f7a4 36 = .ok (.bipush 8, 2) := by decide +kernel
theorem dJ6_bitCount_0f7a4_38 : decode cJ6_bitCount_0f7a4 38 = .ok (.iushr, 1) := by decide +kernel
theorem dJ6_bitCount_0f7a4_39 : decode cJ6_bitCount_0f7a4 39 = .ok (.iadd, 1) := by decide +kernel
theorem dJ6_bitCount_0f7a4_40 : decode cJ6_bitCount_0f7a4 40 = .ok (.istore_n 0, 1) := by decide +kernel
theorem dJ6_bitCount_0f7a4_41 : decode cJ6_bitCount_0f7a4 41 = .ok (.iload_n 0, 1) := by decide +kernel
theorem dJ6_bitCount_0f7a4_42 : decode cJ6_bitCount_0f7a4 42 = .ok (.iload_n 0, 1) := by decide +kernel
theorem dJ6_bitCount_0f7a4_43 : decode cJ6_bitCount_0f7a4 43 = .ok (.bipush 16, 2) := by decide +kernel
theorem dJ6_bitCount_0f7a4_45 : decode cJ6_bitCount_0f7a4 45 = .ok (.iushr, 1) := by decide +kernel
theorem dJ6_bitCount_0f7a4_46 : decode cJ6_bitCount_0f7a4 46 = .ok (.iadd, 1) := by decide +kernel
theorem dJ6_bitCount_0f7a4_47 : decode cJ6_bitCount_0f7a4 47 = .ok (.istore_n 0, 1) := by decide +kernel
theorem dJ6_bitCount_0f7a4_48 : decode cJ6_bitCount_0f7a4 48 = .ok (.iload_n 0, 1) := by decide +kernel
theorem dJ6_bitCount_0f7a4_49 : decode cJ6_bitCount_0f7a4 49 = .ok (.bipush 63, 2) := by decide +kernel
theorem dJ6_bitCount_0f7a4_51 : decode cJ6_bitCount_0f7a4 51 = .ok (.iand, 1) := by decide +kernel
theorem dJ6_bitCount_0f7a4_52 : decode cJ6_bitCount_0f7a4 52 = .ok (.ireturn, 1) := by decide +kernel
theorem dJ9_max_7cf53_0 : decode cJ9_max_7cf53 0 = .ok (.iload_n 0, 1) := by decide +kernel
theorem dJ9_max_7cf53_1 : decode cJ9_max_7cf53 1 = .ok (.iload_n 1, 1) := by decide +kernel
theorem dJ9_max_7cf53_2 : decode cJ9_max_7cf53 2 = .ok (.if_icmp .lt 7, 3) := by decide +kernel
theorem dJ9_max_7cf53_5 : decode cJ9_max_7cf53 5 = .ok (.iload_n 0, 1) := by decide +kernel
theorem dJ9_max_7cf53_6 : decode cJ9_max_7cf53 6 = .ok (.goto 4, 3) := by decide +kernel
theorem dJ9_max_7cf53_9 : decode cJ9_max_7cf53 9 = .ok (.iload_n 1, 1) := by decide +kernel
theorem dJ9_max_7cf53_10 : decode cJ9_max_7cf53 10 = .ok (.ireturn, 1) := by decide +kernel
theorem dJ9_min_7cf53_0 : decode cJ9_min_7cf53 0 = .ok (.iload_n 0, 1) := by decide +kernel
theorem dJ9_min_7cf53_1 : decode cJ9_min_7cf53 1 = .ok (.iload_n 1, 1) := by decide +kernel
theorem dJ9_min_7cf53_2 : decode cJ9_min_7cf53 2 = .ok (.if_icmp .gt 7, 3) := by decide +kernel
theorem dJ9_min_7cf53_5 : decode cJ9_min_7cf53 5 = .ok (.iload_n 0, 1) := by decide +kernel
theorem dJ9_min_7cf53_6 : decode cJ9_min_7cf53 6 = .ok (.goto 4, 3) := by decide +kernel
theorem dJ9_min_7cf53_9 : decode cJ9_min_7cf53 9 = .ok (.iload_n 1, 1) := by decide +kernel
theorem dJ9_min_7cf53_10 : decode cJ9_min_7cf53 10 = .ok (.ireturn, 1) := by decide +kernel
theorem dJ7_fill_53178_0 : decode cJ7_fill_53178 0 = .ok (.iconst 0, 1) := by decide +kernel
theorem dJ7_fill_53178_1 : decode cJ7_fill_53178 1 = .ok (.istore_n 2, 1) := by decide +kernel
theorem dJ7_fill_53178_2 : decode cJ7_fill_53178 2 = .ok (.aload_n 0, 1) := by decide +kernel
theorem dJ7_fill_53178_3 : decode cJ7_fill_53178 3 = .ok (.arraylength, 1) := by decide +kernel
theorem dJ7_fill_53178_4 : decode cJ7_fill_53178 4 = .ok (.istore_n 3, 1) := by decide +kernel
theorem dJ7_fill_53178_5 : decode cJ7_fill_53178 5 = .ok (.iload_n 2, 1) := by decide +kernel
theorem dJ7_fill_53178_6 : decode cJ7_fill_53178 6 = .ok (.iload_n 3, 1) := by decide +kernel
theorem dJ7_fill_53178_7 : decode cJ7_fill_53178 7 = .ok (.if_icmp .ge 13, 3) := by decide +kernel
theorem dJ7_fill_53178_10 : decode cJ7_fill_53178 10 = .ok (.aload_n 0, 1) := by decide +kernel
theorem dJ7_fill_53178_11 : decode cJ7_fill_53178 11 = .ok (.iload_n 2, 1) := by decide +kernel
theorem dJ7_fill_53178_12 : decode cJ7_fill_53178 12 = .ok (.iload_n 1, 1) := by decide +kernel
theorem dJ7_fill_53178_13 : decode cJ7_fill_53178 13 = .ok (.iastore, 1) := by decide +kernel
theorem dJ7_fill_53178_14 : decode cJ7_fill_53178 14 = .ok (.iinc 2 1, 3) := by decide +kernel
theorem dJ7_fill_53178_17 : decode cJ7_fill_53178 17 = .ok (.goto (-12), 3) := by decide +kernel
theorem dJ7_fill_53178_20 : decode cJ7_fill_53178 20 = .ok (.return_, 1) := by decide +kernel
theorem dL_law_0 : decode cL_law 0 = .ok (.new 7, 3) := by decide +kernel
theorem dL_law_3 : decode cL_law 3 = .ok (.dup, 1) := by decide +kernel
theorem dL_law_4 : decode cL_law 4 = .ok (.invokespecial 9, 3) := by decide +kernel
theorem dL_law_7 : decode cL_law 7 = .ok (.astore_n 1, 1) := by decide +kernel
theorem dL_law_8 : decode cL_law 8 = .ok (.new 10, 3) := by decide +kernel
theorem dL_law_11 : decode cL_law 11 = .ok (.dup, 1) := by decide +kernel
theorem dL_law_12 : decode cL_law 12 = .ok (.invokespecial 12, 3) := by decide +kernel
theorem dL_law_15 : decode cL_law 15 = .ok (.astore_n 2, 1) := by decide +kernel
theorem dL_law_16 : decode cL_law 16 = .ok (.iconst 0, 1) := by decide +kernel
theorem dL_law_17 : decode cL_law 17 = .ok (.istore_n 3, 1) := by decide +kernel
theorem dL_law_18 : decode cL_law 18 = .ok (.iload_n 3, 1) := by decide +kernel
theorem dL_law_19 : decode cL_law 19 = .ok (.aload_n 0, 1) := by decide +kernel
theorem dL_law_20 : decode cL_law 20 = .ok (.arraylength, 1) := by decide +kernel
theorem dL_law_21 : decode cL_law 21 = .ok (.iconst 4, 1) := by decide +kernel
theorem dL_law_22 : decode cL_law 22 = .ok (.isub, 1) := by decide +kernel
theorem dL_law_23 : decode cL_law 23 = .ok (.if_icmp .gt 766, 3) := by decide +kernel
theorem dL_law_26 : decode cL_law 26 = .ok (.aload_n 0, 1) := by decide +kernel
theorem dL_law_27 : decode cL_law 27 = .ok (.iload_n 3, 1) := by decide +kernel
theorem dL_law_28 : decode cL_law 28 = .ok (.iaload, 1) := by decide +kernel
theorem dL_law_29 : decode cL_law 29 = .ok (.bipush 31, 2) := by decide +kernel
theorem dL_law_31 : decode cL_law 31 = .ok (.iand, 1) := by decide +kernel
theorem dL_law_32 : decode cL_law 32 = .ok (.tableswitch 751 0 24 #[116, 139, 152, 165, 188, 221, 254, 287, 320, 343, 376, 409, 432, 445, 488, 511, 534, 567, 600, 623, 656, 669, 682, 705, 728], 116) := by decide +kernel
theorem dL_law_148 : decode cL_law 148 = .ok (.aload_n 1, 1) := by decide +kernel
theorem dL_law_149 : decode cL_law 149 = .ok (.aload_n 0, 1) := by decide +kernel
theorem dL_law_150 : decode cL_law 150 = .ok (.iload_n 3, 1) := by decide +kernel
theorem dL_law_151 : decode cL_law 151 = .ok (.iconst 1, 1) := by decide +kernel
theorem dL_law_152 : decode cL_law 152 = .ok (.iadd, 1) := by decide +kernel
theorem dL_law_153 : decode cL_law 153 = .ok (.iaload, 1) := by decide +kernel
theorem dL_law_154 : decode cL_law 154 = .ok (.invokevirtual 13, 3) := by decide +kernel
theorem dL_law_157 : decode cL_law 157 = .ok (.aload_n 2, 1) := by decide +kernel
theorem dL_law_158 : decode cL_law 158 = .ok (.aload_n 0, 1) := by decide +kernel
theorem dL_law_159 : decode cL_law 159 = .ok (.iload_n 3, 1) := by decide +kernel
theorem dL_law_160 : decode cL_law 160 = .ok (.iconst 1, 1) := by decide +kernel
theorem dL_law_161 : decode cL_law 161 = .ok (.iadd, 1) := by decide +kernel
theorem dL_law_162 : decode cL_law 162 = .ok (.iaload, 1) := by decide +kernel
theorem dL_law_163 : decode cL_law 163 = .ok (.invokevirtual 17, 3) := by decide +kernel
theorem dL_law_166 : decode cL_law 166 = .ok (.if_icmp .eq 617, 3) := by decide +kernel
theorem dL_law_169 : decode cL_law 169 = .ok (.iconst 0, 1) := by decide +kernel
theorem dL_law_170 : decode cL_law 170 = .ok (.ireturn, 1) := by decide +kernel
theorem dL_law_171 : decode cL_law 171 = .ok (.aload_n 1, 1) := by decide +kernel
theorem dL_law_172 : decode cL_law 172 = .ok (.invokevirtual 18, 3) := by decide +kernel
theorem dL_law_175 : decode cL_law 175 = .ok (.aload_n 2, 1) := by decide +kernel
theorem dL_law_176 : decode cL_law 176 = .ok (.invokevirtual 22, 3) := by decide +kernel
theorem dL_law_179 : decode cL_law 179 = .ok (.if_icmp .eq 604, 3) := by decide +kernel
theorem dL_law_182 : decode cL_law 182 = .ok (.iconst 0, 1) := by decide +kernel
theorem dL_law_183 : decode cL_law 183 = .ok (.ireturn, 1) := by decide +kernel
theorem dL_law_184 : decode cL_law 184 = .ok (.aload_n 1, 1) := by decide +kernel
theorem dL_law_185 : decode cL_law 185 = .ok (.invokevirtual 23, 3) := by decide +kernel
theorem dL_law_188 : decode cL_law 188 = .ok (.aload_n 2, 1) := by decide +kernel
theorem dL_law_189 : decode cL_law 189 = .ok (.invokevirtual 26, 3) := by decide +kernel
theorem dL_law_192 : decode cL_law 192 = .ok (.if_icmp .eq 591, 3) := by decide +kernel
theorem dL_law_195 : decode cL_law 195 = .ok (.iconst 0, 1) := by decide +kernel
theorem dL_law_196 : decode cL_law 196 = .ok (.ireturn, 1) := by decide +kernel
theorem dL_law_197 : decode cL_law 197 = .ok (.aload_n 1, 1) := by decide +kernel
theorem dL_law_198 : decode cL_law 198 = .ok (.aload_n 0, 1) := by decide +kernel
theorem dL_law_199 : decode cL_law 199 = .ok (.iload_n 3, 1) := by decide +kernel
theorem dL_law_200 : decode cL_law 200 = .ok (.iconst 1, 1) := by decide +kernel
theorem dL_law_201 : decode cL_law 201 = .ok (.iadd, 1) := by decide +kernel
theorem dL_law_202 : decode cL_law 202 = .ok (.iaload, 1) := by decide +kernel
theorem dL_law_203 : decode cL_law 203 = .ok (.invokevirtual 27, 3) := by decide +kernel
theorem dL_law_206 : decode cL_law 206 = .ok (.aload_n 2, 1) := by decide +kernel
theorem dL_law_207 : decode cL_law 207 = .ok (.aload_n 0, 1) := by decide +kernel
theorem dL_law_208 : decode cL_law 208 = .ok (.iload_n 3, 1) := by decide +kernel
theorem dL_law_209 : decode cL_law 209 = .ok (.iconst 1, 1) := by decide +kernel
theorem dL_law_210 : decode cL_law 210 = .ok (.iadd, 1) := by decide +kernel
theorem dL_law_211 : decode cL_law 211 = .ok (.iaload, 1) := by decide +kernel
theorem dL_law_212 : decode cL_law 212 = .ok (.invokevirtual 30, 3) := by decide +kernel
theorem dL_law_215 : decode cL_law 215 = .ok (.if_icmp .eq 568, 3) := by decide +kernel
theorem dL_law_218 : decode cL_law 218 = .ok (.iconst 0, 1) := by decide +kernel
theorem dL_law_219 : decode cL_law 219 = .ok (.ireturn, 1) := by decide +kernel
theorem dL_law_220 : decode cL_law 220 = .ok (.aload_n 1, 1) := by decide +kernel
theorem dL_law_221 : decode cL_law 221 = .ok (.aload_n 0, 1) := by decide +kernel
theorem dL_law_222 : decode cL_law 222 = .ok (.iload_n 3, 1) := by decide +kernel
theorem dL_law_223 : decode cL_law 223 = .ok (.iconst 1, 1) := by decide +kernel
theorem dL_law_224 : decode cL_law 224 = .ok (.iadd, 1) := by decide +kernel
theorem dL_law_225 : decode cL_law 225 = .ok (.iaload, 1) := by decide +kernel
theorem dL_law_226 : decode cL_law 226 = .ok (.aload_n 0, 1) := by decide +kernel
theorem dL_law_227 : decode cL_law 227 = .ok (.iload_n 3, 1) := by decide +kernel
theorem dL_law_228 : decode cL_law 228 = .ok (.iconst 2, 1) := by decide +kernel
theorem dL_law_229 : decode cL_law 229 = .ok (.iadd, 1) := by decide +kernel
theorem dL_law_230 : decode cL_law 230 = .ok (.iaload, 1) := by decide +kernel
theorem dL_law_231 : decode cL_law 231 = .ok (.invokevirtual 31, 3) := by decide +kernel
theorem dL_law_234 : decode cL_law 234 = .ok (.aload_n 2, 1) := by decide +kernel
theorem dL_law_235 : decode cL_law 235 = .ok (.aload_n 0, 1) := by decide +kernel
theorem dL_law_236 : decode cL_law 236 = .ok (.iload_n 3, 1) := by decide +kernel
theorem dL_law_237 : decode cL_law 237 = .ok (.iconst 1, 1) := by decide +kernel
theorem dL_law_238 : decode cL_law 238 = .ok (.iadd, 1) := by decide +kernel
theorem dL_law_239 : decode cL_law 239 = .ok (.iaload, 1) := by decide +kernel
theorem dL_law_240 : decode cL_law 240 = .ok (.aload_n 0, 1) := by decide +kernel
theorem dL_law_241 : decode cL_law 241 = .ok (.iload_n 3, 1) := by decide +kernel
theorem dL_law_242 : decode cL_law 242 = .ok (.iconst 2, 1) := by decide +kernel
theorem dL_law_243 : decode cL_law 243 = .ok (.iadd, 1) := by decide +kernel
theorem dL_law_244 : decode cL_law 244 = .ok (.iaload, 1) := by decide +kernel
theorem dL_law_245 : decode cL_law 245 = .ok (.invokevirtual 35, 3) := by decide +kernel
theorem dL_law_248 : decode cL_law 248 = .ok (.if_icmp .eq 535, 3) := by decide +kernel
theorem dL_law_251 : decode cL_law 251 = .ok (.iconst 0, 1) := by decide +kernel
theorem dL_law_252 : decode cL_law 252 = .ok (.ireturn, 1) := by decide +kernel
theorem dL_law_253 : decode cL_law 253 = .ok (.aload_n 1, 1) := by decide +kernel
theorem dL_law_254 : decode cL_law 254 = .ok (.aload_n 0, 1) := by decide +kernel
theorem dL_law_255 : decode cL_law 255 = .ok (.iload_n 3, 1) := by decide +kernel
theorem dL_law_256 : decode cL_law 256 = .ok (.iconst 1, 1) := by decide +kernel
theorem dL_law_257 : decode cL_law 257 = .ok (.iadd, 1) := by decide +kernel
theorem dL_law_258 : decode cL_law 258 = .ok (.iaload, 1) := by decide +kernel
theorem dL_law_259 : decode cL_law 259 = .ok (.aload_n 0, 1) := by decide +kernel
theorem dL_law_260 : decode cL_law 260 = .ok (.iload_n 3, 1) := by decide +kernel
theorem dL_law_261 : decode cL_law 261 = .ok (.iconst 2, 1) := by decide +kernel
theorem dL_law_262 : decode cL_law 262 = .ok (.iadd, 1) := by decide +kernel
theorem dL_law_263 : decode cL_law 263 = .ok (.iaload, 1) := by decide +kernel
theorem dL_law_264 : decode cL_law 264 = .ok (.invokevirtual 36, 3) := by decide +kernel
theorem dL_law_267 : decode cL_law 267 = .ok (.aload_n 2, 1) := by decide +kernel
theorem dL_law_268 : decode cL_law 268 = .ok (.aload_n 0, 1) := by decide +kernel
theorem dL_law_269 : decode cL_law 269 = .ok (.iload_n 3, 1) := by decide +kernel
theorem dL_law_270 : decode cL_law 270 = .ok (.iconst 1, 1) := by decide +kernel
theorem dL_law_271 : decode cL_law 271 = .ok (.iadd, 1) := by decide +kernel
theorem dL_law_272 : decode cL_law 272 = .ok (.iaload, 1) := by decide +kernel
theorem dL_law_273 : decode cL_law 273 = .ok (.aload_n 0, 1) := by decide +kernel
theorem dL_law_274 : decode cL_law 274 = .ok (.iload_n 3, 1) := by decide +kernel
theorem dL_law_275 : decode cL_law 275 = .ok (.iconst 2, 1) := by decide +kernel
theorem dL_law_276 : decode cL_law 276 = .ok (.iadd, 1) := by decide +kernel
theorem dL_law_277 : decode cL_law 277 = .ok (.iaload, 1) := by decide +kernel
theorem dL_law_278 : decode cL_law 278 = .ok (.invokevirtual 39, 3) := by decide +kernel
theorem dL_law_281 : decode cL_law 281 = .ok (.if_icmp .eq 502, 3) := by decide +kernel
theorem dL_law_284 : decode cL_law 284 = .ok (.iconst 0, 1) := by decide +kernel
theorem dL_law_285 : decode cL_law 285 = .ok (.ireturn, 1) := by decide +kernel
theorem dL_law_286 : decode cL_law 286 = .ok (.aload_n 1, 1) := by decide +kernel
theorem dL_law_287 : decode cL_law 287 = .ok (.aload_n 0, 1) := by decide +kernel
theorem dL_law_288 : decode cL_law 288 = .ok (.iload_n 3, 1) := by decide +kernel
theorem dL_law_289 : decode cL_law 289 = .ok (.iconst 1, 1) := by decide +kernel
theorem dL_law_290 : decode cL_law 290 = .ok (.iadd, 1) := by decide +kernel
theorem dL_law_291 : decode cL_law 291 = .ok (.iaload, 1) := by decide +kernel
theorem dL_law_292 : decode cL_law 292 = .ok (.aload_n 0, 1) := by decide +kernel
theorem dL_law_293 : decode cL_law 293 = .ok (.iload_n 3, 1) := by decide +kernel
theorem dL_law_294 : decode cL_law 294 = .ok (.iconst 2, 1) := by decide +kernel
theorem dL_law_295 : decode cL_law 295 = .ok (.iadd, 1) := by decide +kernel
theorem dL_law_296 : decode cL_law 296 = .ok (.iaload, 1) := by decide +kernel
theorem dL_law_297 : decode cL_law 297 = .ok (.invokevirtual 40, 3) := by decide +kernel
theorem dL_law_300 : decode cL_law 300 = .ok (.aload_n 2, 1) := by decide +kernel
theorem dL_law_301 : decode cL_law 301 = .ok (.aload_n 0, 1) := by decide +kernel
theorem dL_law_302 : decode cL_law 302 = .ok (.iload_n 3, 1) := by decide +kernel
theorem dL_law_303 : decode cL_law 303 = .ok (.iconst 1, 1) := by decide +kernel
theorem dL_law_304 : decode cL_law 304 = .ok (.iadd, 1) := by decide +kernel
theorem dL_law_305 : decode cL_law 305 = .ok (.iaload, 1) := by decide +kernel
theorem dL_law_306 : decode cL_law 306 = .ok (.aload_n 0, 1) := by decide +kernel
theorem dL_law_307 : decode cL_law 307 = .ok (.iload_n 3, 1) := by decide +kernel
theorem dL_law_308 : decode cL_law 308 = .ok (.iconst 2, 1) := by decide +kernel
theorem dL_law_309 : decode cL_law 309 = .ok (.iadd, 1) := by decide +kernel
theorem dL_law_310 : decode cL_law 310 = .ok (.iaload, 1) := by decide +kernel
theorem dL_law_311 : decode cL_law 311 = .ok (.invokevirtual 43, 3) := by decide +kernel
theorem dL_law_314 : decode cL_law 314 = .ok (.if_icmp .eq 469, 3) := by decide +kernel
theorem dL_law_317 : decode cL_law 317 = .ok (.iconst 0, 1) := by decide +kernel
theorem dL_law_318 : decode cL_law 318 = .ok (.ireturn, 1) := by decide +kernel
theorem dL_law_319 : decode cL_law 319 = .ok (.aload_n 1, 1) := by decide +kernel
theorem dL_law_320 : decode cL_law 320 = .ok (.aload_n 0, 1) := by decide +kernel
theorem dL_law_321 : decode cL_law 321 = .ok (.iload_n 3, 1) := by decide +kernel
theorem dL_law_322 : decode cL_law 322 = .ok (.iconst 1, 1) := by decide +kernel
theorem dL_law_323 : decode cL_law 323 = .ok (.iadd, 1) := by decide +kernel
theorem dL_law_324 : decode cL_law 324 = .ok (.iaload, 1) := by decide +kernel
theorem dL_law_325 : decode cL_law 325 = .ok (.aload_n 0, 1) := by decide +kernel
theorem dL_law_326 : decode cL_law 326 = .ok (.iload_n 3, 1) := by decide +kernel
theorem dL_law_327 : decode cL_law 327 = .ok (.iconst 2, 1) := by decide +kernel
theorem dL_law_328 : decode cL_law 328 = .ok (.iadd, 1) := by decide +kernel
theorem dL_law_329 : decode cL_law 329 = .ok (.iaload, 1) := by decide +kernel
theorem dL_law_330 : decode cL_law 330 = .ok (.invokevirtual 44, 3) := by decide +kernel
theorem dL_law_333 : decode cL_law 333 = .ok (.aload_n 2, 1) := by decide +kernel
theorem dL_law_334 : decode cL_law 334 = .ok (.aload_n 0, 1) := by decide +kernel
theorem dL_law_335 : decode cL_law 335 = .ok (.iload_n 3, 1) := by decide +kernel
theorem dL_law_336 : decode cL_law 336 = .ok (.iconst 1, 1) := by decide +kernel
theorem dL_law_337 : decode cL_law 337 = .ok (.iadd, 1) := by decide +kernel
theorem dL_law_338 : decode cL_law 338 = .ok (.iaload, 1) := by decide +kernel
theorem dL_law_339 : decode cL_law 339 = .ok (.aload_n 0, 1) := by decide +kernel
theorem dL_law_340 : decode cL_law 340 = .ok (.iload_n 3, 1) := by decide +kernel
theorem dL_law_341 : decode cL_law 341 = .ok (.iconst 2, 1) := by decide +kernel
theorem dL_law_342 : decode cL_law 342 = .ok (.iadd, 1) := by decide +kernel
theorem dL_law_343 : decode cL_law 343 = .ok (.iaload, 1) := by decide +kernel
theorem dL_law_344 : decode cL_law 344 = .ok (.invokevirtual 47, 3) := by decide +kernel
theorem dL_law_347 : decode cL_law 347 = .ok (.if_icmp .eq 436, 3) := by decide +kernel
theorem dL_law_350 : decode cL_law 350 = .ok (.iconst 0, 1) := by decide +kernel
theorem dL_law_351 : decode cL_law 351 = .ok (.ireturn, 1) := by decide +kernel
theorem dL_law_352 : decode cL_law 352 = .ok (.aload_n 1, 1) := by decide +kernel
theorem dL_law_353 : decode cL_law 353 = .ok (.aload_n 0, 1) := by decide +kernel
theorem dL_law_354 : decode cL_law 354 = .ok (.iload_n 3, 1) := by decide +kernel
theorem dL_law_355 : decode cL_law 355 = .ok (.iconst 1, 1) := by decide +kernel
theorem dL_law_356 : decode cL_law 356 = .ok (.iadd, 1) := by decide +kernel
theorem dL_law_357 : decode cL_law 357 = .ok (.iaload, 1) := by decide +kernel
theorem dL_law_358 : decode cL_law 358 = .ok (.invokevirtual 48, 3) := by decide +kernel
theorem dL_law_361 : decode cL_law 361 = .ok (.aload_n 2, 1) := by decide +kernel
theorem dL_law_362 : decode cL_law 362 = .ok (.aload_n 0, 1) := by decide +kernel
theorem dL_law_363 : decode cL_law 363 = .ok (.iload_n 3, 1) := by decide +kernel
theorem dL_law_364 : decode cL_law 364 = .ok (.iconst 1, 1) := by decide +kernel
theorem dL_law_365 : decode cL_law 365 = .ok (.iadd, 1) := by decide +kernel
theorem dL_law_366 : decode cL_law 366 = .ok (.iaload, 1) := by decide +kernel
theorem dL_law_367 : decode cL_law 367 = .ok (.invokevirtual 51, 3) := by decide +kernel
theorem dL_law_370 : decode cL_law 370 = .ok (.if_icmp .eq 413, 3) := by decide +kernel
theorem dL_law_373 : decode cL_law 373 = .ok (.iconst 0, 1) := by decide +kernel
theorem dL_law_374 : decode cL_law 374 = .ok (.ireturn, 1) := by decide +kernel
theorem dL_law_375 : decode cL_law 375 = .ok (.aload_n 1, 1) := by decide +kernel
theorem dL_law_376 : decode cL_law 376 = .ok (.aload_n 0, 1) := by decide +kernel
theorem dL_law_377 : decode cL_law 377 = .ok (.iload_n 3, 1) := by decide +kernel
theorem dL_law_378 : decode cL_law 378 = .ok (.iconst 1, 1) := by decide +kernel
theorem dL_law_379 : decode cL_law 379 = .ok (.iadd, 1) := by decide +kernel
theorem dL_law_380 : decode cL_law 380 = .ok (.iaload, 1) := by decide +kernel
theorem dL_law_381 : decode cL_law 381 = .ok (.aload_n 0, 1) := by decide +kernel
theorem dL_law_382 : decode cL_law 382 = .ok (.iload_n 3, 1) := by decide +kernel
theorem dL_law_383 : decode cL_law 383 = .ok (.iconst 2, 1) := by decide +kernel
theorem dL_law_384 : decode cL_law 384 = .ok (.iadd, 1) := by decide +kernel
theorem dL_law_385 : decode cL_law 385 = .ok (.iaload, 1) := by decide +kernel
theorem dL_law_386 : decode cL_law 386 = .ok (.invokevirtual 52, 3) := by decide +kernel
theorem dL_law_389 : decode cL_law 389 = .ok (.aload_n 2, 1) := by decide +kernel
theorem dL_law_390 : decode cL_law 390 = .ok (.aload_n 0, 1) := by decide +kernel
theorem dL_law_391 : decode cL_law 391 = .ok (.iload_n 3, 1) := by decide +kernel
theorem dL_law_392 : decode cL_law 392 = .ok (.iconst 1, 1) := by decide +kernel
theorem dL_law_393 : decode cL_law 393 = .ok (.iadd, 1) := by decide +kernel
theorem dL_law_394 : decode cL_law 394 = .ok (.iaload, 1) := by decide +kernel
theorem dL_law_395 : decode cL_law 395 = .ok (.aload_n 0, 1) := by decide +kernel
theorem dL_law_396 : decode cL_law 396 = .ok (.iload_n 3, 1) := by decide +kernel
theorem dL_law_397 : decode cL_law 397 = .ok (.iconst 2, 1) := by decide +kernel
theorem dL_law_398 : decode cL_law 398 = .ok (.iadd, 1) := by decide +kernel
theorem dL_law_399 : decode cL_law 399 = .ok (.iaload, 1) := by decide +kernel
theorem dL_law_400 : decode cL_law 400 = .ok (.invokevirtual 55, 3) := by decide +kernel
theorem dL_law_403 : decode cL_law 403 = .ok (.if_icmp .eq 380, 3) := by decide +kernel
theorem dL_law_406 : decode cL_law 406 = .ok (.iconst 0, 1) := by decide +kernel
theorem dL_law_407 : decode cL_law 407 = .ok (.ireturn, 1) := by decide +kernel
theorem dL_law_408 : decode cL_law 408 = .ok (.aload_n 1, 1) := by decide +kernel
theorem dL_law_409 : decode cL_law 409 = .ok (.aload_n 0, 1) := by decide +kernel
theorem dL_law_410 : decode cL_law 410 = .ok (.iload_n 3, 1) := by decide +kernel
theorem dL_law_411 : decode cL_law 411 = .ok (.iconst 1, 1) := by decide +kernel
theorem dL_law_412 : decode cL_law 412 = .ok (.iadd, 1) := by decide +kernel
theorem dL_law_413 : decode cL_law 413 = .ok (.iaload, 1) := by decide +kernel
theorem dL_law_414 : decode cL_law 414 = .ok (.aload_n 0, 1) := by decide +kernel
theorem dL_law_415 : decode cL_law 415 = .ok (.iload_n 3, 1) := by decide +kernel
theorem dL_law_416 : decode cL_law 416 = .ok (.iconst 2, 1) := by decide +kernel
theorem dL_law_417 : decode cL_law 417 = .ok (.iadd, 1) := by decide +kernel
theorem dL_law_418 : decode cL_law 418 = .ok (.iaload, 1) := by decide +kernel
theorem dL_law_419 : decode cL_law 419 = .ok (.invokevirtual 56, 3) := by decide +kernel
theorem dL_law_422 : decode cL_law 422 = .ok (.aload_n 2, 1) := by decide +kernel
theorem dL_law_423 : decode cL_law 423 = .ok (.aload_n 0, 1) := by decide +kernel
theorem dL_law_424 : decode cL_law 424 = .ok (.iload_n 3, 1) := by decide +kernel
theorem dL_law_425 : decode cL_law 425 = .ok (.iconst 1, 1) := by decide +kernel
theorem dL_law_426 : decode cL_law 426 = .ok (.iadd, 1) := by decide +kernel
theorem dL_law_427 : decode cL_law 427 = .ok (.iaload, 1) := by decide +kernel
theorem dL_law_428 : decode cL_law 428 = .ok (.aload_n 0, 1) := by decide +kernel
theorem dL_law_429 : decode cL_law 429 = .ok (.iload_n 3, 1) := by decide +kernel
theorem dL_law_430 : decode cL_law 430 = .ok (.iconst 2, 1) := by decide +kernel
theorem dL_law_431 : decode cL_law 431 = .ok (.iadd, 1) := by decide +kernel
theorem dL_law_432 : decode cL_law 432 = .ok (.iaload, 1) := by decide +kernel
theorem dL_law_433 : decode cL_law 433 = .ok (.invokevirtual 59, 3) := by decide +kernel
theorem dL_law_436 : decode cL_law 436 = .ok (.if_icmp .eq 347, 3) := by decide +kernel
theorem dL_law_439 : decode cL_law 439 = .ok (.iconst 0, 1) := by decide +kernel
theorem dL_law_440 : decode cL_law 440 = .ok (.ireturn, 1) := by decide +kernel
theorem dL_law_441 : decode cL_law 441 = .ok (.aload_n 1, 1) := by decide +kernel
theorem dL_law_442 : decode cL_law 442 = .ok (.aload_n 0, 1) := by decide +kernel
theorem dL_law_443 : decode cL_law 443 = .ok (.iload_n 3, 1) := by decide +kernel
theorem dL_law_444 : decode cL_law 444 = .ok (.iconst 1, 1) := by decide +kernel
theorem dL_law_445 : decode cL_law 445 = .ok (.iadd, 1) := by decide +kernel
theorem dL_law_446 : decode cL_law 446 = .ok (.iaload, 1) := by decide +kernel
theorem dL_law_447 : decode cL_law 447 = .ok (.invokevirtual 60, 3) := by decide +kernel
theorem dL_law_450 : decode cL_law 450 = .ok (.aload_n 2, 1) := by decide +kernel
theorem dL_law_451 : decode cL_law 451 = .ok (.aload_n 0, 1) := by decide +kernel
theorem dL_law_452 : decode cL_law 452 = .ok (.iload_n 3, 1) := by decide +kernel
theorem dL_law_453 : decode cL_law 453 = .ok (.iconst 1, 1) := by decide +kernel
theorem dL_law_454 : decode cL_law 454 = .ok (.iadd, 1) := by decide +kernel
theorem dL_law_455 : decode cL_law 455 = .ok (.iaload, 1) := by decide +kernel
theorem dL_law_456 : decode cL_law 456 = .ok (.invokevirtual 63, 3) := by decide +kernel
theorem dL_law_459 : decode cL_law 459 = .ok (.if_icmp .eq 324, 3) := by decide +kernel
theorem dL_law_462 : decode cL_law 462 = .ok (.iconst 0, 1) := by decide +kernel
theorem dL_law_463 : decode cL_law 463 = .ok (.ireturn, 1) := by decide +kernel
theorem dL_law_464 : decode cL_law 464 = .ok (.aload_n 1, 1) := by decide +kernel
theorem dL_law_465 : decode cL_law 465 = .ok (.invokevirtual 64, 3) := by decide +kernel
theorem dL_law_468 : decode cL_law 468 = .ok (.aload_n 2, 1) := by decide +kernel
theorem dL_law_469 : decode cL_law 469 = .ok (.invokevirtual 67, 3) := by decide +kernel
theorem dL_law_472 : decode cL_law 472 = .ok (.if_icmp .eq 311, 3) := by decide +kernel
theorem dL_law_475 : decode cL_law 475 = .ok (.iconst 0, 1) := by decide +kernel
theorem dL_law_476 : decode cL_law 476 = .ok (.ireturn, 1) := by decide +kernel
theorem dL_law_477 : decode cL_law 477 = .ok (.aload_n 1, 1) := by decide +kernel
theorem dL_law_478 : decode cL_law 478 = .ok (.aload_n 0, 1) := by decide +kernel
theorem dL_law_479 : decode cL_law 479 = .ok (.iload_n 3, 1) := by decide +kernel
theorem dL_law_480 : decode cL_law 480 = .ok (.iconst 1, 1) := by decide +kernel
theorem dL_law_481 : decode cL_law 481 = .ok (.iadd, 1) := by decide +kernel
theorem dL_law_482 : decode cL_law 482 = .ok (.iaload, 1) := by decide +kernel
theorem dL_law_483 : decode cL_law 483 = .ok (.aload_n 0, 1) := by decide +kernel
theorem dL_law_484 : decode cL_law 484 = .ok (.iload_n 3, 1) := by decide +kernel
theorem dL_law_485 : decode cL_law 485 = .ok (.iconst 2, 1) := by decide +kernel
theorem dL_law_486 : decode cL_law 486 = .ok (.iadd, 1) := by decide +kernel
theorem dL_law_487 : decode cL_law 487 = .ok (.iaload, 1) := by decide +kernel
theorem dL_law_488 : decode cL_law 488 = .ok (.aload_n 0, 1) := by decide +kernel
theorem dL_law_489 : decode cL_law 489 = .ok (.iload_n 3, 1) := by decide +kernel
theorem dL_law_490 : decode cL_law 490 = .ok (.iconst 3, 1) := by decide +kernel
theorem dL_law_491 : decode cL_law 491 = .ok (.iadd, 1) := by decide +kernel
theorem dL_law_492 : decode cL_law 492 = .ok (.iaload, 1) := by decide +kernel
theorem dL_law_493 : decode cL_law 493 = .ok (.invokevirtual 68, 3) := by decide +kernel
theorem dL_law_496 : decode cL_law 496 = .ok (.aload_n 2, 1) := by decide +kernel
theorem dL_law_497 : decode cL_law 497 = .ok (.aload_n 0, 1) := by decide +kernel
theorem dL_law_498 : decode cL_law 498 = .ok (.iload_n 3, 1) := by decide +kernel
theorem dL_law_499 : decode cL_law 499 = .ok (.iconst 1, 1) := by decide +kernel
theorem dL_law_500 : decode cL_law 500 = .ok (.iadd, 1) := by decide +kernel
theorem dL_law_501 : decode cL_law 501 = .ok (.iaload, 1) := by decide +kernel
theorem dL_law_502 : decode cL_law 502 = .ok (.aload_n 0, 1) := by decide +kernel
theorem dL_law_503 : decode cL_law 503 = .ok (.iload_n 3, 1) := by decide +kernel
theorem dL_law_504 : decode cL_law 504 = .ok (.iconst 2, 1) := by decide +kernel
theorem dL_law_505 : decode cL_law 505 = .ok (.iadd, 1) := by decide +kernel
theorem dL_law_506 : decode cL_law 506 = .ok (.iaload, 1) := by decide +kernel
theorem dL_law_507 : decode cL_law 507 = .ok (.aload_n 0, 1) := by decide +kernel
theorem dL_law_508 : decode cL_law 508 = .ok (.iload_n 3, 1) := by decide +kernel
theorem dL_law_509 : decode cL_law 509 = .ok (.iconst 3, 1) := by decide +kernel
theorem dL_law_510 : decode cL_law 510 = .ok (.iadd, 1) := by decide +kernel
theorem dL_law_511 : decode cL_law 511 = .ok (.iaload, 1) := by decide +kernel
theorem dL_law_512 : decode cL_law 512 = .ok (.invokevirtual 72, 3) := by decide +kernel
theorem dL_law_515 : decode cL_law 515 = .ok (.if_icmp .eq 268, 3) := by decide +kernel
theorem dL_law_518 : decode cL_law 518 = .ok (.iconst 0, 1) := by decide +kernel
theorem dL_law_519 : decode cL_law 519 = .ok (.ireturn, 1) := by decide +kernel
theorem dL_law_520 : decode cL_law 520 = .ok (.aload_n 1, 1) := by decide +kernel
theorem dL_law_521 : decode cL_law 521 = .ok (.aload_n 0, 1) := by decide +kernel
theorem dL_law_522 : decode cL_law 522 = .ok (.iload_n 3, 1) := by decide +kernel
theorem dL_law_523 : decode cL_law 523 = .ok (.iconst 1, 1) := by decide +kernel
theorem dL_law_524 : decode cL_law 524 = .ok (.iadd, 1) := by decide +kernel
theorem dL_law_525 : decode cL_law 525 = .ok (.iaload, 1) := by decide +kernel
theorem dL_law_526 : decode cL_law 526 = .ok (.invokevirtual 73, 3) := by decide +kernel
theorem dL_law_529 : decode cL_law 529 = .ok (.aload_n 2, 1) := by decide +kernel
theorem dL_law_530 : decode cL_law 530 = .ok (.aload_n 0, 1) := by decide +kernel
theorem dL_law_531 : decode cL_law 531 = .ok (.iload_n 3, 1) := by decide +kernel
theorem dL_law_532 : decode cL_law 532 = .ok (.iconst 1, 1) := by decide +kernel
theorem dL_law_533 : decode cL_law 533 = .ok (.iadd, 1) := by decide +kernel
theorem dL_law_534 : decode cL_law 534 = .ok (.iaload, 1) := by decide +kernel
theorem dL_law_535 : decode cL_law 535 = .ok (.invokevirtual 76, 3) := by decide +kernel
theorem dL_law_538 : decode cL_law 538 = .ok (.if_icmp .eq 245, 3) := by decide +kernel
theorem dL_law_541 : decode cL_law 541 = .ok (.iconst 0, 1) := by decide +kernel
theorem dL_law_542 : decode cL_law 542 = .ok (.ireturn, 1) := by decide +kernel
theorem dL_law_543 : decode cL_law 543 = .ok (.aload_n 1, 1) := by decide +kernel
theorem dL_law_544 : decode cL_law 544 = .ok (.aload_n 0, 1) := by decide +kernel
theorem dL_law_545 : decode cL_law 545 = .ok (.iload_n 3, 1) := by decide +kernel
theorem dL_law_546 : decode cL_law 546 = .ok (.iconst 1, 1) := by decide +kernel
theorem dL_law_547 : decode cL_law 547 = .ok (.iadd, 1) := by decide +kernel
theorem dL_law_548 : decode cL_law 548 = .ok (.iaload, 1) := by decide +kernel
theorem dL_law_549 : decode cL_law 549 = .ok (.invokevirtual 77, 3) := by decide +kernel
theorem dL_law_552 : decode cL_law 552 = .ok (.aload_n 2, 1) := by decide +kernel
theorem dL_law_553 : decode cL_law 553 = .ok (.aload_n 0, 1) := by decide +kernel
theorem dL_law_554 : decode cL_law 554 = .ok (.iload_n 3, 1) := by decide +kernel
theorem dL_law_555 : decode cL_law 555 = .ok (.iconst 1, 1) := by decide +kernel
theorem dL_law_556 : decode cL_law 556 = .ok (.iadd, 1) := by decide +kernel
theorem dL_law_557 : decode cL_law 557 = .ok (.iaload, 1) := by decide +kernel
theorem dL_law_558 : decode cL_law 558 = .ok (.invokevirtual 80, 3) := by decide +kernel
theorem dL_law_561 : decode cL_law 561 = .ok (.if_icmp .eq 222, 3) := by decide +kernel
theorem dL_law_564 : decode cL_law 564 = .ok (.iconst 0, 1) := by decide +kernel
theorem dL_law_565 : decode cL_law 565 = .ok (.ireturn, 1) := by decide +kernel
theorem dL_law_566 : decode cL_law 566 = .ok (.aload_n 1, 1) := by decide +kernel
theorem dL_law_567 : decode cL_law 567 = .ok (.aload_n 0, 1) := by decide +kernel
theorem dL_law_568 : decode cL_law 568 = .ok (.iload_n 3, 1) := by decide +kernel
theorem dL_law_569 : decode cL_law 569 = .ok (.iconst 1, 1) := by decide +kernel
theorem dL_law_570 : decode cL_law 570 = .ok (.iadd, 1) := by decide +kernel
theorem dL_law_571 : decode cL_law 571 = .ok (.iaload, 1) := by decide +kernel
theorem dL_law_572 : decode cL_law 572 = .ok (.aload_n 0, 1) := by decide +kernel
theorem dL_law_573 : decode cL_law 573 = .ok (.iload_n 3, 1) := by decide +kernel
theorem dL_law_574 : decode cL_law 574 = .ok (.iconst 2, 1) := by decide +kernel
theorem dL_law_575 : decode cL_law 575 = .ok (.iadd, 1) := by decide +kernel
theorem dL_law_576 : decode cL_law 576 = .ok (.iaload, 1) := by decide +kernel
theorem dL_law_577 : decode cL_law 577 = .ok (.invokevirtual 81, 3) := by decide +kernel
theorem dL_law_580 : decode cL_law 580 = .ok (.aload_n 2, 1) := by decide +kernel
theorem dL_law_581 : decode cL_law 581 = .ok (.aload_n 0, 1) := by decide +kernel
theorem dL_law_582 : decode cL_law 582 = .ok (.iload_n 3, 1) := by decide +kernel
theorem dL_law_583 : decode cL_law 583 = .ok (.iconst 1, 1) := by decide +kernel
theorem dL_law_584 : decode cL_law 584 = .ok (.iadd, 1) := by decide +kernel
theorem dL_law_585 : decode cL_law 585 = .ok (.iaload, 1) := by decide +kernel
theorem dL_law_586 : decode cL_law 586 = .ok (.aload_n 0, 1) := by decide +kernel
theorem dL_law_587 : decode cL_law 587 = .ok (.iload_n 3, 1) := by decide +kernel
theorem dL_law_588 : decode cL_law 588 = .ok (.iconst 2, 1) := by decide +kernel
theorem dL_law_589 : decode cL_law 589 = .ok (.iadd, 1) := by decide +kernel
theorem dL_law_590 : decode cL_law 590 = .ok (.iaload, 1) := by decide +kernel
theorem dL_law_591 : decode cL_law 591 = .ok (.invokevirtual 84, 3) := by decide +kernel
theorem dL_law_594 : decode cL_law 594 = .ok (.if_icmp .eq 189, 3) := by decide +kernel
theorem dL_law_597 : decode cL_law 597 = .ok (.iconst 0, 1) := by decide +kernel
theorem dL_law_598 : decode cL_law 598 = .ok (.ireturn, 1) := by decide +kernel
theorem dL_law_599 : decode cL_law 599 = .ok (.aload_n 1, 1) := by decide +kernel
theorem dL_law_600 : decode cL_law 600 = .ok (.aload_n 0, 1) := by decide +kernel
theorem dL_law_601 : decode cL_law 601 = .ok (.iload_n 3, 1) := by decide +kernel
theorem dL_law_602 : decode cL_law 602 = .ok (.iconst 1, 1) := by decide +kernel
theorem dL_law_603 : decode cL_law 603 = .ok (.iadd, 1) := by decide +kernel
theorem dL_law_604 : decode cL_law 604 = .ok (.iaload, 1) := by decide +kernel
theorem dL_law_605 : decode cL_law 605 = .ok (.aload_n 0, 1) := by decide +kernel
theorem dL_law_606 : decode cL_law 606 = .ok (.iload_n 3, 1) := by decide +kernel
theorem dL_law_607 : decode cL_law 607 = .ok (.iconst 2, 1) := by decide +kernel
theorem dL_law_608 : decode cL_law 608 = .ok (.iadd, 1) := by decide +kernel
theorem dL_law_609 : decode cL_law 609 = .ok (.iaload, 1) := by decide +kernel
theorem dL_law_610 : decode cL_law 610 = .ok (.invokevirtual 85, 3) := by decide +kernel
theorem dL_law_613 : decode cL_law 613 = .ok (.aload_n 2, 1) := by decide +kernel
theorem dL_law_614 : decode cL_law 614 = .ok (.aload_n 0, 1) := by decide +kernel
theorem dL_law_615 : decode cL_law 615 = .ok (.iload_n 3, 1) := by decide +kernel
theorem dL_law_616 : decode cL_law 616 = .ok (.iconst 1, 1) := by decide +kernel
theorem dL_law_617 : decode cL_law 617 = .ok (.iadd, 1) := by decide +kernel
theorem dL_law_618 : decode cL_law 618 = .ok (.iaload, 1) := by decide +kernel
theorem dL_law_619 : decode cL_law 619 = .ok (.aload_n 0, 1) := by decide +kernel
theorem dL_law_620 : decode cL_law 620 = .ok (.iload_n 3, 1) := by decide +kernel
theorem dL_law_621 : decode cL_law 621 = .ok (.iconst 2, 1) := by decide +kernel
theorem dL_law_622 : decode cL_law 622 = .ok (.iadd, 1) := by decide +kernel
theorem dL_law_623 : decode cL_law 623 = .ok (.iaload, 1) := by decide +kernel
theorem dL_law_624 : decode cL_law 624 = .ok (.invokevirtual 88, 3) := by decide +kernel
theorem dL_law_627 : decode cL_law 627 = .ok (.if_icmp .eq 156, 3) := by decide +kernel
theorem dL_law_630 : decode cL_law 630 = .ok (.iconst 0, 1) := by decide +kernel
theorem dL_law_631 : decode cL_law 631 = .ok (.ireturn, 1) := by decide +kernel
theorem dL_law_632 : decode cL_law 632 = .ok (.aload_n 1, 1) := by decide +kernel
theorem dL_law_633 : decode cL_law 633 = .ok (.aload_n 0, 1) := by decide +kernel
theorem dL_law_634 : decode cL_law 634 = .ok (.iload_n 3, 1) := by decide +kernel
theorem dL_law_635 : decode cL_law 635 = .ok (.iconst 1, 1) := by decide +kernel
theorem dL_law_636 : decode cL_law 636 = .ok (.iadd, 1) := by decide +kernel
theorem dL_law_637 : decode cL_law 637 = .ok (.iaload, 1) := by decide +kernel
theorem dL_law_638 : decode cL_law 638 = .ok (.invokevirtual 89, 3) := by decide +kernel
theorem dL_law_641 : decode cL_law 641 = .ok (.aload_n 2, 1) := by decide +kernel
theorem dL_law_642 : decode cL_law 642 = .ok (.aload_n 0, 1) := by decide +kernel
theorem dL_law_643 : decode cL_law 643 = .ok (.iload_n 3, 1) := by decide +kernel
theorem dL_law_644 : decode cL_law 644 = .ok (.iconst 1, 1) := by decide +kernel
theorem dL_law_645 : decode cL_law 645 = .ok (.iadd, 1) := by decide +kernel
theorem dL_law_646 : decode cL_law 646 = .ok (.iaload, 1) := by decide +kernel
theorem dL_law_647 : decode cL_law 647 = .ok (.invokevirtual 92, 3) := by decide +kernel
theorem dL_law_650 : decode cL_law 650 = .ok (.if_icmp .eq 133, 3) := by decide +kernel
theorem dL_law_653 : decode cL_law 653 = .ok (.iconst 0, 1) := by decide +kernel
theorem dL_law_654 : decode cL_law 654 = .ok (.ireturn, 1) := by decide +kernel
theorem dL_law_655 : decode cL_law 655 = .ok (.aload_n 1, 1) := by decide +kernel
theorem dL_law_656 : decode cL_law 656 = .ok (.aload_n 0, 1) := by decide +kernel
theorem dL_law_657 : decode cL_law 657 = .ok (.iload_n 3, 1) := by decide +kernel
theorem dL_law_658 : decode cL_law 658 = .ok (.iconst 1, 1) := by decide +kernel
theorem dL_law_659 : decode cL_law 659 = .ok (.iadd, 1) := by decide +kernel
theorem dL_law_660 : decode cL_law 660 = .ok (.iaload, 1) := by decide +kernel
theorem dL_law_661 : decode cL_law 661 = .ok (.aload_n 0, 1) := by decide +kernel
theorem dL_law_662 : decode cL_law 662 = .ok (.iload_n 3, 1) := by decide +kernel
theorem dL_law_663 : decode cL_law 663 = .ok (.iconst 2, 1) := by decide +kernel
theorem dL_law_664 : decode cL_law 664 = .ok (.iadd, 1) := by decide +kernel
theorem dL_law_665 : decode cL_law 665 = .ok (.iaload, 1) := by decide +kernel
theorem dL_law_666 : decode cL_law 666 = .ok (.invokevirtual 93, 3) := by decide +kernel
theorem dL_law_669 : decode cL_law 669 = .ok (.aload_n 2, 1) := by decide +kernel
theorem dL_law_670 : decode cL_law 670 = .ok (.aload_n 0, 1) := by decide +kernel
theorem dL_law_671 : decode cL_law 671 = .ok (.iload_n 3, 1) := by decide +kernel
theorem dL_law_672 : decode cL_law 672 = .ok (.iconst 1, 1) := by decide +kernel
theorem dL_law_673 : decode cL_law 673 = .ok (.iadd, 1) := by decide +kernel
theorem dL_law_674 : decode cL_law 674 = .ok (.iaload, 1) := by decide +kernel
theorem dL_law_675 : decode cL_law 675 = .ok (.aload_n 0, 1) := by decide +kernel
theorem dL_law_676 : decode cL_law 676 = .ok (.iload_n 3, 1) := by decide +kernel
theorem dL_law_677 : decode cL_law 677 = .ok (.iconst 2, 1) := by decide +kernel
theorem dL_law_678 : decode cL_law 678 = .ok (.iadd, 1) := by decide +kernel
theorem dL_law_679 : decode cL_law 679 = .ok (.iaload, 1) := by decide +kernel
theorem dL_law_680 : decode cL_law 680 = .ok (.invokevirtual 96, 3) := by decide +kernel
theorem dL_law_683 : decode cL_law 683 = .ok (.if_icmp .eq 100, 3) := by decide +kernel
theorem dL_law_686 : decode cL_law 686 = .ok (.iconst 0, 1) := by decide +kernel
theorem dL_law_687 : decode cL_law 687 = .ok (.ireturn, 1) := by decide +kernel
theorem dL_law_688 : decode cL_law 688 = .ok (.aload_n 1, 1) := by decide +kernel
theorem dL_law_689 : decode cL_law 689 = .ok (.invokevirtual 97, 3) := by decide +kernel
theorem dL_law_692 : decode cL_law 692 = .ok (.aload_n 2, 1) := by decide +kernel
theorem dL_law_693 : decode cL_law 693 = .ok (.invokevirtual 100, 3) := by decide +kernel
theorem dL_law_696 : decode cL_law 696 = .ok (.if_icmp .eq 87, 3) := by decide +kernel
theorem dL_law_699 : decode cL_law 699 = .ok (.iconst 0, 1) := by decide +kernel
theorem dL_law_700 : decode cL_law 700 = .ok (.ireturn, 1) := by decide +kernel
theorem dL_law_701 : decode cL_law 701 = .ok (.aload_n 1, 1) := by decide +kernel
theorem dL_law_702 : decode cL_law 702 = .ok (.invokevirtual 101, 3) := by decide +kernel
theorem dL_law_705 : decode cL_law 705 = .ok (.aload_n 2, 1) := by decide +kernel
theorem dL_law_706 : decode cL_law 706 = .ok (.invokevirtual 104, 3) := by decide +kernel
theorem dL_law_709 : decode cL_law 709 = .ok (.if_icmp .eq 74, 3) := by decide +kernel
theorem dL_law_712 : decode cL_law 712 = .ok (.iconst 0, 1) := by decide +kernel
theorem dL_law_713 : decode cL_law 713 = .ok (.ireturn, 1) := by decide +kernel
theorem dL_law_714 : decode cL_law 714 = .ok (.aload_n 1, 1) := by decide +kernel
theorem dL_law_715 : decode cL_law 715 = .ok (.aload_n 0, 1) := by decide +kernel
theorem dL_law_716 : decode cL_law 716 = .ok (.iload_n 3, 1) := by decide +kernel
theorem dL_law_717 : decode cL_law 717 = .ok (.iconst 1, 1) := by decide +kernel
theorem dL_law_718 : decode cL_law 718 = .ok (.iadd, 1) := by decide +kernel
theorem dL_law_719 : decode cL_law 719 = .ok (.iaload, 1) := by decide +kernel
theorem dL_law_720 : decode cL_law 720 = .ok (.invokevirtual 105, 3) := by decide +kernel
theorem dL_law_723 : decode cL_law 723 = .ok (.aload_n 2, 1) := by decide +kernel
theorem dL_law_724 : decode cL_law 724 = .ok (.aload_n 0, 1) := by decide +kernel
theorem dL_law_725 : decode cL_law 725 = .ok (.iload_n 3, 1) := by decide +kernel
theorem dL_law_726 : decode cL_law 726 = .ok (.iconst 1, 1) := by decide +kernel
theorem dL_law_727 : decode cL_law 727 = .ok (.iadd, 1) := by decide +kernel
theorem dL_law_728 : decode cL_law 728 = .ok (.iaload, 1) := by decide +kernel
theorem dL_law_729 : decode cL_law 729 = .ok (.invokevirtual 108, 3) := by decide +kernel
theorem dL_law_732 : decode cL_law 732 = .ok (.if_icmp .eq 51, 3) := by decide +kernel
theorem dL_law_735 : decode cL_law 735 = .ok (.iconst 0, 1) := by decide +kernel
theorem dL_law_736 : decode cL_law 736 = .ok (.ireturn, 1) := by decide +kernel
theorem dL_law_737 : decode cL_law 737 = .ok (.aload_n 1, 1) := by decide +kernel
theorem dL_law_738 : decode cL_law 738 = .ok (.aload_n 0, 1) := by decide +kernel
theorem dL_law_739 : decode cL_law 739 = .ok (.iload_n 3, 1) := by decide +kernel
theorem dL_law_740 : decode cL_law 740 = .ok (.iconst 1, 1) := by decide +kernel
theorem dL_law_741 : decode cL_law 741 = .ok (.iadd, 1) := by decide +kernel
theorem dL_law_742 : decode cL_law 742 = .ok (.iaload, 1) := by decide +kernel
theorem dL_law_743 : decode cL_law 743 = .ok (.invokevirtual 109, 3) := by decide +kernel
theorem dL_law_746 : decode cL_law 746 = .ok (.aload_n 2, 1) := by decide +kernel
theorem dL_law_747 : decode cL_law 747 = .ok (.aload_n 0, 1) := by decide +kernel
theorem dL_law_748 : decode cL_law 748 = .ok (.iload_n 3, 1) := by decide +kernel
theorem dL_law_749 : decode cL_law 749 = .ok (.iconst 1, 1) := by decide +kernel
theorem dL_law_750 : decode cL_law 750 = .ok (.iadd, 1) := by decide +kernel
theorem dL_law_751 : decode cL_law 751 = .ok (.iaload, 1) := by decide +kernel
theorem dL_law_752 : decode cL_law 752 = .ok (.invokevirtual 112, 3) := by decide +kernel
theorem dL_law_755 : decode cL_law 755 = .ok (.if_icmp .eq 28, 3) := by decide +kernel
theorem dL_law_758 : decode cL_law 758 = .ok (.iconst 0, 1) := by decide +kernel
theorem dL_law_759 : decode cL_law 759 = .ok (.ireturn, 1) := by decide +kernel
theorem dL_law_760 : decode cL_law 760 = .ok (.aload_n 1, 1) := by decide +kernel
theorem dL_law_761 : decode cL_law 761 = .ok (.aload_n 0, 1) := by decide +kernel
theorem dL_law_762 : decode cL_law 762 = .ok (.iload_n 3, 1) := by decide +kernel
theorem dL_law_763 : decode cL_law 763 = .ok (.iconst 1, 1) := by decide +kernel
theorem dL_law_764 : decode cL_law 764 = .ok (.iadd, 1) := by decide +kernel
theorem dL_law_765 : decode cL_law 765 = .ok (.iaload, 1) := by decide +kernel
theorem dL_law_766 : decode cL_law 766 = .ok (.invokevirtual 113, 3) := by decide +kernel
theorem dL_law_769 : decode cL_law 769 = .ok (.aload_n 2, 1) := by decide +kernel
theorem dL_law_770 : decode cL_law 770 = .ok (.aload_n 0, 1) := by decide +kernel
theorem dL_law_771 : decode cL_law 771 = .ok (.iload_n 3, 1) := by decide +kernel
theorem dL_law_772 : decode cL_law 772 = .ok (.iconst 1, 1) := by decide +kernel
theorem dL_law_773 : decode cL_law 773 = .ok (.iadd, 1) := by decide +kernel
theorem dL_law_774 : decode cL_law 774 = .ok (.iaload, 1) := by decide +kernel
theorem dL_law_775 : decode cL_law 775 = .ok (.invokevirtual 116, 3) := by decide +kernel
theorem dL_law_778 : decode cL_law 778 = .ok (.if_icmp .eq 5, 3) := by decide +kernel
theorem dL_law_781 : decode cL_law 781 = .ok (.iconst 0, 1) := by decide +kernel
theorem dL_law_782 : decode cL_law 782 = .ok (.ireturn, 1) := by decide +kernel
theorem dL_law_783 : decode cL_law 783 = .ok (.iinc 3 4, 3) := by decide +kernel
theorem dL_law_786 : decode cL_law 786 = .ok (.goto (-768), 3) := by decide +kernel
theorem dL_law_789 : decode cL_law 789 = .ok (.iconst 1, 1) := by decide +kernel
theorem dL_law_790 : decode cL_law 790 = .ok (.ireturn, 1) := by decide +kernel
end
section
theorem zz_probe : 1 + 1 = 2 := rfl
end
