/-! PART 06 (printed by wip/whole/gen/facts.py): first PART A of kit/laws/SKELETON.whole.lean.txt, pasted; then what the words of the tables say of every link and method. -/
-- ===== PART A: goes FIRST, ahead of the names: the tables' words, and 'selects' of the private methods out of them =====
/-- a private method of a class that the tables say can be made, by its rows of tables_1 -/
def lw_okq (q : MethodName × Nat) : Prop := (q.1.cls ≠ "java/lang/invoke/MethodHandle" ∧ q.1.cls ≠ "java/lang/invoke/VarHandle") ∧ Cond.instantiable q.1.cls q.2 ∈ tables_1 ∧ Cond.privateMethod q.1 ∈ tables_1 ∧ Cond.instanceMethod q.1 ∈ tables_1
theorem lw_p0 : lw_okq (⟨"OneSledgeForTwo", "refuse", "(I)I"⟩, 11) := ⟨⟨by decide +kernel, by decide +kernel⟩, List.mem_of_getElem? (i := 17) (by decide +kernel), List.mem_of_getElem? (i := 283) (by decide +kernel), List.mem_of_getElem? (i := 284) (by decide +kernel)⟩
theorem lw_p1 : lw_okq (⟨"OneSledgeForTwo", "rowRefusal", "(I)I"⟩, 11) := ⟨⟨by decide +kernel, by decide +kernel⟩, List.mem_of_getElem? (i := 17) (by decide +kernel), List.mem_of_getElem? (i := 295) (by decide +kernel), List.mem_of_getElem? (i := 296) (by decide +kernel)⟩
theorem lw_p2 : lw_okq (⟨"OneSledgeForTwo", "copyRefusal", "(IIIII)I"⟩, 11) := ⟨⟨by decide +kernel, by decide +kernel⟩, List.mem_of_getElem? (i := 17) (by decide +kernel), List.mem_of_getElem? (i := 320) (by decide +kernel), List.mem_of_getElem? (i := 321) (by decide +kernel)⟩
theorem lw_p3 : lw_okq (⟨"OneSledgeForTwo", "saying", "(LOneSledgeForTwo$Rider;I)I"⟩, 11) := ⟨⟨by decide +kernel, by decide +kernel⟩, List.mem_of_getElem? (i := 17) (by decide +kernel), List.mem_of_getElem? (i := 361) (by decide +kernel), List.mem_of_getElem? (i := 362) (by decide +kernel)⟩
theorem lw_p4 : lw_okq (⟨"OneSledgeForTwo$Reader", "readItem", "()V"⟩, 6) := ⟨⟨by decide +kernel, by decide +kernel⟩, List.mem_of_getElem? (i := 146) (by decide +kernel), List.mem_of_getElem? (i := 437) (by decide +kernel), List.mem_of_getElem? (i := 438) (by decide +kernel)⟩
theorem lw_p5 : lw_okq (⟨"OneSledgeForTwo$Reader", "readWord", "()I"⟩, 6) := ⟨⟨by decide +kernel, by decide +kernel⟩, List.mem_of_getElem? (i := 146) (by decide +kernel), List.mem_of_getElem? (i := 441) (by decide +kernel), List.mem_of_getElem? (i := 442) (by decide +kernel)⟩
theorem lw_p6 : lw_okq (⟨"OneSledgeForTwo$Reader", "letterAt", "(I)I"⟩, 6) := ⟨⟨by decide +kernel, by decide +kernel⟩, List.mem_of_getElem? (i := 146) (by decide +kernel), List.mem_of_getElem? (i := 466) (by decide +kernel), List.mem_of_getElem? (i := 467) (by decide +kernel)⟩
theorem lw_p7 : lw_okq (⟨"OneSledgeForTwo$Reader", "readRider", "(I)V"⟩, 6) := ⟨⟨by decide +kernel, by decide +kernel⟩, List.mem_of_getElem? (i := 146) (by decide +kernel), List.mem_of_getElem? (i := 511) (by decide +kernel), List.mem_of_getElem? (i := 512) (by decide +kernel)⟩
theorem lw_p8 : lw_okq (⟨"OneSledgeForTwo$Reader", "readNumber", "(II)I"⟩, 6) := ⟨⟨by decide +kernel, by decide +kernel⟩, List.mem_of_getElem? (i := 146) (by decide +kernel), List.mem_of_getElem? (i := 516) (by decide +kernel), List.mem_of_getElem? (i := 517) (by decide +kernel)⟩
theorem lw_p9 : lw_okq (⟨"OneSledgeForTwo$Reader", "expect", "(C)V"⟩, 6) := ⟨⟨by decide +kernel, by decide +kernel⟩, List.mem_of_getElem? (i := 146) (by decide +kernel), List.mem_of_getElem? (i := 520) (by decide +kernel), List.mem_of_getElem? (i := 521) (by decide +kernel)⟩
theorem lw_p10 : lw_okq (⟨"OneSledgeForTwo$Reader", "place", "(I)V"⟩, 6) := ⟨⟨by decide +kernel, by decide +kernel⟩, List.mem_of_getElem? (i := 146) (by decide +kernel), List.mem_of_getElem? (i := 525) (by decide +kernel), List.mem_of_getElem? (i := 526) (by decide +kernel)⟩
theorem lw_p11 : lw_okq (⟨"OneSledgeForTwo$Hill", "bringSledge", "(I)V"⟩, 10) := ⟨⟨by decide +kernel, by decide +kernel⟩, List.mem_of_getElem? (i := 25) (by decide +kernel), List.mem_of_getElem? (i := 572) (by decide +kernel), List.mem_of_getElem? (i := 573) (by decide +kernel)⟩
theorem lw_p12 : lw_okq (⟨"OneSledgeForTwo$Lookahead", "compare", "(III)V"⟩, 6) := ⟨⟨by decide +kernel, by decide +kernel⟩, List.mem_of_getElem? (i := 175) (by decide +kernel), List.mem_of_getElem? (i := 622) (by decide +kernel), List.mem_of_getElem? (i := 623) (by decide +kernel)⟩
theorem lw_p13 : lw_okq (⟨"OneSledgeForTwo$Sharing", "together", "()I"⟩, 3) := ⟨⟨by decide +kernel, by decide +kernel⟩, List.mem_of_getElem? (i := 127) (by decide +kernel), List.mem_of_getElem? (i := 640) (by decide +kernel), List.mem_of_getElem? (i := 641) (by decide +kernel)⟩
theorem lw_p14 : lw_okq (⟨"OneSledgeForTwo$Sharing", "inTurns", "()I"⟩, 3) := ⟨⟨by decide +kernel, by decide +kernel⟩, List.mem_of_getElem? (i := 127) (by decide +kernel), List.mem_of_getElem? (i := 646) (by decide +kernel), List.mem_of_getElem? (i := 647) (by decide +kernel)⟩
theorem lw_p15 : lw_okq (⟨"OneSledgeForTwo$Sharing", "rested", "()I"⟩, 3) := ⟨⟨by decide +kernel, by decide +kernel⟩, List.mem_of_getElem? (i := 127) (by decide +kernel), List.mem_of_getElem? (i := 650) (by decide +kernel), List.mem_of_getElem? (i := 651) (by decide +kernel)⟩
def lw_privs_1 : List (MethodName × Nat) := [(⟨"OneSledgeForTwo", "refuse", "(I)I"⟩, 11), (⟨"OneSledgeForTwo", "rowRefusal", "(I)I"⟩, 11), (⟨"OneSledgeForTwo", "copyRefusal", "(IIIII)I"⟩, 11), (⟨"OneSledgeForTwo", "saying", "(LOneSledgeForTwo$Rider;I)I"⟩, 11), (⟨"OneSledgeForTwo$Reader", "readItem", "()V"⟩, 6), (⟨"OneSledgeForTwo$Reader", "readWord", "()I"⟩, 6), (⟨"OneSledgeForTwo$Reader", "letterAt", "(I)I"⟩, 6), (⟨"OneSledgeForTwo$Reader", "readRider", "(I)V"⟩, 6), (⟨"OneSledgeForTwo$Reader", "readNumber", "(II)I"⟩, 6), (⟨"OneSledgeForTwo$Reader", "expect", "(C)V"⟩, 6), (⟨"OneSledgeForTwo$Reader", "place", "(I)V"⟩, 6), (⟨"OneSledgeForTwo$Hill", "bringSledge", "(I)V"⟩, 10), (⟨"OneSledgeForTwo$Lookahead", "compare", "(III)V"⟩, 6), (⟨"OneSledgeForTwo$Sharing", "together", "()I"⟩, 3), (⟨"OneSledgeForTwo$Sharing", "inTurns", "()I"⟩, 3), (⟨"OneSledgeForTwo$Sharing", "rested", "()I"⟩, 3)]
theorem lw_r1 : ∀ q ∈ lw_privs_1, lw_okq q := List.forall_mem_cons.mpr ⟨lw_p0, List.forall_mem_cons.mpr ⟨lw_p1, List.forall_mem_cons.mpr ⟨lw_p2, List.forall_mem_cons.mpr ⟨lw_p3, List.forall_mem_cons.mpr ⟨lw_p4, List.forall_mem_cons.mpr ⟨lw_p5, List.forall_mem_cons.mpr ⟨lw_p6, List.forall_mem_cons.mpr ⟨lw_p7, List.forall_mem_cons.mpr ⟨lw_p8, List.forall_mem_cons.mpr ⟨lw_p9, List.forall_mem_cons.mpr ⟨lw_p10, List.forall_mem_cons.mpr ⟨lw_p11, List.forall_mem_cons.mpr ⟨lw_p12, List.forall_mem_cons.mpr ⟨lw_p13, List.forall_mem_cons.mpr ⟨lw_p14, List.forall_mem_cons.mpr ⟨lw_p15, fun _ h => absurd h List.not_mem_nil⟩⟩⟩⟩⟩⟩⟩⟩⟩⟩⟩⟩⟩⟩⟩⟩
theorem lw_p16 : lw_okq (⟨"OneSledgeForTwo$Sharing", "leastTired", "(I)I"⟩, 3) := ⟨⟨by decide +kernel, by decide +kernel⟩, List.mem_of_getElem? (i := 127) (by decide +kernel), List.mem_of_getElem? (i := 655) (by decide +kernel), List.mem_of_getElem? (i := 656) (by decide +kernel)⟩
theorem lw_p17 : lw_okq (⟨"OneSledgeForTwo$Sharing", "strongest", "()I"⟩, 3) := ⟨⟨by decide +kernel, by decide +kernel⟩, List.mem_of_getElem? (i := 127) (by decide +kernel), List.mem_of_getElem? (i := 659) (by decide +kernel), List.mem_of_getElem? (i := 660) (by decide +kernel)⟩
theorem lw_p18 : lw_okq (⟨"OneSledgeForTwo$Sharing", "quickest", "(I)I"⟩, 3) := ⟨⟨by decide +kernel, by decide +kernel⟩, List.mem_of_getElem? (i := 127) (by decide +kernel), List.mem_of_getElem? (i := 663) (by decide +kernel), List.mem_of_getElem? (i := 664) (by decide +kernel)⟩
theorem lw_p19 : lw_okq (⟨"OneSledgeForTwo", "runsMore", "(I)I"⟩, 11) := ⟨⟨by decide +kernel, by decide +kernel⟩, List.mem_of_getElem? (i := 17) (by decide +kernel), List.mem_of_getElem? (i := 673) (by decide +kernel), List.mem_of_getElem? (i := 674) (by decide +kernel)⟩
theorem lw_p20 : lw_okq (⟨"OneSledgeForTwo", "hadSo", "(LOneSledgeForTwo$Shelf;)Z"⟩, 11) := ⟨⟨by decide +kernel, by decide +kernel⟩, List.mem_of_getElem? (i := 17) (by decide +kernel), List.mem_of_getElem? (i := 693) (by decide +kernel), List.mem_of_getElem? (i := 694) (by decide +kernel)⟩
theorem lw_p21 : lw_okq (⟨"OneSledgeForTwo", "toldRefusal", "(IIZ)I"⟩, 11) := ⟨⟨by decide +kernel, by decide +kernel⟩, List.mem_of_getElem? (i := 17) (by decide +kernel), List.mem_of_getElem? (i := 713) (by decide +kernel), List.mem_of_getElem? (i := 714) (by decide +kernel)⟩
theorem lw_p22 : lw_okq (⟨"OneSledgeForTwo", "firstWrong", "(LOneSledgeForTwo$Shelf;I)I"⟩, 11) := ⟨⟨by decide +kernel, by decide +kernel⟩, List.mem_of_getElem? (i := 17) (by decide +kernel), List.mem_of_getElem? (i := 717) (by decide +kernel), List.mem_of_getElem? (i := 718) (by decide +kernel)⟩
theorem lw_p23 : lw_okq (⟨"OneSledgeForTwoModel", "isShelf", "(I)Z"⟩, 46) := ⟨⟨by decide +kernel, by decide +kernel⟩, List.mem_of_getElem? (i := 822) (by decide +kernel), List.mem_of_getElem? (i := 971) (by decide +kernel), List.mem_of_getElem? (i := 972) (by decide +kernel)⟩
theorem lw_p24 : lw_okq (⟨"OneSledgeForTwoModel", "no", "(I)I"⟩, 46) := ⟨⟨by decide +kernel, by decide +kernel⟩, List.mem_of_getElem? (i := 822) (by decide +kernel), List.mem_of_getElem? (i := 975) (by decide +kernel), List.mem_of_getElem? (i := 976) (by decide +kernel)⟩
theorem lw_p25 : lw_okq (⟨"OneSledgeForTwoModel", "isRider", "(I)Z"⟩, 46) := ⟨⟨by decide +kernel, by decide +kernel⟩, List.mem_of_getElem? (i := 822) (by decide +kernel), List.mem_of_getElem? (i := 995) (by decide +kernel), List.mem_of_getElem? (i := 996) (by decide +kernel)⟩
theorem lw_p26 : lw_okq (⟨"OneSledgeForTwoModel", "down", "(I)I"⟩, 46) := ⟨⟨by decide +kernel, by decide +kernel⟩, List.mem_of_getElem? (i := 822) (by decide +kernel), List.mem_of_getElem? (i := 1007) (by decide +kernel), List.mem_of_getElem? (i := 1008) (by decide +kernel)⟩
theorem lw_p27 : lw_okq (⟨"OneSledgeForTwoModel", "one", "(I)I"⟩, 46) := ⟨⟨by decide +kernel, by decide +kernel⟩, List.mem_of_getElem? (i := 822) (by decide +kernel), List.mem_of_getElem? (i := 1011) (by decide +kernel), List.mem_of_getElem? (i := 1012) (by decide +kernel)⟩
theorem lw_p28 : lw_okq (⟨"OneSledgeForTwoModel", "pull", "(I)I"⟩, 46) := ⟨⟨by decide +kernel, by decide +kernel⟩, List.mem_of_getElem? (i := 822) (by decide +kernel), List.mem_of_getElem? (i := 1015) (by decide +kernel), List.mem_of_getElem? (i := 1016) (by decide +kernel)⟩
theorem lw_p29 : lw_okq (⟨"OneSledgeForTwoModel", "walk", "(I)I"⟩, 46) := ⟨⟨by decide +kernel, by decide +kernel⟩, List.mem_of_getElem? (i := 822) (by decide +kernel), List.mem_of_getElem? (i := 1019) (by decide +kernel), List.mem_of_getElem? (i := 1020) (by decide +kernel)⟩
theorem lw_p30 : lw_okq (⟨"OneSledgeForTwoModel", "adds", "(II)I"⟩, 46) := ⟨⟨by decide +kernel, by decide +kernel⟩, List.mem_of_getElem? (i := 822) (by decide +kernel), List.mem_of_getElem? (i := 1027) (by decide +kernel), List.mem_of_getElem? (i := 1028) (by decide +kernel)⟩
theorem lw_p31 : lw_okq (⟨"OneSledgeForTwoModel", "areSledges", "(II)Z"⟩, 46) := ⟨⟨by decide +kernel, by decide +kernel⟩, List.mem_of_getElem? (i := 822) (by decide +kernel), List.mem_of_getElem? (i := 1043) (by decide +kernel), List.mem_of_getElem? (i := 1044) (by decide +kernel)⟩
def lw_privs_2 : List (MethodName × Nat) := [(⟨"OneSledgeForTwo$Sharing", "leastTired", "(I)I"⟩, 3), (⟨"OneSledgeForTwo$Sharing", "strongest", "()I"⟩, 3), (⟨"OneSledgeForTwo$Sharing", "quickest", "(I)I"⟩, 3), (⟨"OneSledgeForTwo", "runsMore", "(I)I"⟩, 11), (⟨"OneSledgeForTwo", "hadSo", "(LOneSledgeForTwo$Shelf;)Z"⟩, 11), (⟨"OneSledgeForTwo", "toldRefusal", "(IIZ)I"⟩, 11), (⟨"OneSledgeForTwo", "firstWrong", "(LOneSledgeForTwo$Shelf;I)I"⟩, 11), (⟨"OneSledgeForTwoModel", "isShelf", "(I)Z"⟩, 46), (⟨"OneSledgeForTwoModel", "no", "(I)I"⟩, 46), (⟨"OneSledgeForTwoModel", "isRider", "(I)Z"⟩, 46), (⟨"OneSledgeForTwoModel", "down", "(I)I"⟩, 46), (⟨"OneSledgeForTwoModel", "one", "(I)I"⟩, 46), (⟨"OneSledgeForTwoModel", "pull", "(I)I"⟩, 46), (⟨"OneSledgeForTwoModel", "walk", "(I)I"⟩, 46), (⟨"OneSledgeForTwoModel", "adds", "(II)I"⟩, 46), (⟨"OneSledgeForTwoModel", "areSledges", "(II)Z"⟩, 46)]
theorem lw_r2 : ∀ q ∈ lw_privs_2, lw_okq q := List.forall_mem_cons.mpr ⟨lw_p16, List.forall_mem_cons.mpr ⟨lw_p17, List.forall_mem_cons.mpr ⟨lw_p18, List.forall_mem_cons.mpr ⟨lw_p19, List.forall_mem_cons.mpr ⟨lw_p20, List.forall_mem_cons.mpr ⟨lw_p21, List.forall_mem_cons.mpr ⟨lw_p22, List.forall_mem_cons.mpr ⟨lw_p23, List.forall_mem_cons.mpr ⟨lw_p24, List.forall_mem_cons.mpr ⟨lw_p25, List.forall_mem_cons.mpr ⟨lw_p26, List.forall_mem_cons.mpr ⟨lw_p27, List.forall_mem_cons.mpr ⟨lw_p28, List.forall_mem_cons.mpr ⟨lw_p29, List.forall_mem_cons.mpr ⟨lw_p30, List.forall_mem_cons.mpr ⟨lw_p31, fun _ h => absurd h List.not_mem_nil⟩⟩⟩⟩⟩⟩⟩⟩⟩⟩⟩⟩⟩⟩⟩⟩
theorem lw_p32 : lw_okq (⟨"OneSledgeForTwoModel", "isAsked", "(II)Z"⟩, 46) := ⟨⟨by decide +kernel, by decide +kernel⟩, List.mem_of_getElem? (i := 822) (by decide +kernel), List.mem_of_getElem? (i := 1051) (by decide +kernel), List.mem_of_getElem? (i := 1052) (by decide +kernel)⟩
theorem lw_p33 : lw_okq (⟨"OneSledgeForTwoModel", "asks", "(II)I"⟩, 46) := ⟨⟨by decide +kernel, by decide +kernel⟩, List.mem_of_getElem? (i := 822) (by decide +kernel), List.mem_of_getElem? (i := 1055) (by decide +kernel), List.mem_of_getElem? (i := 1056) (by decide +kernel)⟩
theorem lw_p34 : lw_okq (⟨"OneSledgeForTwoModel", "wanted", "(I)I"⟩, 46) := ⟨⟨by decide +kernel, by decide +kernel⟩, List.mem_of_getElem? (i := 822) (by decide +kernel), List.mem_of_getElem? (i := 1063) (by decide +kernel), List.mem_of_getElem? (i := 1064) (by decide +kernel)⟩
theorem lw_p35 : lw_okq (⟨"OneSledgeForTwoModel", "all", "([IIZ)V"⟩, 46) := ⟨⟨by decide +kernel, by decide +kernel⟩, List.mem_of_getElem? (i := 822) (by decide +kernel), List.mem_of_getElem? (i := 1067) (by decide +kernel), List.mem_of_getElem? (i := 1068) (by decide +kernel)⟩
theorem lw_p36 : lw_okq (⟨"OneSledgeForTwoModel", "carries", "([I[IIZ)I"⟩, 46) := ⟨⟨by decide +kernel, by decide +kernel⟩, List.mem_of_getElem? (i := 822) (by decide +kernel), List.mem_of_getElem? (i := 1071) (by decide +kernel), List.mem_of_getElem? (i := 1072) (by decide +kernel)⟩
theorem lw_p37 : lw_okq (⟨"OneSledgeForTwoModel", "item", "()Z"⟩, 46) := ⟨⟨by decide +kernel, by decide +kernel⟩, List.mem_of_getElem? (i := 822) (by decide +kernel), List.mem_of_getElem? (i := 1075) (by decide +kernel), List.mem_of_getElem? (i := 1076) (by decide +kernel)⟩
theorem lw_p38 : lw_okq (⟨"OneSledgeForTwoModel", "isWordAt", "(I)Z"⟩, 46) := ⟨⟨by decide +kernel, by decide +kernel⟩, List.mem_of_getElem? (i := 822) (by decide +kernel), List.mem_of_getElem? (i := 1079) (by decide +kernel), List.mem_of_getElem? (i := 1080) (by decide +kernel)⟩
theorem lw_p39 : lw_okq (⟨"OneSledgeForTwoModel", "wrong", "(I)Z"⟩, 46) := ⟨⟨by decide +kernel, by decide +kernel⟩, List.mem_of_getElem? (i := 822) (by decide +kernel), List.mem_of_getElem? (i := 1083) (by decide +kernel), List.mem_of_getElem? (i := 1084) (by decide +kernel)⟩
theorem lw_p40 : lw_okq (⟨"OneSledgeForTwoModel", "word", "()I"⟩, 46) := ⟨⟨by decide +kernel, by decide +kernel⟩, List.mem_of_getElem? (i := 822) (by decide +kernel), List.mem_of_getElem? (i := 1087) (by decide +kernel), List.mem_of_getElem? (i := 1088) (by decide +kernel)⟩
theorem lw_p41 : lw_okq (⟨"OneSledgeForTwoModel", "reads", "()Z"⟩, 46) := ⟨⟨by decide +kernel, by decide +kernel⟩, List.mem_of_getElem? (i := 822) (by decide +kernel), List.mem_of_getElem? (i := 1091) (by decide +kernel), List.mem_of_getElem? (i := 1092) (by decide +kernel)⟩
theorem lw_p42 : lw_okq (⟨"OneSledgeForTwoModel", "isDigit", "()Z"⟩, 46) := ⟨⟨by decide +kernel, by decide +kernel⟩, List.mem_of_getElem? (i := 822) (by decide +kernel), List.mem_of_getElem? (i := 1095) (by decide +kernel), List.mem_of_getElem? (i := 1096) (by decide +kernel)⟩
theorem lw_p43 : lw_okq (⟨"OneSledgeForTwoModel", "isSo", "(II)Z"⟩, 46) := ⟨⟨by decide +kernel, by decide +kernel⟩, List.mem_of_getElem? (i := 822) (by decide +kernel), List.mem_of_getElem? (i := 1099) (by decide +kernel), List.mem_of_getElem? (i := 1100) (by decide +kernel)⟩
theorem lw_p44 : lw_okq (⟨"OneSledgeForTwoModel", "mayBe", "(I)Z"⟩, 46) := ⟨⟨by decide +kernel, by decide +kernel⟩, List.mem_of_getElem? (i := 822) (by decide +kernel), List.mem_of_getElem? (i := 1103) (by decide +kernel), List.mem_of_getElem? (i := 1104) (by decide +kernel)⟩
theorem lw_p45 : lw_okq (⟨"OneSledgeForTwoModel", "isMove", "(I)Z"⟩, 46) := ⟨⟨by decide +kernel, by decide +kernel⟩, List.mem_of_getElem? (i := 822) (by decide +kernel), List.mem_of_getElem? (i := 1107) (by decide +kernel), List.mem_of_getElem? (i := 1108) (by decide +kernel)⟩
theorem lw_p46 : lw_okq (⟨"OneSledgeForTwoModel", "lasts", "(I)I"⟩, 46) := ⟨⟨by decide +kernel, by decide +kernel⟩, List.mem_of_getElem? (i := 822) (by decide +kernel), List.mem_of_getElem? (i := 1111) (by decide +kernel), List.mem_of_getElem? (i := 1112) (by decide +kernel)⟩
theorem lw_p47 : lw_okq (⟨"OneSledgeForTwoModel", "goesDown", "(I)Z"⟩, 46) := ⟨⟨by decide +kernel, by decide +kernel⟩, List.mem_of_getElem? (i := 822) (by decide +kernel), List.mem_of_getElem? (i := 1115) (by decide +kernel), List.mem_of_getElem? (i := 1116) (by decide +kernel)⟩
def lw_privs_3 : List (MethodName × Nat) := [(⟨"OneSledgeForTwoModel", "isAsked", "(II)Z"⟩, 46), (⟨"OneSledgeForTwoModel", "asks", "(II)I"⟩, 46), (⟨"OneSledgeForTwoModel", "wanted", "(I)I"⟩, 46), (⟨"OneSledgeForTwoModel", "all", "([IIZ)V"⟩, 46), (⟨"OneSledgeForTwoModel", "carries", "([I[IIZ)I"⟩, 46), (⟨"OneSledgeForTwoModel", "item", "()Z"⟩, 46), (⟨"OneSledgeForTwoModel", "isWordAt", "(I)Z"⟩, 46), (⟨"OneSledgeForTwoModel", "wrong", "(I)Z"⟩, 46), (⟨"OneSledgeForTwoModel", "word", "()I"⟩, 46), (⟨"OneSledgeForTwoModel", "reads", "()Z"⟩, 46), (⟨"OneSledgeForTwoModel", "isDigit", "()Z"⟩, 46), (⟨"OneSledgeForTwoModel", "isSo", "(II)Z"⟩, 46), (⟨"OneSledgeForTwoModel", "mayBe", "(I)Z"⟩, 46), (⟨"OneSledgeForTwoModel", "isMove", "(I)Z"⟩, 46), (⟨"OneSledgeForTwoModel", "lasts", "(I)I"⟩, 46), (⟨"OneSledgeForTwoModel", "goesDown", "(I)Z"⟩, 46)]
theorem lw_r3 : ∀ q ∈ lw_privs_3, lw_okq q := List.forall_mem_cons.mpr ⟨lw_p32, List.forall_mem_cons.mpr ⟨lw_p33, List.forall_mem_cons.mpr ⟨lw_p34, List.forall_mem_cons.mpr ⟨lw_p35, List.forall_mem_cons.mpr ⟨lw_p36, List.forall_mem_cons.mpr ⟨lw_p37, List.forall_mem_cons.mpr ⟨lw_p38, List.forall_mem_cons.mpr ⟨lw_p39, List.forall_mem_cons.mpr ⟨lw_p40, List.forall_mem_cons.mpr ⟨lw_p41, List.forall_mem_cons.mpr ⟨lw_p42, List.forall_mem_cons.mpr ⟨lw_p43, List.forall_mem_cons.mpr ⟨lw_p44, List.forall_mem_cons.mpr ⟨lw_p45, List.forall_mem_cons.mpr ⟨lw_p46, List.forall_mem_cons.mpr ⟨lw_p47, fun _ h => absurd h List.not_mem_nil⟩⟩⟩⟩⟩⟩⟩⟩⟩⟩⟩⟩⟩⟩⟩⟩
theorem lw_p48 : lw_okq (⟨"OneSledgeForTwoModel", "moves", "(I)V"⟩, 46) := ⟨⟨by decide +kernel, by decide +kernel⟩, List.mem_of_getElem? (i := 822) (by decide +kernel), List.mem_of_getElem? (i := 1119) (by decide +kernel), List.mem_of_getElem? (i := 1120) (by decide +kernel)⟩
theorem lw_p49 : lw_okq (⟨"OneSledgeForTwoModel", "pulled", "(I)I"⟩, 46) := ⟨⟨by decide +kernel, by decide +kernel⟩, List.mem_of_getElem? (i := 822) (by decide +kernel), List.mem_of_getElem? (i := 1123) (by decide +kernel), List.mem_of_getElem? (i := 1124) (by decide +kernel)⟩
theorem lw_p50 : lw_okq (⟨"OneSledgeForTwoModel", "countMoves", "()I"⟩, 46) := ⟨⟨by decide +kernel, by decide +kernel⟩, List.mem_of_getElem? (i := 822) (by decide +kernel), List.mem_of_getElem? (i := 1143) (by decide +kernel), List.mem_of_getElem? (i := 1144) (by decide +kernel)⟩
theorem lw_p51 : lw_okq (⟨"OneSledgeForTwoModel", "above", "(I)I"⟩, 46) := ⟨⟨by decide +kernel, by decide +kernel⟩, List.mem_of_getElem? (i := 822) (by decide +kernel), List.mem_of_getElem? (i := 1147) (by decide +kernel), List.mem_of_getElem? (i := 1148) (by decide +kernel)⟩
theorem lw_p52 : lw_okq (⟨"OneSledgeForTwoModel", "moveAt", "(I)I"⟩, 46) := ⟨⟨by decide +kernel, by decide +kernel⟩, List.mem_of_getElem? (i := 822) (by decide +kernel), List.mem_of_getElem? (i := 1151) (by decide +kernel), List.mem_of_getElem? (i := 1152) (by decide +kernel)⟩
theorem lw_p53 : lw_okq (⟨"OneSledgeForTwoModel", "allOf", "([I)I"⟩, 46) := ⟨⟨by decide +kernel, by decide +kernel⟩, List.mem_of_getElem? (i := 822) (by decide +kernel), List.mem_of_getElem? (i := 1159) (by decide +kernel), List.mem_of_getElem? (i := 1160) (by decide +kernel)⟩
theorem lw_p54 : lw_okq (⟨"OneSledgeForTwoModel", "looks", "(II)V"⟩, 46) := ⟨⟨by decide +kernel, by decide +kernel⟩, List.mem_of_getElem? (i := 822) (by decide +kernel), List.mem_of_getElem? (i := 1163) (by decide +kernel), List.mem_of_getElem? (i := 1164) (by decide +kernel)⟩
theorem lw_p55 : lw_okq (⟨"OneSledgeForTwoModel", "isRule", "(I)Z"⟩, 46) := ⟨⟨by decide +kernel, by decide +kernel⟩, List.mem_of_getElem? (i := 822) (by decide +kernel), List.mem_of_getElem? (i := 1171) (by decide +kernel), List.mem_of_getElem? (i := 1172) (by decide +kernel)⟩
theorem lw_p56 : lw_okq (⟨"OneSledgeForTwoModel", "goesOn", "(II)V"⟩, 46) := ⟨⟨by decide +kernel, by decide +kernel⟩, List.mem_of_getElem? (i := 822) (by decide +kernel), List.mem_of_getElem? (i := 1175) (by decide +kernel), List.mem_of_getElem? (i := 1176) (by decide +kernel)⟩
theorem lw_p57 : lw_okq (⟨"OneSledgeForTwoModel", "begins", "()V"⟩, 46) := ⟨⟨by decide +kernel, by decide +kernel⟩, List.mem_of_getElem? (i := 822) (by decide +kernel), List.mem_of_getElem? (i := 1179) (by decide +kernel), List.mem_of_getElem? (i := 1180) (by decide +kernel)⟩
theorem lw_p58 : lw_okq (⟨"OneSledgeForTwoModel", "ruled", "(I)I"⟩, 46) := ⟨⟨by decide +kernel, by decide +kernel⟩, List.mem_of_getElem? (i := 822) (by decide +kernel), List.mem_of_getElem? (i := 1183) (by decide +kernel), List.mem_of_getElem? (i := 1184) (by decide +kernel)⟩
theorem lw_p59 : lw_okq (⟨"OneSledgeForTwoModel", "turned", "(Z)I"⟩, 46) := ⟨⟨by decide +kernel, by decide +kernel⟩, List.mem_of_getElem? (i := 822) (by decide +kernel), List.mem_of_getElem? (i := 1187) (by decide +kernel), List.mem_of_getElem? (i := 1188) (by decide +kernel)⟩
theorem lw_p60 : lw_okq (⟨"OneSledgeForTwoModel", "leastOf", "(I)I"⟩, 46) := ⟨⟨by decide +kernel, by decide +kernel⟩, List.mem_of_getElem? (i := 822) (by decide +kernel), List.mem_of_getElem? (i := 1191) (by decide +kernel), List.mem_of_getElem? (i := 1192) (by decide +kernel)⟩
theorem lw_p61 : lw_okq (⟨"OneSledgeForTwoModel", "firstOf", "(IZ)I"⟩, 46) := ⟨⟨by decide +kernel, by decide +kernel⟩, List.mem_of_getElem? (i := 822) (by decide +kernel), List.mem_of_getElem? (i := 1195) (by decide +kernel), List.mem_of_getElem? (i := 1196) (by decide +kernel)⟩
theorem lw_p62 : lw_okq (⟨"OneSledgeForTwoModel", "fairOf", "(I)I"⟩, 46) := ⟨⟨by decide +kernel, by decide +kernel⟩, List.mem_of_getElem? (i := 822) (by decide +kernel), List.mem_of_getElem? (i := 1203) (by decide +kernel), List.mem_of_getElem? (i := 1204) (by decide +kernel)⟩
theorem lw_p63 : lw_okq (⟨"OneSledgeForTwoModel", "barsOf", "(II)I"⟩, 46) := ⟨⟨by decide +kernel, by decide +kernel⟩, List.mem_of_getElem? (i := 822) (by decide +kernel), List.mem_of_getElem? (i := 1216) (by decide +kernel), List.mem_of_getElem? (i := 1217) (by decide +kernel)⟩
def lw_privs_4 : List (MethodName × Nat) := [(⟨"OneSledgeForTwoModel", "moves", "(I)V"⟩, 46), (⟨"OneSledgeForTwoModel", "pulled", "(I)I"⟩, 46), (⟨"OneSledgeForTwoModel", "countMoves", "()I"⟩, 46), (⟨"OneSledgeForTwoModel", "above", "(I)I"⟩, 46), (⟨"OneSledgeForTwoModel", "moveAt", "(I)I"⟩, 46), (⟨"OneSledgeForTwoModel", "allOf", "([I)I"⟩, 46), (⟨"OneSledgeForTwoModel", "looks", "(II)V"⟩, 46), (⟨"OneSledgeForTwoModel", "isRule", "(I)Z"⟩, 46), (⟨"OneSledgeForTwoModel", "goesOn", "(II)V"⟩, 46), (⟨"OneSledgeForTwoModel", "begins", "()V"⟩, 46), (⟨"OneSledgeForTwoModel", "ruled", "(I)I"⟩, 46), (⟨"OneSledgeForTwoModel", "turned", "(Z)I"⟩, 46), (⟨"OneSledgeForTwoModel", "leastOf", "(I)I"⟩, 46), (⟨"OneSledgeForTwoModel", "firstOf", "(IZ)I"⟩, 46), (⟨"OneSledgeForTwoModel", "fairOf", "(I)I"⟩, 46), (⟨"OneSledgeForTwoModel", "barsOf", "(II)I"⟩, 46)]
theorem lw_r4 : ∀ q ∈ lw_privs_4, lw_okq q := List.forall_mem_cons.mpr ⟨lw_p48, List.forall_mem_cons.mpr ⟨lw_p49, List.forall_mem_cons.mpr ⟨lw_p50, List.forall_mem_cons.mpr ⟨lw_p51, List.forall_mem_cons.mpr ⟨lw_p52, List.forall_mem_cons.mpr ⟨lw_p53, List.forall_mem_cons.mpr ⟨lw_p54, List.forall_mem_cons.mpr ⟨lw_p55, List.forall_mem_cons.mpr ⟨lw_p56, List.forall_mem_cons.mpr ⟨lw_p57, List.forall_mem_cons.mpr ⟨lw_p58, List.forall_mem_cons.mpr ⟨lw_p59, List.forall_mem_cons.mpr ⟨lw_p60, List.forall_mem_cons.mpr ⟨lw_p61, List.forall_mem_cons.mpr ⟨lw_p62, List.forall_mem_cons.mpr ⟨lw_p63, fun _ h => absurd h List.not_mem_nil⟩⟩⟩⟩⟩⟩⟩⟩⟩⟩⟩⟩⟩⟩⟩⟩
theorem lw_p64 : lw_okq (⟨"OneSledgeForTwoModel", "bars", "(II)I"⟩, 46) := ⟨⟨by decide +kernel, by decide +kernel⟩, List.mem_of_getElem? (i := 822) (by decide +kernel), List.mem_of_getElem? (i := 1220) (by decide +kernel), List.mem_of_getElem? (i := 1221) (by decide +kernel)⟩
theorem lw_p65 : lw_okq (⟨"OneSledgeForTwoModel", "noTen", "(I)I"⟩, 46) := ⟨⟨by decide +kernel, by decide +kernel⟩, List.mem_of_getElem? (i := 822) (by decide +kernel), List.mem_of_getElem? (i := 1224) (by decide +kernel), List.mem_of_getElem? (i := 1225) (by decide +kernel)⟩
theorem lw_p66 : lw_okq (⟨"OneSledgeForTwoModel", "wrongIn", "(II)I"⟩, 46) := ⟨⟨by decide +kernel, by decide +kernel⟩, List.mem_of_getElem? (i := 822) (by decide +kernel), List.mem_of_getElem? (i := 1228) (by decide +kernel), List.mem_of_getElem? (i := 1229) (by decide +kernel)⟩
theorem lw_p67 : lw_okq (⟨"OneSledgeForTwoModel", "intAt", "(II)I"⟩, 46) := ⟨⟨by decide +kernel, by decide +kernel⟩, List.mem_of_getElem? (i := 822) (by decide +kernel), List.mem_of_getElem? (i := 1232) (by decide +kernel), List.mem_of_getElem? (i := 1233) (by decide +kernel)⟩
theorem lw_p68 : lw_okq (⟨"OneSledgeForTwoModel", "isFit", "(II)Z"⟩, 46) := ⟨⟨by decide +kernel, by decide +kernel⟩, List.mem_of_getElem? (i := 822) (by decide +kernel), List.mem_of_getElem? (i := 1248) (by decide +kernel), List.mem_of_getElem? (i := 1249) (by decide +kernel)⟩
theorem lw_p69 : lw_okq (⟨"OneSledgeForTwoModel", "later", "(IIIII)I"⟩, 46) := ⟨⟨by decide +kernel, by decide +kernel⟩, List.mem_of_getElem? (i := 822) (by decide +kernel), List.mem_of_getElem? (i := 1256) (by decide +kernel), List.mem_of_getElem? (i := 1257) (by decide +kernel)⟩
theorem lw_p70 : lw_okq (⟨"OneSledgeForTwoModel", "draw", "(I)I"⟩, 46) := ⟨⟨by decide +kernel, by decide +kernel⟩, List.mem_of_getElem? (i := 822) (by decide +kernel), List.mem_of_getElem? (i := 1280) (by decide +kernel), List.mem_of_getElem? (i := 1281) (by decide +kernel)⟩
theorem lw_p71 : lw_okq (⟨"OneSledgeForTwoModel", "riding", "(II)I"⟩, 46) := ⟨⟨by decide +kernel, by decide +kernel⟩, List.mem_of_getElem? (i := 822) (by decide +kernel), List.mem_of_getElem? (i := 1297) (by decide +kernel), List.mem_of_getElem? (i := 1298) (by decide +kernel)⟩
theorem lw_p72 : lw_okq (⟨"OneSledgeForTwoModel", "body", "(I)V"⟩, 46) := ⟨⟨by decide +kernel, by decide +kernel⟩, List.mem_of_getElem? (i := 822) (by decide +kernel), List.mem_of_getElem? (i := 1301) (by decide +kernel), List.mem_of_getElem? (i := 1302) (by decide +kernel)⟩
theorem lw_p73 : lw_okq (⟨"OneSledgeForTwoModel", "pulling", "(II)I"⟩, 46) := ⟨⟨by decide +kernel, by decide +kernel⟩, List.mem_of_getElem? (i := 822) (by decide +kernel), List.mem_of_getElem? (i := 1305) (by decide +kernel), List.mem_of_getElem? (i := 1306) (by decide +kernel)⟩
theorem lw_p74 : lw_okq (⟨"OneSledgeForTwoModel", "waiting", "(II)I"⟩, 46) := ⟨⟨by decide +kernel, by decide +kernel⟩, List.mem_of_getElem? (i := 822) (by decide +kernel), List.mem_of_getElem? (i := 1309) (by decide +kernel), List.mem_of_getElem? (i := 1310) (by decide +kernel)⟩
def lw_privs_5 : List (MethodName × Nat) := [(⟨"OneSledgeForTwoModel", "bars", "(II)I"⟩, 46), (⟨"OneSledgeForTwoModel", "noTen", "(I)I"⟩, 46), (⟨"OneSledgeForTwoModel", "wrongIn", "(II)I"⟩, 46), (⟨"OneSledgeForTwoModel", "intAt", "(II)I"⟩, 46), (⟨"OneSledgeForTwoModel", "isFit", "(II)Z"⟩, 46), (⟨"OneSledgeForTwoModel", "later", "(IIIII)I"⟩, 46), (⟨"OneSledgeForTwoModel", "draw", "(I)I"⟩, 46), (⟨"OneSledgeForTwoModel", "riding", "(II)I"⟩, 46), (⟨"OneSledgeForTwoModel", "body", "(I)V"⟩, 46), (⟨"OneSledgeForTwoModel", "pulling", "(II)I"⟩, 46), (⟨"OneSledgeForTwoModel", "waiting", "(II)I"⟩, 46)]
theorem lw_r5 : ∀ q ∈ lw_privs_5, lw_okq q := List.forall_mem_cons.mpr ⟨lw_p64, List.forall_mem_cons.mpr ⟨lw_p65, List.forall_mem_cons.mpr ⟨lw_p66, List.forall_mem_cons.mpr ⟨lw_p67, List.forall_mem_cons.mpr ⟨lw_p68, List.forall_mem_cons.mpr ⟨lw_p69, List.forall_mem_cons.mpr ⟨lw_p70, List.forall_mem_cons.mpr ⟨lw_p71, List.forall_mem_cons.mpr ⟨lw_p72, List.forall_mem_cons.mpr ⟨lw_p73, List.forall_mem_cons.mpr ⟨lw_p74, fun _ h => absurd h List.not_mem_nil⟩⟩⟩⟩⟩⟩⟩⟩⟩⟩⟩
def lw_privs : List (MethodName × Nat) := lw_privs_1 ++ (lw_privs_2 ++ (lw_privs_3 ++ (lw_privs_4 ++ (lw_privs_5))))
def lw_tbl : List Cond := k2_sels lw_privs ++ tables_1
theorem lw_privs_ok : ∀ q ∈ lw_privs, lw_okq q := by
  show ∀ q ∈ lw_privs_1 ++ (lw_privs_2 ++ (lw_privs_3 ++ (lw_privs_4 ++ (lw_privs_5)))), lw_okq q
  exact List.forall_mem_append.mpr ⟨lw_r1, List.forall_mem_append.mpr ⟨lw_r2, List.forall_mem_append.mpr ⟨lw_r3, List.forall_mem_append.mpr ⟨lw_r4, lw_r5⟩⟩⟩⟩
-- ===== end of PART A; then your names; then what follows =====
/-- the words that every call keeps -/
def ma_tb : List Cond := lw_tbl.filter goodWord
theorem ma_tb_in {w : Cond} (h : w ∈ lw_tbl) (hg : goodWord w = true) : w ∈ ma_tb := List.mem_filter.mpr ⟨h, hg⟩
theorem ma_tb_of {w : Cond} (h : w ∈ ma_tb) : w ∈ lw_tbl ∧ goodWord w = true := List.mem_filter.mp h
theorem wi_1 : ∀ w ∈ tables_1_1, goodWord w = true → w ∈ ma_tb := fun w h hg => ma_tb_in (List.mem_append_right _ (show w ∈ tables_1 from (List.mem_append_left _ h))) hg
theorem wi_2 : ∀ w ∈ tables_1_2, goodWord w = true → w ∈ ma_tb := fun w h hg => ma_tb_in (List.mem_append_right _ (show w ∈ tables_1 from (List.mem_append_right _ (List.mem_append_left _ h)))) hg
theorem wi_3 : ∀ w ∈ tables_1_3, goodWord w = true → w ∈ ma_tb := fun w h hg => ma_tb_in (List.mem_append_right _ (show w ∈ tables_1 from (List.mem_append_right _ (List.mem_append_right _ (List.mem_append_left _ h))))) hg
theorem wi_4 : ∀ w ∈ tables_1_4, goodWord w = true → w ∈ ma_tb := fun w h hg => ma_tb_in (List.mem_append_right _ (show w ∈ tables_1 from (List.mem_append_right _ (List.mem_append_right _ (List.mem_append_right _ (List.mem_append_left _ h)))))) hg
theorem wi_5 : ∀ w ∈ tables_1_5, goodWord w = true → w ∈ ma_tb := fun w h hg => ma_tb_in (List.mem_append_right _ (show w ∈ tables_1 from (List.mem_append_right _ (List.mem_append_right _ (List.mem_append_right _ (List.mem_append_right _ (List.mem_append_left _ h))))))) hg
theorem wi_6 : ∀ w ∈ tables_1_6, goodWord w = true → w ∈ ma_tb := fun w h hg => ma_tb_in (List.mem_append_right _ (show w ∈ tables_1 from (List.mem_append_right _ (List.mem_append_right _ (List.mem_append_right _ (List.mem_append_right _ (List.mem_append_right _ h))))))) hg
def tf_0 : u_T := fun k => match k with
  | 0 => ("OneSledgeForTwo$Hill", "riders", "[LOneSledgeForTwo$Rider;", true)
  | 1 => ("OneSledgeForTwo$Hill", "count", "I", false)
  | 2 => ("OneSledgeForTwo$Hill", "foot", "I", false)
  | 3 => ("OneSledgeForTwo$Hill", "top", "I", false)
  | 4 => ("OneSledgeForTwo$Hill", "minutes", "I", false)
  | 5 => ("OneSledgeForTwo$Hill", "pennies", "I", false)
  | 6 => ("OneSledgeForTwo$Hill", "steep", "I", false)
  | 7 => ("OneSledgeForTwo$Hill", "length", "I", false)
  | 8 => ("OneSledgeForTwo$Hill", "seed", "I", false)
  | _ => ("OneSledgeForTwo$Hill", "moves", "[I", true)
def tf_1 : u_T := fun k => match k with
  | 0 => ("OneSledgeForTwo$Lookahead", "hills", "[LOneSledgeForTwo$Hill;", true)
  | 1 => ("OneSledgeForTwo$Lookahead", "path", "[I", true)
  | 2 => ("OneSledgeForTwo$Lookahead", "best", "[I", true)
  | 3 => ("OneSledgeForTwo$Lookahead", "length", "I", false)
  | 4 => ("OneSledgeForTwo$Lookahead", "runs", "I", false)
  | _ => ("OneSledgeForTwo$Lookahead", "minutes", "I", false)
def tf_2 : u_T := fun k => match k with
  | 0 => ("OneSledgeForTwo$Reader", "hill", "LOneSledgeForTwo$Hill;", true)
  | 1 => ("OneSledgeForTwo$Reader", "letters", "[I", true)
  | 2 => ("OneSledgeForTwo$Reader", "size", "I", false)
  | 3 => ("OneSledgeForTwo$Reader", "at", "I", false)
  | 4 => ("OneSledgeForTwo$Reader", "fault", "I", false)
  | _ => ("OneSledgeForTwo$Reader", "numberAt", "I", false)
def tf_3 : u_T := fun k => match k with
  | 0 => ("OneSledgeForTwo$Rider", "number", "I", true)
  | 1 => ("OneSledgeForTwo$Rider", "kind", "I", false)
  | 2 => ("OneSledgeForTwo$Rider", "a", "I", false)
  | 3 => ("OneSledgeForTwo$Rider", "where", "I", false)
  | 4 => ("OneSledgeForTwo$Rider", "tired", "I", false)
  | 5 => ("OneSledgeForTwo$Rider", "runs", "I", false)
  | _ => ("OneSledgeForTwo$Rider", "waited", "I", false)
def tf_4 : u_T := fun k => match k with
  | 0 => ("OneSledgeForTwo$Sharing", "hill", "LOneSledgeForTwo$Hill;", true)
  | 1 => ("OneSledgeForTwo$Sharing", "lifted", "Z", false)
  | _ => ("OneSledgeForTwo$Sharing", "turn", "I", false)
def tf_5 : u_T := fun k => match k with
  | 0 => ("OneSledgeForTwo$Shelf", "elements", "[J", true)
  | 1 => ("OneSledgeForTwo$Shelf", "content", "I", false)
  | _ => ("OneSledgeForTwo$Shelf", "size", "I", false)
def tf_6 : u_T := fun k => match k with
  | 0 => ("OneSledgeForTwo$Trace", "kept", "[I", true)
  | _ => ("OneSledgeForTwo$Trace", "ran", "I", false)
def tf_7 : u_T := fun k => match k with
  | 0 => ("OneSledgeForTwo", "truth", "LOneSledgeForTwo$Hill;", true)
  | 1 => ("OneSledgeForTwo", "trial", "LOneSledgeForTwo$Hill;", true)
  | 2 => ("OneSledgeForTwo", "kept", "LOneSledgeForTwo$Hill;", true)
  | 3 => ("OneSledgeForTwo", "hasImage", "Z", false)
  | 4 => ("OneSledgeForTwo", "sharing", "LOneSledgeForTwo$Sharing;", true)
  | 5 => ("OneSledgeForTwo", "reader", "LOneSledgeForTwo$Reader;", true)
  | 6 => ("OneSledgeForTwo", "lookahead", "LOneSledgeForTwo$Lookahead;", true)
  | 7 => ("OneSledgeForTwo", "bodies", "LOneSledgeForTwo$Trace;", true)
  | 8 => ("OneSledgeForTwo", "shelves", "[LOneSledgeForTwo$Shelf;", true)
  | 9 => ("OneSledgeForTwo", "refused", "[I", true)
  | _ => ("OneSledgeForTwo", "latestFault", "I", false)
def tf_8 : u_T := fun k => match k with
  | 0 => ("OneSledgeForTwoModel", "many", "I", false)
  | 1 => ("OneSledgeForTwoModel", "foot", "I", false)
  | 2 => ("OneSledgeForTwoModel", "top", "I", false)
  | 3 => ("OneSledgeForTwoModel", "minutes", "I", false)
  | 4 => ("OneSledgeForTwoModel", "pennies", "I", false)
  | 5 => ("OneSledgeForTwoModel", "steep", "I", false)
  | 6 => ("OneSledgeForTwoModel", "length", "I", false)
  | 7 => ("OneSledgeForTwoModel", "seed", "I", false)
  | 8 => ("OneSledgeForTwoModel", "fault", "I", false)
  | 9 => ("OneSledgeForTwoModel", "refused", "[I", true)
  | 10 => ("OneSledgeForTwoModel", "kind", "[I", true)
  | 11 => ("OneSledgeForTwoModel", "part", "[I", true)
  | 12 => ("OneSledgeForTwoModel", "where", "[I", true)
  | 13 => ("OneSledgeForTwoModel", "tired", "[I", true)
  | 14 => ("OneSledgeForTwoModel", "runs", "[I", true)
  | 15 => ("OneSledgeForTwoModel", "waited", "[I", true)
  | 16 => ("OneSledgeForTwoModel", "held", "[I", true)
  | 17 => ("OneSledgeForTwoModel", "sort", "[I", true)
  | 18 => ("OneSledgeForTwoModel", "size", "[I", true)
  | 19 => ("OneSledgeForTwoModel", "shown", "[I", true)
  | 20 => ("OneSledgeForTwoModel", "cells", "[J", true)
  | 21 => ("OneSledgeForTwoModel", "carried", "[J", true)
  | 22 => ("OneSledgeForTwoModel", "words", "[I", true)
  | 23 => ("OneSledgeForTwoModel", "numbers", "[I", true)
  | 24 => ("OneSledgeForTwoModel", "tell", "[I", true)
  | 25 => ("OneSledgeForTwoModel", "base", "I", false)
  | 26 => ("OneSledgeForTwoModel", "at", "I", false)
  | 27 => ("OneSledgeForTwoModel", "end", "I", false)
  | 28 => ("OneSledgeForTwoModel", "number", "I", false)
  | 29 => ("OneSledgeForTwoModel", "wrongAt", "I", false)
  | 30 => ("OneSledgeForTwoModel", "was", "[I", true)
  | 31 => ("OneSledgeForTwoModel", "kept", "[I", true)
  | 32 => ("OneSledgeForTwoModel", "tried", "[I", true)
  | 33 => ("OneSledgeForTwoModel", "ahead", "[I", true)
  | 34 => ("OneSledgeForTwoModel", "chosen", "[I", true)
  | 35 => ("OneSledgeForTwoModel", "best", "[I", true)
  | 36 => ("OneSledgeForTwoModel", "bestMany", "I", false)
  | 37 => ("OneSledgeForTwoModel", "bestRuns", "I", false)
  | 38 => ("OneSledgeForTwoModel", "bestLeft", "I", false)
  | 39 => ("OneSledgeForTwoModel", "turn", "I", false)
  | 40 => ("OneSledgeForTwoModel", "idle", "I", false)
  | 41 => ("OneSledgeForTwoModel", "made", "I", false)
  | 42 => ("OneSledgeForTwoModel", "isDown", "Z", false)
  | 43 => ("OneSledgeForTwoModel", "trace", "[I", true)
  | 44 => ("OneSledgeForTwoModel", "ran", "I", false)
  | _ => ("OneSledgeForTwoModel", "isKept", "Z", false)
def ma_tf (c : Nat) : u_T := match c with
  | 0 => tf_0
  | 1 => tf_1
  | 2 => tf_2
  | 3 => tf_3
  | 4 => tf_4
  | 5 => tf_5
  | 6 => tf_6
  | 7 => tf_7
  | _ => tf_8
def ma_nf (c : Nat) : Nat := match c with
  | 0 => 10
  | 1 => 6
  | 2 => 6
  | 3 => 7
  | 4 => 3
  | 5 => 3
  | 6 => 2
  | 7 => 11
  | _ => 46
def kd_0 (k : Nat) : Nat := match k with
  | 0 => 2
  | 1 => 0
  | 2 => 0
  | 3 => 0
  | 4 => 0
  | 5 => 0
  | 6 => 0
  | 7 => 0
  | 8 => 0
  | _ => 2
def kd_1 (k : Nat) : Nat := match k with
  | 0 => 2
  | 1 => 2
  | 2 => 2
  | 3 => 0
  | 4 => 0
  | _ => 0
def kd_2 (k : Nat) : Nat := match k with
  | 0 => 2
  | 1 => 2
  | 2 => 0
  | 3 => 0
  | 4 => 0
  | _ => 0
def kd_3 (k : Nat) : Nat := match k with
  | 0 => 0
  | 1 => 0
  | 2 => 0
  | 3 => 0
  | 4 => 0
  | 5 => 0
  | _ => 0
def kd_4 (k : Nat) : Nat := match k with
  | 0 => 2
  | 1 => 1
  | _ => 0
def kd_5 (k : Nat) : Nat := match k with
  | 0 => 2
  | 1 => 0
  | _ => 0
def kd_6 (k : Nat) : Nat := match k with
  | 0 => 2
  | _ => 0
def kd_7 (k : Nat) : Nat := match k with
  | 0 => 2
  | 1 => 2
  | 2 => 2
  | 3 => 1
  | 4 => 2
  | 5 => 2
  | 6 => 2
  | 7 => 2
  | 8 => 2
  | 9 => 2
  | _ => 0
def kd_8 (k : Nat) : Nat := match k with
  | 0 => 0
  | 1 => 0
  | 2 => 0
  | 3 => 0
  | 4 => 0
  | 5 => 0
  | 6 => 0
  | 7 => 0
  | 8 => 0
  | 9 => 2
  | 10 => 2
  | 11 => 2
  | 12 => 2
  | 13 => 2
  | 14 => 2
  | 15 => 2
  | 16 => 2
  | 17 => 2
  | 18 => 2
  | 19 => 2
  | 20 => 2
  | 21 => 2
  | 22 => 2
  | 23 => 2
  | 24 => 2
  | 25 => 0
  | 26 => 0
  | 27 => 0
  | 28 => 0
  | 29 => 0
  | 30 => 2
  | 31 => 2
  | 32 => 2
  | 33 => 2
  | 34 => 2
  | 35 => 2
  | 36 => 0
  | 37 => 0
  | 38 => 0
  | 39 => 0
  | 40 => 0
  | 41 => 0
  | 42 => 1
  | 43 => 2
  | 44 => 0
  | _ => 1
/-- kind of a field: 0 int, 1 boolean, 2 reference -/
def ma_kd (c k : Nat) : Nat := match c with
  | 0 => kd_0 k
  | 1 => kd_1 k
  | 2 => kd_2 k
  | 3 => kd_3 k
  | 4 => kd_4 k
  | 5 => kd_5 k
  | 6 => kd_6 k
  | 7 => kd_7 k
  | _ => kd_8 k
def ty_0 (k : Nat) : FieldType := match k with
  | 0 => .array (.object "OneSledgeForTwo$Rider")
  | 1 => .int
  | 2 => .int
  | 3 => .int
  | 4 => .int
  | 5 => .int
  | 6 => .int
  | 7 => .int
  | 8 => .int
  | _ => .array .int
def ty_1 (k : Nat) : FieldType := match k with
  | 0 => .array (.object "OneSledgeForTwo$Hill")
  | 1 => .array .int
  | 2 => .array .int
  | 3 => .int
  | 4 => .int
  | _ => .int
def ty_2 (k : Nat) : FieldType := match k with
  | 0 => .object "OneSledgeForTwo$Hill"
  | 1 => .array .int
  | 2 => .int
  | 3 => .int
  | 4 => .int
  | _ => .int
def ty_3 (k : Nat) : FieldType := match k with
  | 0 => .int
  | 1 => .int
  | 2 => .int
  | 3 => .int
  | 4 => .int
  | 5 => .int
  | _ => .int
def ty_4 (k : Nat) : FieldType := match k with
  | 0 => .object "OneSledgeForTwo$Hill"
  | 1 => .boolean
  | _ => .int
def ty_5 (k : Nat) : FieldType := match k with
  | 0 => .array .long
  | 1 => .int
  | _ => .int
def ty_6 (k : Nat) : FieldType := match k with
  | 0 => .array .int
  | _ => .int
def ty_7 (k : Nat) : FieldType := match k with
  | 0 => .object "OneSledgeForTwo$Hill"
  | 1 => .object "OneSledgeForTwo$Hill"
  | 2 => .object "OneSledgeForTwo$Hill"
  | 3 => .boolean
  | 4 => .object "OneSledgeForTwo$Sharing"
  | 5 => .object "OneSledgeForTwo$Reader"
  | 6 => .object "OneSledgeForTwo$Lookahead"
  | 7 => .object "OneSledgeForTwo$Trace"
  | 8 => .array (.object "OneSledgeForTwo$Shelf")
  | 9 => .array .int
  | _ => .int
def ty_8 (k : Nat) : FieldType := match k with
  | 0 => .int
  | 1 => .int
  | 2 => .int
  | 3 => .int
  | 4 => .int
  | 5 => .int
  | 6 => .int
  | 7 => .int
  | 8 => .int
  | 9 => .array .int
  | 10 => .array .int
  | 11 => .array .int
  | 12 => .array .int
  | 13 => .array .int
  | 14 => .array .int
  | 15 => .array .int
  | 16 => .array .int
  | 17 => .array .int
  | 18 => .array .int
  | 19 => .array .int
  | 20 => .array .long
  | 21 => .array .long
  | 22 => .array .int
  | 23 => .array .int
  | 24 => .array .int
  | 25 => .int
  | 26 => .int
  | 27 => .int
  | 28 => .int
  | 29 => .int
  | 30 => .array .int
  | 31 => .array .int
  | 32 => .array .int
  | 33 => .array .int
  | 34 => .array .int
  | 35 => .array .int
  | 36 => .int
  | 37 => .int
  | 38 => .int
  | 39 => .int
  | 40 => .int
  | 41 => .int
  | 42 => .boolean
  | 43 => .array .int
  | 44 => .int
  | _ => .boolean
def ma_tyf (c : Nat) : Nat → FieldType := match c with
  | 0 => ty_0
  | 1 => ty_1
  | 2 => ty_2
  | 3 => ty_3
  | 4 => ty_4
  | 5 => ty_5
  | 6 => ty_6
  | 7 => ty_7
  | _ => ty_8
theorem in0_0 : ∀ w ∈ u_ws "OneSledgeForTwo$Hill" tf_0 10, w ∈ lw_tbl := by decide +kernel
theorem in1_0 : ∀ w ∈ u_ws "OneSledgeForTwo$Hill" tf_0 10, goodWord w = true := by decide +kernel
theorem in_0 : ∀ w ∈ u_ws "OneSledgeForTwo$Hill" tf_0 10, w ∈ ma_tb := fun w h => ma_tb_in (in0_0 w h) (in1_0 w h)
theorem nm_0 : ∀ a, a < 10 → ∀ b, b < 10 → a ≠ b → (tf_0 a).2.1 ≠ (tf_0 b).2.1 := by decide +kernel
theorem tyo_0 : ∀ k, k < 10 → parseFieldDescriptor (tf_0 k).2.2.1 = some (ty_0 k) := by decide +kernel
theorem kdo_0 : ∀ k, k < 10 → (kd_0 k = 0 → ty_0 k = .int) ∧ (kd_0 k = 1 → ty_0 k = .boolean) ∧ (kd_0 k ≠ 2 → kd_0 k = 0 ∨ kd_0 k = 1) := by decide +kernel
theorem in0_1 : ∀ w ∈ u_ws "OneSledgeForTwo$Lookahead" tf_1 6, w ∈ lw_tbl := by decide +kernel
theorem in1_1 : ∀ w ∈ u_ws "OneSledgeForTwo$Lookahead" tf_1 6, goodWord w = true := by decide +kernel
theorem in_1 : ∀ w ∈ u_ws "OneSledgeForTwo$Lookahead" tf_1 6, w ∈ ma_tb := fun w h => ma_tb_in (in0_1 w h) (in1_1 w h)
theorem nm_1 : ∀ a, a < 6 → ∀ b, b < 6 → a ≠ b → (tf_1 a).2.1 ≠ (tf_1 b).2.1 := by decide +kernel
theorem tyo_1 : ∀ k, k < 6 → parseFieldDescriptor (tf_1 k).2.2.1 = some (ty_1 k) := by decide +kernel
theorem kdo_1 : ∀ k, k < 6 → (kd_1 k = 0 → ty_1 k = .int) ∧ (kd_1 k = 1 → ty_1 k = .boolean) ∧ (kd_1 k ≠ 2 → kd_1 k = 0 ∨ kd_1 k = 1) := by decide +kernel
theorem in0_2 : ∀ w ∈ u_ws "OneSledgeForTwo$Reader" tf_2 6, w ∈ lw_tbl := by decide +kernel
theorem in1_2 : ∀ w ∈ u_ws "OneSledgeForTwo$Reader" tf_2 6, goodWord w = true := by decide +kernel
theorem in_2 : ∀ w ∈ u_ws "OneSledgeForTwo$Reader" tf_2 6, w ∈ ma_tb := fun w h => ma_tb_in (in0_2 w h) (in1_2 w h)
theorem nm_2 : ∀ a, a < 6 → ∀ b, b < 6 → a ≠ b → (tf_2 a).2.1 ≠ (tf_2 b).2.1 := by decide +kernel
theorem tyo_2 : ∀ k, k < 6 → parseFieldDescriptor (tf_2 k).2.2.1 = some (ty_2 k) := by decide +kernel
theorem kdo_2 : ∀ k, k < 6 → (kd_2 k = 0 → ty_2 k = .int) ∧ (kd_2 k = 1 → ty_2 k = .boolean) ∧ (kd_2 k ≠ 2 → kd_2 k = 0 ∨ kd_2 k = 1) := by decide +kernel
theorem in0_3 : ∀ w ∈ u_ws "OneSledgeForTwo$Rider" tf_3 7, w ∈ lw_tbl := by decide +kernel
theorem in1_3 : ∀ w ∈ u_ws "OneSledgeForTwo$Rider" tf_3 7, goodWord w = true := by decide +kernel
theorem in_3 : ∀ w ∈ u_ws "OneSledgeForTwo$Rider" tf_3 7, w ∈ ma_tb := fun w h => ma_tb_in (in0_3 w h) (in1_3 w h)
theorem nm_3 : ∀ a, a < 7 → ∀ b, b < 7 → a ≠ b → (tf_3 a).2.1 ≠ (tf_3 b).2.1 := by decide +kernel
theorem tyo_3 : ∀ k, k < 7 → parseFieldDescriptor (tf_3 k).2.2.1 = some (ty_3 k) := by decide +kernel
theorem kdo_3 : ∀ k, k < 7 → (kd_3 k = 0 → ty_3 k = .int) ∧ (kd_3 k = 1 → ty_3 k = .boolean) ∧ (kd_3 k ≠ 2 → kd_3 k = 0 ∨ kd_3 k = 1) := by decide +kernel
theorem in0_4 : ∀ w ∈ u_ws "OneSledgeForTwo$Sharing" tf_4 3, w ∈ lw_tbl := by decide +kernel
theorem in1_4 : ∀ w ∈ u_ws "OneSledgeForTwo$Sharing" tf_4 3, goodWord w = true := by decide +kernel
theorem in_4 : ∀ w ∈ u_ws "OneSledgeForTwo$Sharing" tf_4 3, w ∈ ma_tb := fun w h => ma_tb_in (in0_4 w h) (in1_4 w h)
theorem nm_4 : ∀ a, a < 3 → ∀ b, b < 3 → a ≠ b → (tf_4 a).2.1 ≠ (tf_4 b).2.1 := by decide +kernel
theorem tyo_4 : ∀ k, k < 3 → parseFieldDescriptor (tf_4 k).2.2.1 = some (ty_4 k) := by decide +kernel
theorem kdo_4 : ∀ k, k < 3 → (kd_4 k = 0 → ty_4 k = .int) ∧ (kd_4 k = 1 → ty_4 k = .boolean) ∧ (kd_4 k ≠ 2 → kd_4 k = 0 ∨ kd_4 k = 1) := by decide +kernel
theorem in0_5 : ∀ w ∈ u_ws "OneSledgeForTwo$Shelf" tf_5 3, w ∈ lw_tbl := by decide +kernel
theorem in1_5 : ∀ w ∈ u_ws "OneSledgeForTwo$Shelf" tf_5 3, goodWord w = true := by decide +kernel
theorem in_5 : ∀ w ∈ u_ws "OneSledgeForTwo$Shelf" tf_5 3, w ∈ ma_tb := fun w h => ma_tb_in (in0_5 w h) (in1_5 w h)
theorem nm_5 : ∀ a, a < 3 → ∀ b, b < 3 → a ≠ b → (tf_5 a).2.1 ≠ (tf_5 b).2.1 := by decide +kernel
theorem tyo_5 : ∀ k, k < 3 → parseFieldDescriptor (tf_5 k).2.2.1 = some (ty_5 k) := by decide +kernel
theorem kdo_5 : ∀ k, k < 3 → (kd_5 k = 0 → ty_5 k = .int) ∧ (kd_5 k = 1 → ty_5 k = .boolean) ∧ (kd_5 k ≠ 2 → kd_5 k = 0 ∨ kd_5 k = 1) := by decide +kernel
theorem in0_6 : ∀ w ∈ u_ws "OneSledgeForTwo$Trace" tf_6 2, w ∈ lw_tbl := by decide +kernel
theorem in1_6 : ∀ w ∈ u_ws "OneSledgeForTwo$Trace" tf_6 2, goodWord w = true := by decide +kernel
theorem in_6 : ∀ w ∈ u_ws "OneSledgeForTwo$Trace" tf_6 2, w ∈ ma_tb := fun w h => ma_tb_in (in0_6 w h) (in1_6 w h)
theorem nm_6 : ∀ a, a < 2 → ∀ b, b < 2 → a ≠ b → (tf_6 a).2.1 ≠ (tf_6 b).2.1 := by decide +kernel
theorem tyo_6 : ∀ k, k < 2 → parseFieldDescriptor (tf_6 k).2.2.1 = some (ty_6 k) := by decide +kernel
theorem kdo_6 : ∀ k, k < 2 → (kd_6 k = 0 → ty_6 k = .int) ∧ (kd_6 k = 1 → ty_6 k = .boolean) ∧ (kd_6 k ≠ 2 → kd_6 k = 0 ∨ kd_6 k = 1) := by decide +kernel
theorem in0_7 : ∀ w ∈ u_ws "OneSledgeForTwo" tf_7 11, w ∈ lw_tbl := by decide +kernel
theorem in1_7 : ∀ w ∈ u_ws "OneSledgeForTwo" tf_7 11, goodWord w = true := by decide +kernel
theorem in_7 : ∀ w ∈ u_ws "OneSledgeForTwo" tf_7 11, w ∈ ma_tb := fun w h => ma_tb_in (in0_7 w h) (in1_7 w h)
theorem nm_7 : ∀ a, a < 11 → ∀ b, b < 11 → a ≠ b → (tf_7 a).2.1 ≠ (tf_7 b).2.1 := by decide +kernel
theorem tyo_7 : ∀ k, k < 11 → parseFieldDescriptor (tf_7 k).2.2.1 = some (ty_7 k) := by decide +kernel
theorem kdo_7 : ∀ k, k < 11 → (kd_7 k = 0 → ty_7 k = .int) ∧ (kd_7 k = 1 → ty_7 k = .boolean) ∧ (kd_7 k ≠ 2 → kd_7 k = 0 ∨ kd_7 k = 1) := by decide +kernel
theorem in0_8 : ∀ w ∈ u_ws "OneSledgeForTwoModel" tf_8 46, w ∈ lw_tbl := by decide +kernel
theorem in1_8 : ∀ w ∈ u_ws "OneSledgeForTwoModel" tf_8 46, goodWord w = true := by decide +kernel
theorem in_8 : ∀ w ∈ u_ws "OneSledgeForTwoModel" tf_8 46, w ∈ ma_tb := fun w h => ma_tb_in (in0_8 w h) (in1_8 w h)
theorem nm_8 : ∀ a, a < 46 → ∀ b, b < 46 → a ≠ b → (tf_8 a).2.1 ≠ (tf_8 b).2.1 := by decide +kernel
theorem tyo_8 : ∀ k, k < 46 → parseFieldDescriptor (tf_8 k).2.2.1 = some (ty_8 k) := by decide +kernel
theorem kdo_8 : ∀ k, k < 46 → (kd_8 k = 0 → ty_8 k = .int) ∧ (kd_8 k = 1 → ty_8 k = .boolean) ∧ (kd_8 k ≠ 2 → kd_8 k = 0 ∨ kd_8 k = 1) := by decide +kernel
theorem ma_in9 : ∀ c, c < 9 → ∀ w ∈ u_ws (ma_cn c) (ma_tf c) (ma_nf c), w ∈ ma_tb := fun c h => match c, h with
  | 0, _ => in_0
  | 1, _ => in_1
  | 2, _ => in_2
  | 3, _ => in_3
  | 4, _ => in_4
  | 5, _ => in_5
  | 6, _ => in_6
  | 7, _ => in_7
  | 8, _ => in_8
  | n + 9, h => absurd h (by omega)
theorem ma_nm9 : ∀ c, c < 9 → ∀ a, a < ma_nf c → ∀ b, b < ma_nf c → a ≠ b → (ma_tf c a).2.1 ≠ (ma_tf c b).2.1 := fun c h => match c, h with
  | 0, _ => nm_0
  | 1, _ => nm_1
  | 2, _ => nm_2
  | 3, _ => nm_3
  | 4, _ => nm_4
  | 5, _ => nm_5
  | 6, _ => nm_6
  | 7, _ => nm_7
  | 8, _ => nm_8
  | n + 9, h => absurd h (by omega)
theorem ma_ty9 : ∀ c, c < 9 → ∀ k, k < ma_nf c → parseFieldDescriptor (ma_tf c k).2.2.1 = some (ma_tyf c k) := fun c h => match c, h with
  | 0, _ => tyo_0
  | 1, _ => tyo_1
  | 2, _ => tyo_2
  | 3, _ => tyo_3
  | 4, _ => tyo_4
  | 5, _ => tyo_5
  | 6, _ => tyo_6
  | 7, _ => tyo_7
  | 8, _ => tyo_8
  | n + 9, h => absurd h (by omega)
theorem ma_kd9 : ∀ c, c < 9 → ∀ k, k < ma_nf c → (ma_kd c k = 0 → ma_tyf c k = .int) ∧ (ma_kd c k = 1 → ma_tyf c k = .boolean) ∧ (ma_kd c k ≠ 2 → ma_kd c k = 0 ∨ ma_kd c k = 1) := fun c h => match c, h with
  | 0, _ => kdo_0
  | 1, _ => kdo_1
  | 2, _ => kdo_2
  | 3, _ => kdo_3
  | 4, _ => kdo_4
  | 5, _ => kdo_5
  | 6, _ => kdo_6
  | 7, _ => kdo_7
  | 8, _ => kdo_8
  | n + 9, h => absurd h (by omega)
def ma_cls : List vw_C := [("OneSledgeForTwo$Hill", tf_0, 10), ("OneSledgeForTwo$Lookahead", tf_1, 6), ("OneSledgeForTwo$Reader", tf_2, 6), ("OneSledgeForTwo$Rider", tf_3, 7), ("OneSledgeForTwo$Sharing", tf_4, 3), ("OneSledgeForTwo$Shelf", tf_5, 3), ("OneSledgeForTwo$Trace", tf_6, 2), ("OneSledgeForTwo", tf_7, 11), ("OneSledgeForTwoModel", tf_8, 46)]
theorem ma_cls9 : ∀ c, c < 9 → ma_cls[c]? = some (ma_cn c, ma_tf c, ma_nf c) := fun c h => match c, h with
  | 0, _ => rfl
  | 1, _ => rfl
  | 2, _ => rfl
  | 3, _ => rfl
  | 4, _ => rfl
  | 5, _ => rfl
  | 6, _ => rfl
  | 7, _ => rfl
  | 8, _ => rfl
  | n + 9, h => absurd h (by omega)
def ma_cg (g : Nat) : Nat := match g with
  | 2 => 0
  | 9 => 1
  | 7 => 2
  | 4 => 3
  | 6 => 4
  | 16 => 5
  | 13 => 6
  | 1 => 7
  | _ => 8
def ma_ks (g k : Nat) : Nat := match g with
  | 20 => k - 1
  | _ => k
def ma_sk (c k : Nat) : Nat := match c with
  | 8 => k + 1
  | _ => k
theorem ma_lu_mem {α : Type} : ∀ (l : List (Nat × α)) (i : Nat) (x : α), ma_lu l i = some x → (i, x) ∈ l
  | [], _, _, h => by simp [ma_lu] at h
  | (q, y) :: r, i, x, h => by
    rw [ma_lu] at h
    split at h
    · rename_i e
      have e2 : q = i := Nat.eq_of_beq_eq_true e
      cases h
      rw [e2]; exact List.mem_cons_self
    · exact List.mem_cons_of_mem _ (ma_lu_mem r i x h)
/-- what a field link of class c, entry i, says: group, slot, kind -/
def ma_fP (c : Nat) (q : Nat × Nat × Nat × Nat) : Prop := (q.2.1 ≠ 41 → ma_cg q.2.1 < 9 ∧ ma_gc (ma_cg q.2.1) = q.2.1 ∧ ma_ks q.2.1 q.2.2.1 < ma_nf (ma_cg q.2.1) ∧ ma_sk (ma_cg q.2.1) (ma_ks q.2.1 q.2.2.1) = q.2.2.1 ∧ ma_kd (ma_cg q.2.1) (ma_ks q.2.1 q.2.2.1) = q.2.2.2 ∧ Cond.fieldLink (ma_cn c) q.1 (ma_cn (ma_cg q.2.1)) (ma_tf (ma_cg q.2.1) (ma_ks q.2.1 q.2.2.1)).2.1 (ma_tf (ma_cg q.2.1) (ma_ks q.2.1 q.2.2.1)).2.2.1 ∈ ma_tb ∧ (ma_tf (ma_cg q.2.1) (ma_ks q.2.1 q.2.2.1)).1 = ma_cn (ma_cg q.2.1)) ∧ (q.2.1 = 41 → (q.2.2.1 = 0 ∧ q.2.2.2 = 2 ∧ Cond.fieldLink (ma_cn c) q.1 "java/lang/String" "value" "[B" ∈ ma_tb) ∨ (q.2.2.1 = 1 ∧ q.2.2.2 = 3 ∧ Cond.fieldLink (ma_cn c) q.1 "java/lang/String" "coder" "B" ∈ ma_tb))
def ft_0 : List (Nat × Nat × Nat × Nat) := [(11, 2, 0, 2), (17, 2, 2, 0), (21, 2, 4, 0), (24, 2, 6, 0), (27, 2, 7, 0), (30, 2, 8, 0), (33, 2, 9, 2), (40, 2, 1, 0), (47, 2, 3, 0), (50, 2, 5, 0), (64, 4, 3, 0), (67, 4, 5, 0), (70, 4, 6, 0)]
theorem fl_0_11 : ma_fP 0 (11, 2, 0, 2) := ⟨fun _ => ⟨by decide, rfl, by decide, rfl, rfl, wi_1 _ (List.mem_of_getElem? (i := 72) rfl) rfl, rfl⟩, fun h => absurd h (show ¬ (2 : Nat) = 41 by decide)⟩
theorem fl_0_17 : ma_fP 0 (17, 2, 2, 0) := ⟨fun _ => ⟨by decide, rfl, by decide, rfl, rfl, wi_1 _ (List.mem_of_getElem? (i := 80) rfl) rfl, rfl⟩, fun h => absurd h (show ¬ (2 : Nat) = 41 by decide)⟩
theorem fl_0_21 : ma_fP 0 (21, 2, 4, 0) := ⟨fun _ => ⟨by decide, rfl, by decide, rfl, rfl, wi_1 _ (List.mem_of_getElem? (i := 86) rfl) rfl, rfl⟩, fun h => absurd h (show ¬ (2 : Nat) = 41 by decide)⟩
theorem fl_0_24 : ma_fP 0 (24, 2, 6, 0) := ⟨fun _ => ⟨by decide, rfl, by decide, rfl, rfl, wi_1 _ (List.mem_of_getElem? (i := 93) rfl) rfl, rfl⟩, fun h => absurd h (show ¬ (2 : Nat) = 41 by decide)⟩
theorem fl_0_27 : ma_fP 0 (27, 2, 7, 0) := ⟨fun _ => ⟨by decide, rfl, by decide, rfl, rfl, wi_1 _ (List.mem_of_getElem? (i := 96) rfl) rfl, rfl⟩, fun h => absurd h (show ¬ (2 : Nat) = 41 by decide)⟩
theorem fl_0_30 : ma_fP 0 (30, 2, 8, 0) := ⟨fun _ => ⟨by decide, rfl, by decide, rfl, rfl, wi_1 _ (List.mem_of_getElem? (i := 99) rfl) rfl, rfl⟩, fun h => absurd h (show ¬ (2 : Nat) = 41 by decide)⟩
theorem fl_0_33 : ma_fP 0 (33, 2, 9, 2) := ⟨fun _ => ⟨by decide, rfl, by decide, rfl, rfl, wi_1 _ (List.mem_of_getElem? (i := 101) rfl) rfl, rfl⟩, fun h => absurd h (show ¬ (2 : Nat) = 41 by decide)⟩
theorem fl_0_40 : ma_fP 0 (40, 2, 1, 0) := ⟨fun _ => ⟨by decide, rfl, by decide, rfl, rfl, wi_1 _ (List.mem_of_getElem? (i := 76) rfl) rfl, rfl⟩, fun h => absurd h (show ¬ (2 : Nat) = 41 by decide)⟩
theorem fl_0_47 : ma_fP 0 (47, 2, 3, 0) := ⟨fun _ => ⟨by decide, rfl, by decide, rfl, rfl, wi_1 _ (List.mem_of_getElem? (i := 83) rfl) rfl, rfl⟩, fun h => absurd h (show ¬ (2 : Nat) = 41 by decide)⟩
theorem fl_0_50 : ma_fP 0 (50, 2, 5, 0) := ⟨fun _ => ⟨by decide, rfl, by decide, rfl, rfl, wi_1 _ (List.mem_of_getElem? (i := 90) rfl) rfl, rfl⟩, fun h => absurd h (show ¬ (2 : Nat) = 41 by decide)⟩
theorem fl_0_64 : ma_fP 0 (64, 4, 3, 0) := ⟨fun _ => ⟨by decide, rfl, by decide, rfl, rfl, wi_1 _ (List.mem_of_getElem? (i := 45) rfl) rfl, rfl⟩, fun h => absurd h (show ¬ (4 : Nat) = 41 by decide)⟩
theorem fl_0_67 : ma_fP 0 (67, 4, 5, 0) := ⟨fun _ => ⟨by decide, rfl, by decide, rfl, rfl, wi_1 _ (List.mem_of_getElem? (i := 51) rfl) rfl, rfl⟩, fun h => absurd h (show ¬ (4 : Nat) = 41 by decide)⟩
theorem fl_0_70 : ma_fP 0 (70, 4, 6, 0) := ⟨fun _ => ⟨by decide, rfl, by decide, rfl, rfl, wi_1 _ (List.mem_of_getElem? (i := 54) rfl) rfl, rfl⟩, fun h => absurd h (show ¬ (4 : Nat) = 41 by decide)⟩
theorem ftP_0 : ∀ q ∈ ft_0, ma_fP 0 q := List.forall_mem_cons.mpr ⟨fl_0_11, List.forall_mem_cons.mpr ⟨fl_0_17, List.forall_mem_cons.mpr ⟨fl_0_21, List.forall_mem_cons.mpr ⟨fl_0_24, List.forall_mem_cons.mpr ⟨fl_0_27, List.forall_mem_cons.mpr ⟨fl_0_30, List.forall_mem_cons.mpr ⟨fl_0_33, List.forall_mem_cons.mpr ⟨fl_0_40, List.forall_mem_cons.mpr ⟨fl_0_47, List.forall_mem_cons.mpr ⟨fl_0_50, List.forall_mem_cons.mpr ⟨fl_0_64, List.forall_mem_cons.mpr ⟨fl_0_67, List.forall_mem_cons.mpr ⟨fl_0_70, fun _ h => absurd h List.not_mem_nil⟩⟩⟩⟩⟩⟩⟩⟩⟩⟩⟩⟩⟩
def ft_1 : List (Nat × Nat × Nat × Nat) := [(11, 9, 0, 2), (17, 9, 1, 2), (21, 9, 2, 2), (29, 9, 3, 0), (33, 9, 4, 0), (36, 9, 5, 0), (52, 2, 9, 2)]
theorem fl_1_11 : ma_fP 1 (11, 9, 0, 2) := ⟨fun _ => ⟨by decide, rfl, by decide, rfl, rfl, wi_1 _ (List.mem_of_getElem? (i := 183) rfl) rfl, rfl⟩, fun h => absurd h (show ¬ (9 : Nat) = 41 by decide)⟩
theorem fl_1_17 : ma_fP 1 (17, 9, 1, 2) := ⟨fun _ => ⟨by decide, rfl, by decide, rfl, rfl, wi_1 _ (List.mem_of_getElem? (i := 184) rfl) rfl, rfl⟩, fun h => absurd h (show ¬ (9 : Nat) = 41 by decide)⟩
theorem fl_1_21 : ma_fP 1 (21, 9, 2, 2) := ⟨fun _ => ⟨by decide, rfl, by decide, rfl, rfl, wi_1 _ (List.mem_of_getElem? (i := 185) rfl) rfl, rfl⟩, fun h => absurd h (show ¬ (9 : Nat) = 41 by decide)⟩
theorem fl_1_29 : ma_fP 1 (29, 9, 3, 0) := ⟨fun _ => ⟨by decide, rfl, by decide, rfl, rfl, wi_1 _ (List.mem_of_getElem? (i := 187) rfl) rfl, rfl⟩, fun h => absurd h (show ¬ (9 : Nat) = 41 by decide)⟩
theorem fl_1_33 : ma_fP 1 (33, 9, 4, 0) := ⟨fun _ => ⟨by decide, rfl, by decide, rfl, rfl, wi_1 _ (List.mem_of_getElem? (i := 189) rfl) rfl, rfl⟩, fun h => absurd h (show ¬ (9 : Nat) = 41 by decide)⟩
theorem fl_1_36 : ma_fP 1 (36, 9, 5, 0) := ⟨fun _ => ⟨by decide, rfl, by decide, rfl, rfl, wi_1 _ (List.mem_of_getElem? (i := 191) rfl) rfl, rfl⟩, fun h => absurd h (show ¬ (9 : Nat) = 41 by decide)⟩
theorem fl_1_52 : ma_fP 1 (52, 2, 9, 2) := ⟨fun _ => ⟨by decide, rfl, by decide, rfl, rfl, wi_1 _ (List.mem_of_getElem? (i := 102) rfl) rfl, rfl⟩, fun h => absurd h (show ¬ (2 : Nat) = 41 by decide)⟩
theorem ftP_1 : ∀ q ∈ ft_1, ma_fP 1 q := List.forall_mem_cons.mpr ⟨fl_1_11, List.forall_mem_cons.mpr ⟨fl_1_17, List.forall_mem_cons.mpr ⟨fl_1_21, List.forall_mem_cons.mpr ⟨fl_1_29, List.forall_mem_cons.mpr ⟨fl_1_33, List.forall_mem_cons.mpr ⟨fl_1_36, List.forall_mem_cons.mpr ⟨fl_1_52, fun _ h => absurd h List.not_mem_nil⟩⟩⟩⟩⟩⟩⟩
def ft_2 : List (Nat × Nat × Nat × Nat) := [(12, 7, 0, 2), (18, 7, 1, 2), (22, 7, 4, 0), (30, 16, 2, 0), (35, 7, 2, 0), (40, 7, 3, 0), (65, 2, 2, 0), (68, 2, 3, 0), (71, 2, 4, 0), (74, 2, 5, 0), (77, 2, 6, 0), (80, 2, 7, 0), (87, 7, 5, 0), (97, 2, 1, 0), (103, 2, 0, 2), (107, 4, 3, 0)]
theorem fl_2_12 : ma_fP 2 (12, 7, 0, 2) := ⟨fun _ => ⟨by decide, rfl, by decide, rfl, rfl, wi_1 _ (List.mem_of_getElem? (i := 153) rfl) rfl, rfl⟩, fun h => absurd h (show ¬ (7 : Nat) = 41 by decide)⟩
theorem fl_2_18 : ma_fP 2 (18, 7, 1, 2) := ⟨fun _ => ⟨by decide, rfl, by decide, rfl, rfl, wi_1 _ (List.mem_of_getElem? (i := 155) rfl) rfl, rfl⟩, fun h => absurd h (show ¬ (7 : Nat) = 41 by decide)⟩
theorem fl_2_22 : ma_fP 2 (22, 7, 4, 0) := ⟨fun _ => ⟨by decide, rfl, by decide, rfl, rfl, wi_1 _ (List.mem_of_getElem? (i := 158) rfl) rfl, rfl⟩, fun h => absurd h (show ¬ (7 : Nat) = 41 by decide)⟩
theorem fl_2_30 : ma_fP 2 (30, 16, 2, 0) := ⟨fun _ => ⟨by decide, rfl, by decide, rfl, rfl, wi_1 _ (List.mem_of_getElem? (i := 230) rfl) rfl, rfl⟩, fun h => absurd h (show ¬ (16 : Nat) = 41 by decide)⟩
theorem fl_2_35 : ma_fP 2 (35, 7, 2, 0) := ⟨fun _ => ⟨by decide, rfl, by decide, rfl, rfl, wi_1 _ (List.mem_of_getElem? (i := 156) rfl) rfl, rfl⟩, fun h => absurd h (show ¬ (7 : Nat) = 41 by decide)⟩
theorem fl_2_40 : ma_fP 2 (40, 7, 3, 0) := ⟨fun _ => ⟨by decide, rfl, by decide, rfl, rfl, wi_1 _ (List.mem_of_getElem? (i := 157) rfl) rfl, rfl⟩, fun h => absurd h (show ¬ (7 : Nat) = 41 by decide)⟩
theorem fl_2_65 : ma_fP 2 (65, 2, 2, 0) := ⟨fun _ => ⟨by decide, rfl, by decide, rfl, rfl, wi_1 _ (List.mem_of_getElem? (i := 81) rfl) rfl, rfl⟩, fun h => absurd h (show ¬ (2 : Nat) = 41 by decide)⟩
theorem fl_2_68 : ma_fP 2 (68, 2, 3, 0) := ⟨fun _ => ⟨by decide, rfl, by decide, rfl, rfl, wi_1 _ (List.mem_of_getElem? (i := 84) rfl) rfl, rfl⟩, fun h => absurd h (show ¬ (2 : Nat) = 41 by decide)⟩
theorem fl_2_71 : ma_fP 2 (71, 2, 4, 0) := ⟨fun _ => ⟨by decide, rfl, by decide, rfl, rfl, wi_1 _ (List.mem_of_getElem? (i := 87) rfl) rfl, rfl⟩, fun h => absurd h (show ¬ (2 : Nat) = 41 by decide)⟩
theorem fl_2_74 : ma_fP 2 (74, 2, 5, 0) := ⟨fun _ => ⟨by decide, rfl, by decide, rfl, rfl, wi_1 _ (List.mem_of_getElem? (i := 91) rfl) rfl, rfl⟩, fun h => absurd h (show ¬ (2 : Nat) = 41 by decide)⟩
theorem fl_2_77 : ma_fP 2 (77, 2, 6, 0) := ⟨fun _ => ⟨by decide, rfl, by decide, rfl, rfl, wi_1 _ (List.mem_of_getElem? (i := 94) rfl) rfl, rfl⟩, fun h => absurd h (show ¬ (2 : Nat) = 41 by decide)⟩
theorem fl_2_80 : ma_fP 2 (80, 2, 7, 0) := ⟨fun _ => ⟨by decide, rfl, by decide, rfl, rfl, wi_1 _ (List.mem_of_getElem? (i := 97) rfl) rfl, rfl⟩, fun h => absurd h (show ¬ (2 : Nat) = 41 by decide)⟩
theorem fl_2_87 : ma_fP 2 (87, 7, 5, 0) := ⟨fun _ => ⟨by decide, rfl, by decide, rfl, rfl, wi_1 _ (List.mem_of_getElem? (i := 160) rfl) rfl, rfl⟩, fun h => absurd h (show ¬ (7 : Nat) = 41 by decide)⟩
theorem fl_2_97 : ma_fP 2 (97, 2, 1, 0) := ⟨fun _ => ⟨by decide, rfl, by decide, rfl, rfl, wi_1 _ (List.mem_of_getElem? (i := 78) rfl) rfl, rfl⟩, fun h => absurd h (show ¬ (2 : Nat) = 41 by decide)⟩
theorem fl_2_103 : ma_fP 2 (103, 2, 0, 2) := ⟨fun _ => ⟨by decide, rfl, by decide, rfl, rfl, wi_1 _ (List.mem_of_getElem? (i := 73) rfl) rfl, rfl⟩, fun h => absurd h (show ¬ (2 : Nat) = 41 by decide)⟩
theorem fl_2_107 : ma_fP 2 (107, 4, 3, 0) := ⟨fun _ => ⟨by decide, rfl, by decide, rfl, rfl, wi_1 _ (List.mem_of_getElem? (i := 44) rfl) rfl, rfl⟩, fun h => absurd h (show ¬ (4 : Nat) = 41 by decide)⟩
theorem ftP_2 : ∀ q ∈ ft_2, ma_fP 2 q := List.forall_mem_cons.mpr ⟨fl_2_12, List.forall_mem_cons.mpr ⟨fl_2_18, List.forall_mem_cons.mpr ⟨fl_2_22, List.forall_mem_cons.mpr ⟨fl_2_30, List.forall_mem_cons.mpr ⟨fl_2_35, List.forall_mem_cons.mpr ⟨fl_2_40, List.forall_mem_cons.mpr ⟨fl_2_65, List.forall_mem_cons.mpr ⟨fl_2_68, List.forall_mem_cons.mpr ⟨fl_2_71, List.forall_mem_cons.mpr ⟨fl_2_74, List.forall_mem_cons.mpr ⟨fl_2_77, List.forall_mem_cons.mpr ⟨fl_2_80, List.forall_mem_cons.mpr ⟨fl_2_87, List.forall_mem_cons.mpr ⟨fl_2_97, List.forall_mem_cons.mpr ⟨fl_2_103, List.forall_mem_cons.mpr ⟨fl_2_107, fun _ h => absurd h List.not_mem_nil⟩⟩⟩⟩⟩⟩⟩⟩⟩⟩⟩⟩⟩⟩⟩⟩
def ft_3 : List (Nat × Nat × Nat × Nat) := [(15, 4, 1, 0), (18, 4, 2, 0), (24, 4, 3, 0), (27, 4, 4, 0), (30, 4, 5, 0), (33, 4, 6, 0)]
theorem fl_3_15 : ma_fP 3 (15, 4, 1, 0) := ⟨fun _ => ⟨by decide, rfl, by decide, rfl, rfl, wi_1 _ (List.mem_of_getElem? (i := 39) rfl) rfl, rfl⟩, fun h => absurd h (show ¬ (4 : Nat) = 41 by decide)⟩
theorem fl_3_18 : ma_fP 3 (18, 4, 2, 0) := ⟨fun _ => ⟨by decide, rfl, by decide, rfl, rfl, wi_1 _ (List.mem_of_getElem? (i := 41) rfl) rfl, rfl⟩, fun h => absurd h (show ¬ (4 : Nat) = 41 by decide)⟩
theorem fl_3_24 : ma_fP 3 (24, 4, 3, 0) := ⟨fun _ => ⟨by decide, rfl, by decide, rfl, rfl, wi_1 _ (List.mem_of_getElem? (i := 43) rfl) rfl, rfl⟩, fun h => absurd h (show ¬ (4 : Nat) = 41 by decide)⟩
theorem fl_3_27 : ma_fP 3 (27, 4, 4, 0) := ⟨fun _ => ⟨by decide, rfl, by decide, rfl, rfl, wi_1 _ (List.mem_of_getElem? (i := 47) rfl) rfl, rfl⟩, fun h => absurd h (show ¬ (4 : Nat) = 41 by decide)⟩
theorem fl_3_30 : ma_fP 3 (30, 4, 5, 0) := ⟨fun _ => ⟨by decide, rfl, by decide, rfl, rfl, wi_1 _ (List.mem_of_getElem? (i := 50) rfl) rfl, rfl⟩, fun h => absurd h (show ¬ (4 : Nat) = 41 by decide)⟩
theorem fl_3_33 : ma_fP 3 (33, 4, 6, 0) := ⟨fun _ => ⟨by decide, rfl, by decide, rfl, rfl, wi_1 _ (List.mem_of_getElem? (i := 53) rfl) rfl, rfl⟩, fun h => absurd h (show ¬ (4 : Nat) = 41 by decide)⟩
theorem ftP_3 : ∀ q ∈ ft_3, ma_fP 3 q := List.forall_mem_cons.mpr ⟨fl_3_15, List.forall_mem_cons.mpr ⟨fl_3_18, List.forall_mem_cons.mpr ⟨fl_3_24, List.forall_mem_cons.mpr ⟨fl_3_27, List.forall_mem_cons.mpr ⟨fl_3_30, List.forall_mem_cons.mpr ⟨fl_3_33, fun _ h => absurd h List.not_mem_nil⟩⟩⟩⟩⟩⟩
def ft_4 : List (Nat × Nat × Nat × Nat) := [(12, 6, 0, 2), (22, 6, 1, 1), (26, 2, 5, 0), (30, 6, 2, 0), (57, 2, 1, 0), (68, 2, 0, 2), (72, 2, 9, 2), (76, 4, 4, 0)]
theorem fl_4_12 : ma_fP 4 (12, 6, 0, 2) := ⟨fun _ => ⟨by decide, rfl, by decide, rfl, rfl, wi_1 _ (List.mem_of_getElem? (i := 134) rfl) rfl, rfl⟩, fun h => absurd h (show ¬ (6 : Nat) = 41 by decide)⟩
theorem fl_4_22 : ma_fP 4 (22, 6, 1, 1) := ⟨fun _ => ⟨by decide, rfl, by decide, rfl, rfl, wi_1 _ (List.mem_of_getElem? (i := 136) rfl) rfl, rfl⟩, fun h => absurd h (show ¬ (6 : Nat) = 41 by decide)⟩
theorem fl_4_26 : ma_fP 4 (26, 2, 5, 0) := ⟨fun _ => ⟨by decide, rfl, by decide, rfl, rfl, wi_1 _ (List.mem_of_getElem? (i := 89) rfl) rfl, rfl⟩, fun h => absurd h (show ¬ (2 : Nat) = 41 by decide)⟩
theorem fl_4_30 : ma_fP 4 (30, 6, 2, 0) := ⟨fun _ => ⟨by decide, rfl, by decide, rfl, rfl, wi_1 _ (List.mem_of_getElem? (i := 137) rfl) rfl, rfl⟩, fun h => absurd h (show ¬ (6 : Nat) = 41 by decide)⟩
theorem fl_4_57 : ma_fP 4 (57, 2, 1, 0) := ⟨fun _ => ⟨by decide, rfl, by decide, rfl, rfl, wi_1 _ (List.mem_of_getElem? (i := 77) rfl) rfl, rfl⟩, fun h => absurd h (show ¬ (2 : Nat) = 41 by decide)⟩
theorem fl_4_68 : ma_fP 4 (68, 2, 0, 2) := ⟨fun _ => ⟨by decide, rfl, by decide, rfl, rfl, wi_1 _ (List.mem_of_getElem? (i := 74) rfl) rfl, rfl⟩, fun h => absurd h (show ¬ (2 : Nat) = 41 by decide)⟩
theorem fl_4_72 : ma_fP 4 (72, 2, 9, 2) := ⟨fun _ => ⟨by decide, rfl, by decide, rfl, rfl, wi_1 _ (List.mem_of_getElem? (i := 103) rfl) rfl, rfl⟩, fun h => absurd h (show ¬ (2 : Nat) = 41 by decide)⟩
theorem fl_4_76 : ma_fP 4 (76, 4, 4, 0) := ⟨fun _ => ⟨by decide, rfl, by decide, rfl, rfl, wi_1 _ (List.mem_of_getElem? (i := 48) rfl) rfl, rfl⟩, fun h => absurd h (show ¬ (4 : Nat) = 41 by decide)⟩
theorem ftP_4 : ∀ q ∈ ft_4, ma_fP 4 q := List.forall_mem_cons.mpr ⟨fl_4_12, List.forall_mem_cons.mpr ⟨fl_4_22, List.forall_mem_cons.mpr ⟨fl_4_26, List.forall_mem_cons.mpr ⟨fl_4_30, List.forall_mem_cons.mpr ⟨fl_4_57, List.forall_mem_cons.mpr ⟨fl_4_68, List.forall_mem_cons.mpr ⟨fl_4_72, List.forall_mem_cons.mpr ⟨fl_4_76, fun _ h => absurd h List.not_mem_nil⟩⟩⟩⟩⟩⟩⟩⟩
def ft_5 : List (Nat × Nat × Nat × Nat) := [(9, 16, 0, 2), (15, 16, 1, 0), (19, 16, 2, 0)]
theorem fl_5_9 : ma_fP 5 (9, 16, 0, 2) := ⟨fun _ => ⟨by decide, rfl, by decide, rfl, rfl, wi_1 _ (List.mem_of_getElem? (i := 226) rfl) rfl, rfl⟩, fun h => absurd h (show ¬ (16 : Nat) = 41 by decide)⟩
theorem fl_5_15 : ma_fP 5 (15, 16, 1, 0) := ⟨fun _ => ⟨by decide, rfl, by decide, rfl, rfl, wi_1 _ (List.mem_of_getElem? (i := 228) rfl) rfl, rfl⟩, fun h => absurd h (show ¬ (16 : Nat) = 41 by decide)⟩
theorem fl_5_19 : ma_fP 5 (19, 16, 2, 0) := ⟨fun _ => ⟨by decide, rfl, by decide, rfl, rfl, wi_1 _ (List.mem_of_getElem? (i := 231) rfl) rfl, rfl⟩, fun h => absurd h (show ¬ (16 : Nat) = 41 by decide)⟩
theorem ftP_5 : ∀ q ∈ ft_5, ma_fP 5 q := List.forall_mem_cons.mpr ⟨fl_5_9, List.forall_mem_cons.mpr ⟨fl_5_15, List.forall_mem_cons.mpr ⟨fl_5_19, fun _ h => absurd h List.not_mem_nil⟩⟩⟩
def ft_6 : List (Nat × Nat × Nat × Nat) := [(9, 13, 0, 2), (15, 13, 1, 0)]
theorem fl_6_9 : ma_fP 6 (9, 13, 0, 2) := ⟨fun _ => ⟨by decide, rfl, by decide, rfl, rfl, wi_1 _ (List.mem_of_getElem? (i := 211) rfl) rfl, rfl⟩, fun h => absurd h (show ¬ (13 : Nat) = 41 by decide)⟩
theorem fl_6_15 : ma_fP 6 (15, 13, 1, 0) := ⟨fun _ => ⟨by decide, rfl, by decide, rfl, rfl, wi_1 _ (List.mem_of_getElem? (i := 212) rfl) rfl, rfl⟩, fun h => absurd h (show ¬ (13 : Nat) = 41 by decide)⟩
theorem ftP_6 : ∀ q ∈ ft_6, ma_fP 6 q := List.forall_mem_cons.mpr ⟨fl_6_9, List.forall_mem_cons.mpr ⟨fl_6_15, fun _ h => absurd h List.not_mem_nil⟩⟩
def ft_7 : List (Nat × Nat × Nat × Nat) := [(10, 1, 0, 2), (16, 1, 1, 2), (19, 1, 2, 2), (25, 1, 4, 2), (32, 1, 5, 2), (39, 1, 6, 2), (46, 1, 7, 2), (52, 1, 8, 2), (56, 1, 9, 2), (60, 1, 10, 0), (91, 16, 0, 2), (108, 16, 1, 0), (114, 2, 0, 2), (139, 4, 1, 0), (142, 4, 2, 0), (145, 4, 3, 0), (148, 4, 4, 0), (151, 4, 5, 0), (154, 4, 6, 0), (157, 2, 2, 0), (160, 2, 3, 0), (163, 2, 4, 0), (166, 2, 5, 0), (169, 2, 6, 0), (172, 2, 7, 0), (179, 7, 4, 0), (182, 7, 0, 2), (201, 2, 9, 2), (208, 9, 4, 0), (209, 9, 3, 0), (210, 9, 2, 2), (220, 6, 0, 2), (228, 2, 1, 0), (234, 16, 2, 0), (270, 2, 8, 0), (283, 1, 3, 1), (293, 13, 1, 0), (328, 4, 0, 0)]
theorem fl_7_10 : ma_fP 7 (10, 1, 0, 2) := ⟨fun _ => ⟨by decide, rfl, by decide, rfl, rfl, wi_2 _ (List.mem_of_getElem? (i := 1) rfl) rfl, rfl⟩, fun h => absurd h (show ¬ (1 : Nat) = 41 by decide)⟩
theorem fl_7_16 : ma_fP 7 (16, 1, 1, 2) := ⟨fun _ => ⟨by decide, rfl, by decide, rfl, rfl, wi_2 _ (List.mem_of_getElem? (i := 2) rfl) rfl, rfl⟩, fun h => absurd h (show ¬ (1 : Nat) = 41 by decide)⟩
theorem fl_7_19 : ma_fP 7 (19, 1, 2, 2) := ⟨fun _ => ⟨by decide, rfl, by decide, rfl, rfl, wi_2 _ (List.mem_of_getElem? (i := 3) rfl) rfl, rfl⟩, fun h => absurd h (show ¬ (1 : Nat) = 41 by decide)⟩
theorem fl_7_25 : ma_fP 7 (25, 1, 4, 2) := ⟨fun _ => ⟨by decide, rfl, by decide, rfl, rfl, wi_2 _ (List.mem_of_getElem? (i := 5) rfl) rfl, rfl⟩, fun h => absurd h (show ¬ (1 : Nat) = 41 by decide)⟩
theorem fl_7_32 : ma_fP 7 (32, 1, 5, 2) := ⟨fun _ => ⟨by decide, rfl, by decide, rfl, rfl, wi_2 _ (List.mem_of_getElem? (i := 6) rfl) rfl, rfl⟩, fun h => absurd h (show ¬ (1 : Nat) = 41 by decide)⟩
theorem fl_7_39 : ma_fP 7 (39, 1, 6, 2) := ⟨fun _ => ⟨by decide, rfl, by decide, rfl, rfl, wi_2 _ (List.mem_of_getElem? (i := 7) rfl) rfl, rfl⟩, fun h => absurd h (show ¬ (1 : Nat) = 41 by decide)⟩
theorem fl_7_46 : ma_fP 7 (46, 1, 7, 2) := ⟨fun _ => ⟨by decide, rfl, by decide, rfl, rfl, wi_2 _ (List.mem_of_getElem? (i := 8) rfl) rfl, rfl⟩, fun h => absurd h (show ¬ (1 : Nat) = 41 by decide)⟩
theorem fl_7_52 : ma_fP 7 (52, 1, 8, 2) := ⟨fun _ => ⟨by decide, rfl, by decide, rfl, rfl, wi_2 _ (List.mem_of_getElem? (i := 9) rfl) rfl, rfl⟩, fun h => absurd h (show ¬ (1 : Nat) = 41 by decide)⟩
theorem fl_7_56 : ma_fP 7 (56, 1, 9, 2) := ⟨fun _ => ⟨by decide, rfl, by decide, rfl, rfl, wi_2 _ (List.mem_of_getElem? (i := 10) rfl) rfl, rfl⟩, fun h => absurd h (show ¬ (1 : Nat) = 41 by decide)⟩
theorem fl_7_60 : ma_fP 7 (60, 1, 10, 0) := ⟨fun _ => ⟨by decide, rfl, by decide, rfl, rfl, wi_2 _ (List.mem_of_getElem? (i := 11) rfl) rfl, rfl⟩, fun h => absurd h (show ¬ (1 : Nat) = 41 by decide)⟩
theorem fl_7_91 : ma_fP 7 (91, 16, 0, 2) := ⟨fun _ => ⟨by decide, rfl, by decide, rfl, rfl, wi_1 _ (List.mem_of_getElem? (i := 227) rfl) rfl, rfl⟩, fun h => absurd h (show ¬ (16 : Nat) = 41 by decide)⟩
theorem fl_7_108 : ma_fP 7 (108, 16, 1, 0) := ⟨fun _ => ⟨by decide, rfl, by decide, rfl, rfl, wi_1 _ (List.mem_of_getElem? (i := 229) rfl) rfl, rfl⟩, fun h => absurd h (show ¬ (16 : Nat) = 41 by decide)⟩
theorem fl_7_114 : ma_fP 7 (114, 2, 0, 2) := ⟨fun _ => ⟨by decide, rfl, by decide, rfl, rfl, wi_1 _ (List.mem_of_getElem? (i := 75) rfl) rfl, rfl⟩, fun h => absurd h (show ¬ (2 : Nat) = 41 by decide)⟩
theorem fl_7_139 : ma_fP 7 (139, 4, 1, 0) := ⟨fun _ => ⟨by decide, rfl, by decide, rfl, rfl, wi_1 _ (List.mem_of_getElem? (i := 40) rfl) rfl, rfl⟩, fun h => absurd h (show ¬ (4 : Nat) = 41 by decide)⟩
theorem fl_7_142 : ma_fP 7 (142, 4, 2, 0) := ⟨fun _ => ⟨by decide, rfl, by decide, rfl, rfl, wi_1 _ (List.mem_of_getElem? (i := 42) rfl) rfl, rfl⟩, fun h => absurd h (show ¬ (4 : Nat) = 41 by decide)⟩
theorem fl_7_145 : ma_fP 7 (145, 4, 3, 0) := ⟨fun _ => ⟨by decide, rfl, by decide, rfl, rfl, wi_1 _ (List.mem_of_getElem? (i := 46) rfl) rfl, rfl⟩, fun h => absurd h (show ¬ (4 : Nat) = 41 by decide)⟩
theorem fl_7_148 : ma_fP 7 (148, 4, 4, 0) := ⟨fun _ => ⟨by decide, rfl, by decide, rfl, rfl, wi_1 _ (List.mem_of_getElem? (i := 49) rfl) rfl, rfl⟩, fun h => absurd h (show ¬ (4 : Nat) = 41 by decide)⟩
theorem fl_7_151 : ma_fP 7 (151, 4, 5, 0) := ⟨fun _ => ⟨by decide, rfl, by decide, rfl, rfl, wi_1 _ (List.mem_of_getElem? (i := 52) rfl) rfl, rfl⟩, fun h => absurd h (show ¬ (4 : Nat) = 41 by decide)⟩
theorem fl_7_154 : ma_fP 7 (154, 4, 6, 0) := ⟨fun _ => ⟨by decide, rfl, by decide, rfl, rfl, wi_1 _ (List.mem_of_getElem? (i := 55) rfl) rfl, rfl⟩, fun h => absurd h (show ¬ (4 : Nat) = 41 by decide)⟩
theorem fl_7_157 : ma_fP 7 (157, 2, 2, 0) := ⟨fun _ => ⟨by decide, rfl, by decide, rfl, rfl, wi_1 _ (List.mem_of_getElem? (i := 82) rfl) rfl, rfl⟩, fun h => absurd h (show ¬ (2 : Nat) = 41 by decide)⟩
theorem fl_7_160 : ma_fP 7 (160, 2, 3, 0) := ⟨fun _ => ⟨by decide, rfl, by decide, rfl, rfl, wi_1 _ (List.mem_of_getElem? (i := 85) rfl) rfl, rfl⟩, fun h => absurd h (show ¬ (2 : Nat) = 41 by decide)⟩
theorem fl_7_163 : ma_fP 7 (163, 2, 4, 0) := ⟨fun _ => ⟨by decide, rfl, by decide, rfl, rfl, wi_1 _ (List.mem_of_getElem? (i := 88) rfl) rfl, rfl⟩, fun h => absurd h (show ¬ (2 : Nat) = 41 by decide)⟩
theorem fl_7_166 : ma_fP 7 (166, 2, 5, 0) := ⟨fun _ => ⟨by decide, rfl, by decide, rfl, rfl, wi_1 _ (List.mem_of_getElem? (i := 92) rfl) rfl, rfl⟩, fun h => absurd h (show ¬ (2 : Nat) = 41 by decide)⟩
theorem fl_7_169 : ma_fP 7 (169, 2, 6, 0) := ⟨fun _ => ⟨by decide, rfl, by decide, rfl, rfl, wi_1 _ (List.mem_of_getElem? (i := 95) rfl) rfl, rfl⟩, fun h => absurd h (show ¬ (2 : Nat) = 41 by decide)⟩
theorem fl_7_172 : ma_fP 7 (172, 2, 7, 0) := ⟨fun _ => ⟨by decide, rfl, by decide, rfl, rfl, wi_1 _ (List.mem_of_getElem? (i := 98) rfl) rfl, rfl⟩, fun h => absurd h (show ¬ (2 : Nat) = 41 by decide)⟩
theorem fl_7_179 : ma_fP 7 (179, 7, 4, 0) := ⟨fun _ => ⟨by decide, rfl, by decide, rfl, rfl, wi_1 _ (List.mem_of_getElem? (i := 159) rfl) rfl, rfl⟩, fun h => absurd h (show ¬ (7 : Nat) = 41 by decide)⟩
theorem fl_7_182 : ma_fP 7 (182, 7, 0, 2) := ⟨fun _ => ⟨by decide, rfl, by decide, rfl, rfl, wi_1 _ (List.mem_of_getElem? (i := 154) rfl) rfl, rfl⟩, fun h => absurd h (show ¬ (7 : Nat) = 41 by decide)⟩
theorem fl_7_201 : ma_fP 7 (201, 2, 9, 2) := ⟨fun _ => ⟨by decide, rfl, by decide, rfl, rfl, wi_1 _ (List.mem_of_getElem? (i := 104) rfl) rfl, rfl⟩, fun h => absurd h (show ¬ (2 : Nat) = 41 by decide)⟩
theorem fl_7_208 : ma_fP 7 (208, 9, 4, 0) := ⟨fun _ => ⟨by decide, rfl, by decide, rfl, rfl, wi_1 _ (List.mem_of_getElem? (i := 190) rfl) rfl, rfl⟩, fun h => absurd h (show ¬ (9 : Nat) = 41 by decide)⟩
theorem fl_7_209 : ma_fP 7 (209, 9, 3, 0) := ⟨fun _ => ⟨by decide, rfl, by decide, rfl, rfl, wi_1 _ (List.mem_of_getElem? (i := 188) rfl) rfl, rfl⟩, fun h => absurd h (show ¬ (9 : Nat) = 41 by decide)⟩
theorem fl_7_210 : ma_fP 7 (210, 9, 2, 2) := ⟨fun _ => ⟨by decide, rfl, by decide, rfl, rfl, wi_1 _ (List.mem_of_getElem? (i := 186) rfl) rfl, rfl⟩, fun h => absurd h (show ¬ (9 : Nat) = 41 by decide)⟩
theorem fl_7_220 : ma_fP 7 (220, 6, 0, 2) := ⟨fun _ => ⟨by decide, rfl, by decide, rfl, rfl, wi_1 _ (List.mem_of_getElem? (i := 135) rfl) rfl, rfl⟩, fun h => absurd h (show ¬ (6 : Nat) = 41 by decide)⟩
theorem fl_7_228 : ma_fP 7 (228, 2, 1, 0) := ⟨fun _ => ⟨by decide, rfl, by decide, rfl, rfl, wi_1 _ (List.mem_of_getElem? (i := 79) rfl) rfl, rfl⟩, fun h => absurd h (show ¬ (2 : Nat) = 41 by decide)⟩
theorem fl_7_234 : ma_fP 7 (234, 16, 2, 0) := ⟨fun _ => ⟨by decide, rfl, by decide, rfl, rfl, wi_1 _ (List.mem_of_getElem? (i := 232) rfl) rfl, rfl⟩, fun h => absurd h (show ¬ (16 : Nat) = 41 by decide)⟩
theorem fl_7_270 : ma_fP 7 (270, 2, 8, 0) := ⟨fun _ => ⟨by decide, rfl, by decide, rfl, rfl, wi_1 _ (List.mem_of_getElem? (i := 100) rfl) rfl, rfl⟩, fun h => absurd h (show ¬ (2 : Nat) = 41 by decide)⟩
theorem fl_7_283 : ma_fP 7 (283, 1, 3, 1) := ⟨fun _ => ⟨by decide, rfl, by decide, rfl, rfl, wi_2 _ (List.mem_of_getElem? (i := 4) rfl) rfl, rfl⟩, fun h => absurd h (show ¬ (1 : Nat) = 41 by decide)⟩
theorem fl_7_293 : ma_fP 7 (293, 13, 1, 0) := ⟨fun _ => ⟨by decide, rfl, by decide, rfl, rfl, wi_1 _ (List.mem_of_getElem? (i := 213) rfl) rfl, rfl⟩, fun h => absurd h (show ¬ (13 : Nat) = 41 by decide)⟩
theorem fl_7_328 : ma_fP 7 (328, 4, 0, 0) := ⟨fun _ => ⟨by decide, rfl, by decide, rfl, rfl, wi_1 _ (List.mem_of_getElem? (i := 38) rfl) rfl, rfl⟩, fun h => absurd h (show ¬ (4 : Nat) = 41 by decide)⟩
theorem ftP_7 : ∀ q ∈ ft_7, ma_fP 7 q := List.forall_mem_cons.mpr ⟨fl_7_10, List.forall_mem_cons.mpr ⟨fl_7_16, List.forall_mem_cons.mpr ⟨fl_7_19, List.forall_mem_cons.mpr ⟨fl_7_25, List.forall_mem_cons.mpr ⟨fl_7_32, List.forall_mem_cons.mpr ⟨fl_7_39, List.forall_mem_cons.mpr ⟨fl_7_46, List.forall_mem_cons.mpr ⟨fl_7_52, List.forall_mem_cons.mpr ⟨fl_7_56, List.forall_mem_cons.mpr ⟨fl_7_60, List.forall_mem_cons.mpr ⟨fl_7_91, List.forall_mem_cons.mpr ⟨fl_7_108, List.forall_mem_cons.mpr ⟨fl_7_114, List.forall_mem_cons.mpr ⟨fl_7_139, List.forall_mem_cons.mpr ⟨fl_7_142, List.forall_mem_cons.mpr ⟨fl_7_145, List.forall_mem_cons.mpr ⟨fl_7_148, List.forall_mem_cons.mpr ⟨fl_7_151, List.forall_mem_cons.mpr ⟨fl_7_154, List.forall_mem_cons.mpr ⟨fl_7_157, List.forall_mem_cons.mpr ⟨fl_7_160, List.forall_mem_cons.mpr ⟨fl_7_163, List.forall_mem_cons.mpr ⟨fl_7_166, List.forall_mem_cons.mpr ⟨fl_7_169, List.forall_mem_cons.mpr ⟨fl_7_172, List.forall_mem_cons.mpr ⟨fl_7_179, List.forall_mem_cons.mpr ⟨fl_7_182, List.forall_mem_cons.mpr ⟨fl_7_201, List.forall_mem_cons.mpr ⟨fl_7_208, List.forall_mem_cons.mpr ⟨fl_7_209, List.forall_mem_cons.mpr ⟨fl_7_210, List.forall_mem_cons.mpr ⟨fl_7_220, List.forall_mem_cons.mpr ⟨fl_7_228, List.forall_mem_cons.mpr ⟨fl_7_234, List.forall_mem_cons.mpr ⟨fl_7_270, List.forall_mem_cons.mpr ⟨fl_7_283, List.forall_mem_cons.mpr ⟨fl_7_293, List.forall_mem_cons.mpr ⟨fl_7_328, fun _ h => absurd h List.not_mem_nil⟩⟩⟩⟩⟩⟩⟩⟩⟩⟩⟩⟩⟩⟩⟩⟩⟩⟩⟩⟩⟩⟩⟩⟩⟩⟩⟩⟩⟩⟩⟩⟩⟩⟩⟩⟩⟩⟩
def ft_8 : List (Nat × Nat × Nat × Nat) := [(7, 20, 2, 0), (13, 20, 4, 0), (16, 20, 6, 0), (19, 20, 7, 0), (22, 20, 8, 0), (25, 20, 9, 0), (28, 20, 10, 2), (32, 20, 11, 2), (35, 20, 12, 2), (38, 20, 13, 2), (41, 20, 14, 2), (44, 20, 15, 2), (47, 20, 16, 2), (50, 20, 17, 2), (53, 20, 18, 2), (56, 20, 19, 2), (59, 20, 20, 2), (62, 20, 21, 2), (66, 20, 22, 2), (69, 20, 23, 2), (72, 20, 24, 2), (75, 20, 25, 2), (78, 20, 31, 2), (81, 20, 32, 2), (84, 20, 33, 2), (87, 20, 34, 2), (90, 20, 35, 2), (93, 20, 36, 2), (96, 20, 44, 2), (99, 20, 1, 0), (133, 20, 3, 0), (136, 20, 5, 0), (145, 20, 30, 0), (148, 20, 27, 0), (151, 20, 28, 0), (154, 20, 26, 0), (157, 20, 29, 0), (226, 20, 37, 0), (229, 20, 38, 0), (232, 20, 39, 0), (239, 20, 40, 0), (242, 20, 41, 0), (245, 20, 43, 1), (263, 20, 42, 0), (307, 20, 45, 0), (322, 20, 46, 1)]
theorem fl_8_7 : ma_fP 8 (7, 20, 2, 0) := ⟨fun _ => ⟨by decide, rfl, by decide, rfl, rfl, wi_4 _ (List.mem_of_getElem? (i := 108) rfl) rfl, rfl⟩, fun h => absurd h (show ¬ (20 : Nat) = 41 by decide)⟩
theorem fl_8_13 : ma_fP 8 (13, 20, 4, 0) := ⟨fun _ => ⟨by decide, rfl, by decide, rfl, rfl, wi_4 _ (List.mem_of_getElem? (i := 110) rfl) rfl, rfl⟩, fun h => absurd h (show ¬ (20 : Nat) = 41 by decide)⟩
theorem fl_8_16 : ma_fP 8 (16, 20, 6, 0) := ⟨fun _ => ⟨by decide, rfl, by decide, rfl, rfl, wi_4 _ (List.mem_of_getElem? (i := 112) rfl) rfl, rfl⟩, fun h => absurd h (show ¬ (20 : Nat) = 41 by decide)⟩
theorem fl_8_19 : ma_fP 8 (19, 20, 7, 0) := ⟨fun _ => ⟨by decide, rfl, by decide, rfl, rfl, wi_4 _ (List.mem_of_getElem? (i := 113) rfl) rfl, rfl⟩, fun h => absurd h (show ¬ (20 : Nat) = 41 by decide)⟩
theorem fl_8_22 : ma_fP 8 (22, 20, 8, 0) := ⟨fun _ => ⟨by decide, rfl, by decide, rfl, rfl, wi_4 _ (List.mem_of_getElem? (i := 114) rfl) rfl, rfl⟩, fun h => absurd h (show ¬ (20 : Nat) = 41 by decide)⟩
theorem fl_8_25 : ma_fP 8 (25, 20, 9, 0) := ⟨fun _ => ⟨by decide, rfl, by decide, rfl, rfl, wi_4 _ (List.mem_of_getElem? (i := 115) rfl) rfl, rfl⟩, fun h => absurd h (show ¬ (20 : Nat) = 41 by decide)⟩
theorem fl_8_28 : ma_fP 8 (28, 20, 10, 2) := ⟨fun _ => ⟨by decide, rfl, by decide, rfl, rfl, wi_4 _ (List.mem_of_getElem? (i := 116) rfl) rfl, rfl⟩, fun h => absurd h (show ¬ (20 : Nat) = 41 by decide)⟩
theorem fl_8_32 : ma_fP 8 (32, 20, 11, 2) := ⟨fun _ => ⟨by decide, rfl, by decide, rfl, rfl, wi_4 _ (List.mem_of_getElem? (i := 117) rfl) rfl, rfl⟩, fun h => absurd h (show ¬ (20 : Nat) = 41 by decide)⟩
theorem fl_8_35 : ma_fP 8 (35, 20, 12, 2) := ⟨fun _ => ⟨by decide, rfl, by decide, rfl, rfl, wi_4 _ (List.mem_of_getElem? (i := 118) rfl) rfl, rfl⟩, fun h => absurd h (show ¬ (20 : Nat) = 41 by decide)⟩
theorem fl_8_38 : ma_fP 8 (38, 20, 13, 2) := ⟨fun _ => ⟨by decide, rfl, by decide, rfl, rfl, wi_4 _ (List.mem_of_getElem? (i := 119) rfl) rfl, rfl⟩, fun h => absurd h (show ¬ (20 : Nat) = 41 by decide)⟩
theorem fl_8_41 : ma_fP 8 (41, 20, 14, 2) := ⟨fun _ => ⟨by decide, rfl, by decide, rfl, rfl, wi_4 _ (List.mem_of_getElem? (i := 120) rfl) rfl, rfl⟩, fun h => absurd h (show ¬ (20 : Nat) = 41 by decide)⟩
theorem fl_8_44 : ma_fP 8 (44, 20, 15, 2) := ⟨fun _ => ⟨by decide, rfl, by decide, rfl, rfl, wi_4 _ (List.mem_of_getElem? (i := 121) rfl) rfl, rfl⟩, fun h => absurd h (show ¬ (20 : Nat) = 41 by decide)⟩
theorem fl_8_47 : ma_fP 8 (47, 20, 16, 2) := ⟨fun _ => ⟨by decide, rfl, by decide, rfl, rfl, wi_4 _ (List.mem_of_getElem? (i := 122) rfl) rfl, rfl⟩, fun h => absurd h (show ¬ (20 : Nat) = 41 by decide)⟩
theorem fl_8_50 : ma_fP 8 (50, 20, 17, 2) := ⟨fun _ => ⟨by decide, rfl, by decide, rfl, rfl, wi_4 _ (List.mem_of_getElem? (i := 123) rfl) rfl, rfl⟩, fun h => absurd h (show ¬ (20 : Nat) = 41 by decide)⟩
theorem fl_8_53 : ma_fP 8 (53, 20, 18, 2) := ⟨fun _ => ⟨by decide, rfl, by decide, rfl, rfl, wi_4 _ (List.mem_of_getElem? (i := 124) rfl) rfl, rfl⟩, fun h => absurd h (show ¬ (20 : Nat) = 41 by decide)⟩
theorem fl_8_56 : ma_fP 8 (56, 20, 19, 2) := ⟨fun _ => ⟨by decide, rfl, by decide, rfl, rfl, wi_4 _ (List.mem_of_getElem? (i := 125) rfl) rfl, rfl⟩, fun h => absurd h (show ¬ (20 : Nat) = 41 by decide)⟩
theorem fl_8_59 : ma_fP 8 (59, 20, 20, 2) := ⟨fun _ => ⟨by decide, rfl, by decide, rfl, rfl, wi_4 _ (List.mem_of_getElem? (i := 126) rfl) rfl, rfl⟩, fun h => absurd h (show ¬ (20 : Nat) = 41 by decide)⟩
theorem fl_8_62 : ma_fP 8 (62, 20, 21, 2) := ⟨fun _ => ⟨by decide, rfl, by decide, rfl, rfl, wi_4 _ (List.mem_of_getElem? (i := 127) rfl) rfl, rfl⟩, fun h => absurd h (show ¬ (20 : Nat) = 41 by decide)⟩
theorem fl_8_66 : ma_fP 8 (66, 20, 22, 2) := ⟨fun _ => ⟨by decide, rfl, by decide, rfl, rfl, wi_4 _ (List.mem_of_getElem? (i := 128) rfl) rfl, rfl⟩, fun h => absurd h (show ¬ (20 : Nat) = 41 by decide)⟩
theorem fl_8_69 : ma_fP 8 (69, 20, 23, 2) := ⟨fun _ => ⟨by decide, rfl, by decide, rfl, rfl, wi_4 _ (List.mem_of_getElem? (i := 129) rfl) rfl, rfl⟩, fun h => absurd h (show ¬ (20 : Nat) = 41 by decide)⟩
theorem fl_8_72 : ma_fP 8 (72, 20, 24, 2) := ⟨fun _ => ⟨by decide, rfl, by decide, rfl, rfl, wi_4 _ (List.mem_of_getElem? (i := 130) rfl) rfl, rfl⟩, fun h => absurd h (show ¬ (20 : Nat) = 41 by decide)⟩
theorem fl_8_75 : ma_fP 8 (75, 20, 25, 2) := ⟨fun _ => ⟨by decide, rfl, by decide, rfl, rfl, wi_4 _ (List.mem_of_getElem? (i := 131) rfl) rfl, rfl⟩, fun h => absurd h (show ¬ (20 : Nat) = 41 by decide)⟩
theorem fl_8_78 : ma_fP 8 (78, 20, 31, 2) := ⟨fun _ => ⟨by decide, rfl, by decide, rfl, rfl, wi_4 _ (List.mem_of_getElem? (i := 137) rfl) rfl, rfl⟩, fun h => absurd h (show ¬ (20 : Nat) = 41 by decide)⟩
theorem fl_8_81 : ma_fP 8 (81, 20, 32, 2) := ⟨fun _ => ⟨by decide, rfl, by decide, rfl, rfl, wi_4 _ (List.mem_of_getElem? (i := 138) rfl) rfl, rfl⟩, fun h => absurd h (show ¬ (20 : Nat) = 41 by decide)⟩
theorem fl_8_84 : ma_fP 8 (84, 20, 33, 2) := ⟨fun _ => ⟨by decide, rfl, by decide, rfl, rfl, wi_4 _ (List.mem_of_getElem? (i := 139) rfl) rfl, rfl⟩, fun h => absurd h (show ¬ (20 : Nat) = 41 by decide)⟩
theorem fl_8_87 : ma_fP 8 (87, 20, 34, 2) := ⟨fun _ => ⟨by decide, rfl, by decide, rfl, rfl, wi_4 _ (List.mem_of_getElem? (i := 140) rfl) rfl, rfl⟩, fun h => absurd h (show ¬ (20 : Nat) = 41 by decide)⟩
theorem fl_8_90 : ma_fP 8 (90, 20, 35, 2) := ⟨fun _ => ⟨by decide, rfl, by decide, rfl, rfl, wi_4 _ (List.mem_of_getElem? (i := 141) rfl) rfl, rfl⟩, fun h => absurd h (show ¬ (20 : Nat) = 41 by decide)⟩
theorem fl_8_93 : ma_fP 8 (93, 20, 36, 2) := ⟨fun _ => ⟨by decide, rfl, by decide, rfl, rfl, wi_4 _ (List.mem_of_getElem? (i := 142) rfl) rfl, rfl⟩, fun h => absurd h (show ¬ (20 : Nat) = 41 by decide)⟩
theorem fl_8_96 : ma_fP 8 (96, 20, 44, 2) := ⟨fun _ => ⟨by decide, rfl, by decide, rfl, rfl, wi_4 _ (List.mem_of_getElem? (i := 150) rfl) rfl, rfl⟩, fun h => absurd h (show ¬ (20 : Nat) = 41 by decide)⟩
theorem fl_8_99 : ma_fP 8 (99, 20, 1, 0) := ⟨fun _ => ⟨by decide, rfl, by decide, rfl, rfl, wi_4 _ (List.mem_of_getElem? (i := 107) rfl) rfl, rfl⟩, fun h => absurd h (show ¬ (20 : Nat) = 41 by decide)⟩
theorem fl_8_133 : ma_fP 8 (133, 20, 3, 0) := ⟨fun _ => ⟨by decide, rfl, by decide, rfl, rfl, wi_4 _ (List.mem_of_getElem? (i := 109) rfl) rfl, rfl⟩, fun h => absurd h (show ¬ (20 : Nat) = 41 by decide)⟩
theorem fl_8_136 : ma_fP 8 (136, 20, 5, 0) := ⟨fun _ => ⟨by decide, rfl, by decide, rfl, rfl, wi_4 _ (List.mem_of_getElem? (i := 111) rfl) rfl, rfl⟩, fun h => absurd h (show ¬ (20 : Nat) = 41 by decide)⟩
theorem fl_8_145 : ma_fP 8 (145, 20, 30, 0) := ⟨fun _ => ⟨by decide, rfl, by decide, rfl, rfl, wi_4 _ (List.mem_of_getElem? (i := 136) rfl) rfl, rfl⟩, fun h => absurd h (show ¬ (20 : Nat) = 41 by decide)⟩
theorem fl_8_148 : ma_fP 8 (148, 20, 27, 0) := ⟨fun _ => ⟨by decide, rfl, by decide, rfl, rfl, wi_4 _ (List.mem_of_getElem? (i := 133) rfl) rfl, rfl⟩, fun h => absurd h (show ¬ (20 : Nat) = 41 by decide)⟩
theorem fl_8_151 : ma_fP 8 (151, 20, 28, 0) := ⟨fun _ => ⟨by decide, rfl, by decide, rfl, rfl, wi_4 _ (List.mem_of_getElem? (i := 134) rfl) rfl, rfl⟩, fun h => absurd h (show ¬ (20 : Nat) = 41 by decide)⟩
theorem fl_8_154 : ma_fP 8 (154, 20, 26, 0) := ⟨fun _ => ⟨by decide, rfl, by decide, rfl, rfl, wi_4 _ (List.mem_of_getElem? (i := 132) rfl) rfl, rfl⟩, fun h => absurd h (show ¬ (20 : Nat) = 41 by decide)⟩
theorem fl_8_157 : ma_fP 8 (157, 20, 29, 0) := ⟨fun _ => ⟨by decide, rfl, by decide, rfl, rfl, wi_4 _ (List.mem_of_getElem? (i := 135) rfl) rfl, rfl⟩, fun h => absurd h (show ¬ (20 : Nat) = 41 by decide)⟩
theorem fl_8_226 : ma_fP 8 (226, 20, 37, 0) := ⟨fun _ => ⟨by decide, rfl, by decide, rfl, rfl, wi_4 _ (List.mem_of_getElem? (i := 143) rfl) rfl, rfl⟩, fun h => absurd h (show ¬ (20 : Nat) = 41 by decide)⟩
theorem fl_8_229 : ma_fP 8 (229, 20, 38, 0) := ⟨fun _ => ⟨by decide, rfl, by decide, rfl, rfl, wi_4 _ (List.mem_of_getElem? (i := 144) rfl) rfl, rfl⟩, fun h => absurd h (show ¬ (20 : Nat) = 41 by decide)⟩
theorem fl_8_232 : ma_fP 8 (232, 20, 39, 0) := ⟨fun _ => ⟨by decide, rfl, by decide, rfl, rfl, wi_4 _ (List.mem_of_getElem? (i := 145) rfl) rfl, rfl⟩, fun h => absurd h (show ¬ (20 : Nat) = 41 by decide)⟩
theorem fl_8_239 : ma_fP 8 (239, 20, 40, 0) := ⟨fun _ => ⟨by decide, rfl, by decide, rfl, rfl, wi_4 _ (List.mem_of_getElem? (i := 146) rfl) rfl, rfl⟩, fun h => absurd h (show ¬ (20 : Nat) = 41 by decide)⟩
theorem fl_8_242 : ma_fP 8 (242, 20, 41, 0) := ⟨fun _ => ⟨by decide, rfl, by decide, rfl, rfl, wi_4 _ (List.mem_of_getElem? (i := 147) rfl) rfl, rfl⟩, fun h => absurd h (show ¬ (20 : Nat) = 41 by decide)⟩
theorem fl_8_245 : ma_fP 8 (245, 20, 43, 1) := ⟨fun _ => ⟨by decide, rfl, by decide, rfl, rfl, wi_4 _ (List.mem_of_getElem? (i := 149) rfl) rfl, rfl⟩, fun h => absurd h (show ¬ (20 : Nat) = 41 by decide)⟩
theorem fl_8_263 : ma_fP 8 (263, 20, 42, 0) := ⟨fun _ => ⟨by decide, rfl, by decide, rfl, rfl, wi_4 _ (List.mem_of_getElem? (i := 148) rfl) rfl, rfl⟩, fun h => absurd h (show ¬ (20 : Nat) = 41 by decide)⟩
theorem fl_8_307 : ma_fP 8 (307, 20, 45, 0) := ⟨fun _ => ⟨by decide, rfl, by decide, rfl, rfl, wi_4 _ (List.mem_of_getElem? (i := 151) rfl) rfl, rfl⟩, fun h => absurd h (show ¬ (20 : Nat) = 41 by decide)⟩
theorem fl_8_322 : ma_fP 8 (322, 20, 46, 1) := ⟨fun _ => ⟨by decide, rfl, by decide, rfl, rfl, wi_4 _ (List.mem_of_getElem? (i := 152) rfl) rfl, rfl⟩, fun h => absurd h (show ¬ (20 : Nat) = 41 by decide)⟩
theorem ftP_8 : ∀ q ∈ ft_8, ma_fP 8 q := List.forall_mem_cons.mpr ⟨fl_8_7, List.forall_mem_cons.mpr ⟨fl_8_13, List.forall_mem_cons.mpr ⟨fl_8_16, List.forall_mem_cons.mpr ⟨fl_8_19, List.forall_mem_cons.mpr ⟨fl_8_22, List.forall_mem_cons.mpr ⟨fl_8_25, List.forall_mem_cons.mpr ⟨fl_8_28, List.forall_mem_cons.mpr ⟨fl_8_32, List.forall_mem_cons.mpr ⟨fl_8_35, List.forall_mem_cons.mpr ⟨fl_8_38, List.forall_mem_cons.mpr ⟨fl_8_41, List.forall_mem_cons.mpr ⟨fl_8_44, List.forall_mem_cons.mpr ⟨fl_8_47, List.forall_mem_cons.mpr ⟨fl_8_50, List.forall_mem_cons.mpr ⟨fl_8_53, List.forall_mem_cons.mpr ⟨fl_8_56, List.forall_mem_cons.mpr ⟨fl_8_59, List.forall_mem_cons.mpr ⟨fl_8_62, List.forall_mem_cons.mpr ⟨fl_8_66, List.forall_mem_cons.mpr ⟨fl_8_69, List.forall_mem_cons.mpr ⟨fl_8_72, List.forall_mem_cons.mpr ⟨fl_8_75, List.forall_mem_cons.mpr ⟨fl_8_78, List.forall_mem_cons.mpr ⟨fl_8_81, List.forall_mem_cons.mpr ⟨fl_8_84, List.forall_mem_cons.mpr ⟨fl_8_87, List.forall_mem_cons.mpr ⟨fl_8_90, List.forall_mem_cons.mpr ⟨fl_8_93, List.forall_mem_cons.mpr ⟨fl_8_96, List.forall_mem_cons.mpr ⟨fl_8_99, List.forall_mem_cons.mpr ⟨fl_8_133, List.forall_mem_cons.mpr ⟨fl_8_136, List.forall_mem_cons.mpr ⟨fl_8_145, List.forall_mem_cons.mpr ⟨fl_8_148, List.forall_mem_cons.mpr ⟨fl_8_151, List.forall_mem_cons.mpr ⟨fl_8_154, List.forall_mem_cons.mpr ⟨fl_8_157, List.forall_mem_cons.mpr ⟨fl_8_226, List.forall_mem_cons.mpr ⟨fl_8_229, List.forall_mem_cons.mpr ⟨fl_8_232, List.forall_mem_cons.mpr ⟨fl_8_239, List.forall_mem_cons.mpr ⟨fl_8_242, List.forall_mem_cons.mpr ⟨fl_8_245, List.forall_mem_cons.mpr ⟨fl_8_263, List.forall_mem_cons.mpr ⟨fl_8_307, List.forall_mem_cons.mpr ⟨fl_8_322, fun _ h => absurd h List.not_mem_nil⟩⟩⟩⟩⟩⟩⟩⟩⟩⟩⟩⟩⟩⟩⟩⟩⟩⟩⟩⟩⟩⟩⟩⟩⟩⟩⟩⟩⟩⟩⟩⟩⟩⟩⟩⟩⟩⟩⟩⟩⟩⟩⟩⟩⟩⟩
def ft_9 : List (Nat × Nat × Nat × Nat) := [(9, 41, 0, 2), (15, 41, 1, 3)]
theorem fl_9_9 : ma_fP 9 (9, 41, 0, 2) := ⟨fun h => absurd rfl h, fun _ => Or.inl ⟨rfl, rfl, wi_6 _ (List.mem_of_getElem? (i := 129) rfl) rfl⟩⟩
theorem fl_9_15 : ma_fP 9 (15, 41, 1, 3) := ⟨fun h => absurd rfl h, fun _ => Or.inr ⟨rfl, rfl, wi_6 _ (List.mem_of_getElem? (i := 130) rfl) rfl⟩⟩
theorem ftP_9 : ∀ q ∈ ft_9, ma_fP 9 q := List.forall_mem_cons.mpr ⟨fl_9_9, List.forall_mem_cons.mpr ⟨fl_9_15, fun _ h => absurd h List.not_mem_nil⟩⟩
theorem ma_ft_ok {c i : Nat} {x : Nat × Nat × Nat} (h : ma_ft c i = some x) : ma_fP c (i, x) := by
  unfold ma_ft at h
  split at h
  · exact ftP_0 _ (ma_lu_mem ft_0 _ _ h)
  · exact ftP_1 _ (ma_lu_mem ft_1 _ _ h)
  · exact ftP_2 _ (ma_lu_mem ft_2 _ _ h)
  · exact ftP_3 _ (ma_lu_mem ft_3 _ _ h)
  · exact ftP_4 _ (ma_lu_mem ft_4 _ _ h)
  · exact ftP_5 _ (ma_lu_mem ft_5 _ _ h)
  · exact ftP_6 _ (ma_lu_mem ft_6 _ _ h)
  · exact ftP_7 _ (ma_lu_mem ft_7 _ _ h)
  · exact ftP_8 _ (ma_lu_mem ft_8 _ _ h)
  · exact ftP_9 _ (ma_lu_mem ft_9 _ _ h)
  · cases h
/-- what the words say of a method: its code, its kind, its class -/
def ma_mP (μ : Nat) : Prop := Cond.code (ma_nm μ) (ma_by μ) (ma_ml μ) (ma_rf_ μ) ∈ ma_tb ∧ Cond.initialized (ma_cn (ma_cl μ)) ∈ ma_tb ∧ plainName (ma_nm μ).cls = true ∧ (ma_nm μ).cls = ma_cn (ma_cl μ) ∧ ((ma_nm μ).cls ≠ "java/lang/invoke/MethodHandle" ∧ (ma_nm μ).cls ≠ "java/lang/invoke/VarHandle") ∧ ma_ml μ ≤ 20
theorem mp_0 : ma_mP 0 := ⟨wi_2 _ (List.mem_of_getElem? (i := 187) rfl) rfl, wi_1 _ (List.mem_of_getElem? (i := 2) rfl) rfl, by decide +kernel, rfl, by decide +kernel, by decide⟩
theorem mp_1 : ma_mP 1 := ⟨wi_4 _ (List.mem_of_getElem? (i := 49) rfl) rfl, wi_1 _ (List.mem_of_getElem? (i := 2) rfl) rfl, by decide +kernel, rfl, by decide +kernel, by decide⟩
theorem mp_2 : ma_mP 2 := ⟨wi_2 _ (List.mem_of_getElem? (i := 97) rfl) rfl, wi_1 _ (List.mem_of_getElem? (i := 2) rfl) rfl, by decide +kernel, rfl, by decide +kernel, by decide⟩
theorem mp_3 : ma_mP 3 := ⟨wi_2 _ (List.mem_of_getElem? (i := 146) rfl) rfl, wi_1 _ (List.mem_of_getElem? (i := 2) rfl) rfl, by decide +kernel, rfl, by decide +kernel, by decide⟩
theorem mp_4 : ma_mP 4 := ⟨wi_2 _ (List.mem_of_getElem? (i := 150) rfl) rfl, wi_1 _ (List.mem_of_getElem? (i := 2) rfl) rfl, by decide +kernel, rfl, by decide +kernel, by decide⟩
theorem mp_5 : ma_mP 5 := ⟨wi_4 _ (List.mem_of_getElem? (i := 100) rfl) rfl, wi_1 _ (List.mem_of_getElem? (i := 2) rfl) rfl, by decide +kernel, rfl, by decide +kernel, by decide⟩
theorem mp_6 : ma_mP 6 := ⟨wi_3 _ (List.mem_of_getElem? (i := 191) rfl) rfl, wi_1 _ (List.mem_of_getElem? (i := 2) rfl) rfl, by decide +kernel, rfl, by decide +kernel, by decide⟩
theorem mp_7 : ma_mP 7 := ⟨wi_4 _ (List.mem_of_getElem? (i := 8) rfl) rfl, wi_1 _ (List.mem_of_getElem? (i := 2) rfl) rfl, by decide +kernel, rfl, by decide +kernel, by decide⟩
theorem mp_8 : ma_mP 8 := ⟨wi_3 _ (List.mem_of_getElem? (i := 203) rfl) rfl, wi_1 _ (List.mem_of_getElem? (i := 2) rfl) rfl, by decide +kernel, rfl, by decide +kernel, by decide⟩
theorem mp_9 : ma_mP 9 := ⟨wi_4 _ (List.mem_of_getElem? (i := 40) rfl) rfl, wi_1 _ (List.mem_of_getElem? (i := 2) rfl) rfl, by decide +kernel, rfl, by decide +kernel, by decide⟩
theorem mp_10 : ma_mP 10 := ⟨wi_3 _ (List.mem_of_getElem? (i := 122) rfl) rfl, wi_1 _ (List.mem_of_getElem? (i := 2) rfl) rfl, by decide +kernel, rfl, by decide +kernel, by decide⟩
theorem mp_11 : ma_mP 11 := ⟨wi_3 _ (List.mem_of_getElem? (i := 67) rfl) rfl, wi_1 _ (List.mem_of_getElem? (i := 2) rfl) rfl, by decide +kernel, rfl, by decide +kernel, by decide⟩
theorem mp_12 : ma_mP 12 := ⟨wi_3 _ (List.mem_of_getElem? (i := 80) rfl) rfl, wi_1 _ (List.mem_of_getElem? (i := 2) rfl) rfl, by decide +kernel, rfl, by decide +kernel, by decide⟩
theorem mp_13 : ma_mP 13 := ⟨wi_3 _ (List.mem_of_getElem? (i := 139) rfl) rfl, wi_1 _ (List.mem_of_getElem? (i := 2) rfl) rfl, by decide +kernel, rfl, by decide +kernel, by decide⟩
theorem mp_14 : ma_mP 14 := ⟨wi_3 _ (List.mem_of_getElem? (i := 64) rfl) rfl, wi_1 _ (List.mem_of_getElem? (i := 2) rfl) rfl, by decide +kernel, rfl, by decide +kernel, by decide⟩
theorem mp_15 : ma_mP 15 := ⟨wi_3 _ (List.mem_of_getElem? (i := 60) rfl) rfl, wi_1 _ (List.mem_of_getElem? (i := 2) rfl) rfl, by decide +kernel, rfl, by decide +kernel, by decide⟩
theorem mp_16 : ma_mP 16 := ⟨wi_3 _ (List.mem_of_getElem? (i := 56) rfl) rfl, wi_1 _ (List.mem_of_getElem? (i := 2) rfl) rfl, by decide +kernel, rfl, by decide +kernel, by decide⟩
theorem mp_17 : ma_mP 17 := ⟨wi_3 _ (List.mem_of_getElem? (i := 52) rfl) rfl, wi_1 _ (List.mem_of_getElem? (i := 2) rfl) rfl, by decide +kernel, rfl, by decide +kernel, by decide⟩
theorem mp_18 : ma_mP 18 := ⟨wi_3 _ (List.mem_of_getElem? (i := 77) rfl) rfl, wi_1 _ (List.mem_of_getElem? (i := 2) rfl) rfl, by decide +kernel, rfl, by decide +kernel, by decide⟩
theorem mp_19 : ma_mP 19 := ⟨wi_3 _ (List.mem_of_getElem? (i := 94) rfl) rfl, wi_1 _ (List.mem_of_getElem? (i := 2) rfl) rfl, by decide +kernel, rfl, by decide +kernel, by decide⟩
theorem mp_20 : ma_mP 20 := ⟨wi_3 _ (List.mem_of_getElem? (i := 119) rfl) rfl, wi_1 _ (List.mem_of_getElem? (i := 2) rfl) rfl, by decide +kernel, rfl, by decide +kernel, by decide⟩
theorem mp_21 : ma_mP 21 := ⟨wi_3 _ (List.mem_of_getElem? (i := 130) rfl) rfl, wi_1 _ (List.mem_of_getElem? (i := 6) rfl) rfl, by decide +kernel, rfl, by decide +kernel, by decide⟩
theorem mp_22 : ma_mP 22 := ⟨wi_3 _ (List.mem_of_getElem? (i := 135) rfl) rfl, wi_1 _ (List.mem_of_getElem? (i := 6) rfl) rfl, by decide +kernel, rfl, by decide +kernel, by decide⟩
theorem mp_23 : ma_mP 23 := ⟨wi_3 _ (List.mem_of_getElem? (i := 144) rfl) rfl, wi_1 _ (List.mem_of_getElem? (i := 6) rfl) rfl, by decide +kernel, rfl, by decide +kernel, by decide⟩
theorem mp_24 : ma_mP 24 := ⟨wi_2 _ (List.mem_of_getElem? (i := 183) rfl) rfl, wi_1 _ (List.mem_of_getElem? (i := 5) rfl) rfl, by decide +kernel, rfl, by decide +kernel, by decide⟩
theorem mp_25 : ma_mP 25 := ⟨wi_2 _ (List.mem_of_getElem? (i := 199) rfl) rfl, wi_1 _ (List.mem_of_getElem? (i := 5) rfl) rfl, by decide +kernel, rfl, by decide +kernel, by decide⟩
theorem mp_26 : ma_mP 26 := ⟨wi_3 _ (List.mem_of_getElem? (i := 33) rfl) rfl, wi_1 _ (List.mem_of_getElem? (i := 5) rfl) rfl, by decide +kernel, rfl, by decide +kernel, by decide⟩
theorem mp_27 : ma_mP 27 := ⟨wi_3 _ (List.mem_of_getElem? (i := 47) rfl) rfl, wi_1 _ (List.mem_of_getElem? (i := 5) rfl) rfl, by decide +kernel, rfl, by decide +kernel, by decide⟩
theorem mp_28 : ma_mP 28 := ⟨wi_2 _ (List.mem_of_getElem? (i := 206) rfl) rfl, wi_1 _ (List.mem_of_getElem? (i := 5) rfl) rfl, by decide +kernel, rfl, by decide +kernel, by decide⟩
theorem mp_29 : ma_mP 29 := ⟨wi_2 _ (List.mem_of_getElem? (i := 203) rfl) rfl, wi_1 _ (List.mem_of_getElem? (i := 5) rfl) rfl, by decide +kernel, rfl, by decide +kernel, by decide⟩
theorem mp_30 : ma_mP 30 := ⟨wi_3 _ (List.mem_of_getElem? (i := 38) rfl) rfl, wi_1 _ (List.mem_of_getElem? (i := 5) rfl) rfl, by decide +kernel, rfl, by decide +kernel, by decide⟩
theorem mp_31 : ma_mP 31 := ⟨wi_3 _ (List.mem_of_getElem? (i := 42) rfl) rfl, wi_1 _ (List.mem_of_getElem? (i := 5) rfl) rfl, by decide +kernel, rfl, by decide +kernel, by decide⟩
theorem mp_32 : ma_mP 32 := ⟨wi_2 _ (List.mem_of_getElem? (i := 228) rfl) rfl, wi_1 _ (List.mem_of_getElem? (i := 5) rfl) rfl, by decide +kernel, rfl, by decide +kernel, by decide⟩
theorem mp_33 : ma_mP 33 := ⟨wi_2 _ (List.mem_of_getElem? (i := 155) rfl) rfl, wi_1 _ (List.mem_of_getElem? (i := 3) rfl) rfl, by decide +kernel, rfl, by decide +kernel, by decide⟩
theorem mp_34 : ma_mP 34 := ⟨wi_2 _ (List.mem_of_getElem? (i := 159) rfl) rfl, wi_1 _ (List.mem_of_getElem? (i := 3) rfl) rfl, by decide +kernel, rfl, by decide +kernel, by decide⟩
theorem mp_35 : ma_mP 35 := ⟨wi_2 _ (List.mem_of_getElem? (i := 191) rfl) rfl, wi_1 _ (List.mem_of_getElem? (i := 3) rfl) rfl, by decide +kernel, rfl, by decide +kernel, by decide⟩
theorem mp_36 : ma_mP 36 := ⟨wi_2 _ (List.mem_of_getElem? (i := 116) rfl) rfl, wi_1 _ (List.mem_of_getElem? (i := 3) rfl) rfl, by decide +kernel, rfl, by decide +kernel, by decide⟩
theorem mp_37 : ma_mP 37 := ⟨wi_2 _ (List.mem_of_getElem? (i := 127) rfl) rfl, wi_1 _ (List.mem_of_getElem? (i := 3) rfl) rfl, by decide +kernel, rfl, by decide +kernel, by decide⟩
theorem mp_38 : ma_mP 38 := ⟨wi_2 _ (List.mem_of_getElem? (i := 131) rfl) rfl, wi_1 _ (List.mem_of_getElem? (i := 3) rfl) rfl, by decide +kernel, rfl, by decide +kernel, by decide⟩
theorem mp_39 : ma_mP 39 := ⟨wi_2 _ (List.mem_of_getElem? (i := 135) rfl) rfl, wi_1 _ (List.mem_of_getElem? (i := 3) rfl) rfl, by decide +kernel, rfl, by decide +kernel, by decide⟩
theorem mp_40 : ma_mP 40 := ⟨wi_4 _ (List.mem_of_getElem? (i := 20) rfl) rfl, wi_1 _ (List.mem_of_getElem? (i := 3) rfl) rfl, by decide +kernel, rfl, by decide +kernel, by decide⟩
theorem mp_41 : ma_mP 41 := ⟨wi_3 _ (List.mem_of_getElem? (i := 84) rfl) rfl, wi_1 _ (List.mem_of_getElem? (i := 3) rfl) rfl, by decide +kernel, rfl, by decide +kernel, by decide⟩
theorem mp_42 : ma_mP 42 := ⟨wi_3 _ (List.mem_of_getElem? (i := 89) rfl) rfl, wi_1 _ (List.mem_of_getElem? (i := 3) rfl) rfl, by decide +kernel, rfl, by decide +kernel, by decide⟩
theorem mp_43 : ma_mP 43 := ⟨wi_3 _ (List.mem_of_getElem? (i := 157) rfl) rfl, wi_1 _ (List.mem_of_getElem? (i := 4) rfl) rfl, by decide +kernel, rfl, by decide +kernel, by decide⟩
theorem mp_44 : ma_mP 44 := ⟨wi_3 _ (List.mem_of_getElem? (i := 162) rfl) rfl, wi_1 _ (List.mem_of_getElem? (i := 4) rfl) rfl, by decide +kernel, rfl, by decide +kernel, by decide⟩
theorem mp_45 : ma_mP 45 := ⟨wi_3 _ (List.mem_of_getElem? (i := 168) rfl) rfl, wi_1 _ (List.mem_of_getElem? (i := 4) rfl) rfl, by decide +kernel, rfl, by decide +kernel, by decide⟩
theorem mp_46 : ma_mP 46 := ⟨wi_3 _ (List.mem_of_getElem? (i := 172) rfl) rfl, wi_1 _ (List.mem_of_getElem? (i := 4) rfl) rfl, by decide +kernel, rfl, by decide +kernel, by decide⟩
theorem mp_47 : ma_mP 47 := ⟨wi_3 _ (List.mem_of_getElem? (i := 177) rfl) rfl, wi_1 _ (List.mem_of_getElem? (i := 4) rfl) rfl, by decide +kernel, rfl, by decide +kernel, by decide⟩
theorem mp_48 : ma_mP 48 := ⟨wi_3 _ (List.mem_of_getElem? (i := 181) rfl) rfl, wi_1 _ (List.mem_of_getElem? (i := 4) rfl) rfl, by decide +kernel, rfl, by decide +kernel, by decide⟩
theorem mp_49 : ma_mP 49 := ⟨wi_3 _ (List.mem_of_getElem? (i := 185) rfl) rfl, wi_1 _ (List.mem_of_getElem? (i := 4) rfl) rfl, by decide +kernel, rfl, by decide +kernel, by decide⟩
theorem mp_50 : ma_mP 50 := ⟨wi_2 _ (List.mem_of_getElem? (i := 65) rfl) rfl, wi_1 _ (List.mem_of_getElem? (i := 8) rfl) rfl, by decide +kernel, rfl, by decide +kernel, by decide⟩
theorem mp_51 : ma_mP 51 := ⟨wi_2 _ (List.mem_of_getElem? (i := 61) rfl) rfl, wi_1 _ (List.mem_of_getElem? (i := 8) rfl) rfl, by decide +kernel, rfl, by decide +kernel, by decide⟩
theorem mp_52 : ma_mP 52 := ⟨wi_2 _ (List.mem_of_getElem? (i := 69) rfl) rfl, wi_1 _ (List.mem_of_getElem? (i := 8) rfl) rfl, by decide +kernel, rfl, by decide +kernel, by decide⟩
theorem mp_53 : ma_mP 53 := ⟨wi_2 _ (List.mem_of_getElem? (i := 101) rfl) rfl, wi_1 _ (List.mem_of_getElem? (i := 8) rfl) rfl, by decide +kernel, rfl, by decide +kernel, by decide⟩
theorem mp_54 : ma_mP 54 := ⟨wi_2 _ (List.mem_of_getElem? (i := 49) rfl) rfl, wi_1 _ (List.mem_of_getElem? (i := 8) rfl) rfl, by decide +kernel, rfl, by decide +kernel, by decide⟩
theorem mp_55 : ma_mP 55 := ⟨wi_2 _ (List.mem_of_getElem? (i := 73) rfl) rfl, wi_1 _ (List.mem_of_getElem? (i := 8) rfl) rfl, by decide +kernel, rfl, by decide +kernel, by decide⟩
theorem mp_56 : ma_mP 56 := ⟨wi_2 _ (List.mem_of_getElem? (i := 195) rfl) rfl, wi_1 _ (List.mem_of_getElem? (i := 8) rfl) rfl, by decide +kernel, rfl, by decide +kernel, by decide⟩
theorem mp_57 : ma_mP 57 := ⟨wi_4 _ (List.mem_of_getElem? (i := 62) rfl) rfl, wi_1 _ (List.mem_of_getElem? (i := 7) rfl) rfl, by decide +kernel, rfl, by decide +kernel, by decide⟩
theorem mp_58 : ma_mP 58 := ⟨wi_4 _ (List.mem_of_getElem? (i := 75) rfl) rfl, wi_1 _ (List.mem_of_getElem? (i := 7) rfl) rfl, by decide +kernel, rfl, by decide +kernel, by decide⟩
theorem mp_59 : ma_mP 59 := ⟨wi_4 _ (List.mem_of_getElem? (i := 84) rfl) rfl, wi_1 _ (List.mem_of_getElem? (i := 7) rfl) rfl, by decide +kernel, rfl, by decide +kernel, by decide⟩
theorem mp_60 : ma_mP 60 := ⟨wi_2 _ (List.mem_of_getElem? (i := 38) rfl) rfl, wi_1 _ (List.mem_of_getElem? (i := 1) rfl) rfl, by decide +kernel, rfl, by decide +kernel, by decide⟩
theorem mp_61 : ma_mP 61 := ⟨wi_2 _ (List.mem_of_getElem? (i := 53) rfl) rfl, wi_1 _ (List.mem_of_getElem? (i := 1) rfl) rfl, by decide +kernel, rfl, by decide +kernel, by decide⟩
theorem mp_62 : ma_mP 62 := ⟨wi_2 _ (List.mem_of_getElem? (i := 78) rfl) rfl, wi_1 _ (List.mem_of_getElem? (i := 1) rfl) rfl, by decide +kernel, rfl, by decide +kernel, by decide⟩
theorem mp_63 : ma_mP 63 := ⟨wi_2 _ (List.mem_of_getElem? (i := 89) rfl) rfl, wi_1 _ (List.mem_of_getElem? (i := 1) rfl) rfl, by decide +kernel, rfl, by decide +kernel, by decide⟩
theorem mp_64 : ma_mP 64 := ⟨wi_2 _ (List.mem_of_getElem? (i := 93) rfl) rfl, wi_1 _ (List.mem_of_getElem? (i := 1) rfl) rfl, by decide +kernel, rfl, by decide +kernel, by decide⟩
theorem mp_65 : ma_mP 65 := ⟨wi_2 _ (List.mem_of_getElem? (i := 105) rfl) rfl, wi_1 _ (List.mem_of_getElem? (i := 1) rfl) rfl, by decide +kernel, rfl, by decide +kernel, by decide⟩
theorem mp_66 : ma_mP 66 := ⟨wi_2 _ (List.mem_of_getElem? (i := 109) rfl) rfl, wi_1 _ (List.mem_of_getElem? (i := 1) rfl) rfl, by decide +kernel, rfl, by decide +kernel, by decide⟩
theorem mp_67 : ma_mP 67 := ⟨wi_2 _ (List.mem_of_getElem? (i := 139) rfl) rfl, wi_1 _ (List.mem_of_getElem? (i := 1) rfl) rfl, by decide +kernel, rfl, by decide +kernel, by decide⟩
theorem mp_68 : ma_mP 68 := ⟨wi_2 _ (List.mem_of_getElem? (i := 163) rfl) rfl, wi_1 _ (List.mem_of_getElem? (i := 1) rfl) rfl, by decide +kernel, rfl, by decide +kernel, by decide⟩
theorem mp_69 : ma_mP 69 := ⟨wi_2 _ (List.mem_of_getElem? (i := 167) rfl) rfl, wi_1 _ (List.mem_of_getElem? (i := 1) rfl) rfl, by decide +kernel, rfl, by decide +kernel, by decide⟩
theorem mp_70 : ma_mP 70 := ⟨wi_2 _ (List.mem_of_getElem? (i := 171) rfl) rfl, wi_1 _ (List.mem_of_getElem? (i := 1) rfl) rfl, by decide +kernel, rfl, by decide +kernel, by decide⟩
theorem mp_71 : ma_mP 71 := ⟨wi_2 _ (List.mem_of_getElem? (i := 175) rfl) rfl, wi_1 _ (List.mem_of_getElem? (i := 1) rfl) rfl, by decide +kernel, rfl, by decide +kernel, by decide⟩
theorem mp_72 : ma_mP 72 := ⟨wi_2 _ (List.mem_of_getElem? (i := 179) rfl) rfl, wi_1 _ (List.mem_of_getElem? (i := 1) rfl) rfl, by decide +kernel, rfl, by decide +kernel, by decide⟩
theorem mp_73 : ma_mP 73 := ⟨wi_3 _ (List.mem_of_getElem? (i := 100) rfl) rfl, wi_1 _ (List.mem_of_getElem? (i := 1) rfl) rfl, by decide +kernel, rfl, by decide +kernel, by decide⟩
theorem mp_74 : ma_mP 74 := ⟨wi_3 _ (List.mem_of_getElem? (i := 104) rfl) rfl, wi_1 _ (List.mem_of_getElem? (i := 1) rfl) rfl, by decide +kernel, rfl, by decide +kernel, by decide⟩
theorem mp_75 : ma_mP 75 := ⟨wi_3 _ (List.mem_of_getElem? (i := 109) rfl) rfl, wi_1 _ (List.mem_of_getElem? (i := 1) rfl) rfl, by decide +kernel, rfl, by decide +kernel, by decide⟩
theorem mp_76 : ma_mP 76 := ⟨wi_3 _ (List.mem_of_getElem? (i := 115) rfl) rfl, wi_1 _ (List.mem_of_getElem? (i := 1) rfl) rfl, by decide +kernel, rfl, by decide +kernel, by decide⟩
theorem mp_77 : ma_mP 77 := ⟨wi_3 _ (List.mem_of_getElem? (i := 126) rfl) rfl, wi_1 _ (List.mem_of_getElem? (i := 1) rfl) rfl, by decide +kernel, rfl, by decide +kernel, by decide⟩
theorem mp_78 : ma_mP 78 := ⟨wi_3 _ (List.mem_of_getElem? (i := 150) rfl) rfl, wi_1 _ (List.mem_of_getElem? (i := 1) rfl) rfl, by decide +kernel, rfl, by decide +kernel, by decide⟩
theorem mp_79 : ma_mP 79 := ⟨wi_3 _ (List.mem_of_getElem? (i := 199) rfl) rfl, wi_1 _ (List.mem_of_getElem? (i := 1) rfl) rfl, by decide +kernel, rfl, by decide +kernel, by decide⟩
theorem mp_80 : ma_mP 80 := ⟨wi_3 _ (List.mem_of_getElem? (i := 207) rfl) rfl, wi_1 _ (List.mem_of_getElem? (i := 1) rfl) rfl, by decide +kernel, rfl, by decide +kernel, by decide⟩
theorem mp_81 : ma_mP 81 := ⟨wi_3 _ (List.mem_of_getElem? (i := 211) rfl) rfl, wi_1 _ (List.mem_of_getElem? (i := 1) rfl) rfl, by decide +kernel, rfl, by decide +kernel, by decide⟩
theorem mp_82 : ma_mP 82 := ⟨wi_3 _ (List.mem_of_getElem? (i := 220) rfl) rfl, wi_1 _ (List.mem_of_getElem? (i := 1) rfl) rfl, by decide +kernel, rfl, by decide +kernel, by decide⟩
theorem mp_83 : ma_mP 83 := ⟨wi_3 _ (List.mem_of_getElem? (i := 224) rfl) rfl, wi_1 _ (List.mem_of_getElem? (i := 1) rfl) rfl, by decide +kernel, rfl, by decide +kernel, by decide⟩
theorem mp_84 : ma_mP 84 := ⟨wi_3 _ (List.mem_of_getElem? (i := 231) rfl) rfl, wi_1 _ (List.mem_of_getElem? (i := 1) rfl) rfl, by decide +kernel, rfl, by decide +kernel, by decide⟩
theorem mp_85 : ma_mP 85 := ⟨wi_4 _ (List.mem_of_getElem? (i := 4) rfl) rfl, wi_1 _ (List.mem_of_getElem? (i := 1) rfl) rfl, by decide +kernel, rfl, by decide +kernel, by decide⟩
theorem mp_86 : ma_mP 86 := ⟨wi_4 _ (List.mem_of_getElem? (i := 12) rfl) rfl, wi_1 _ (List.mem_of_getElem? (i := 1) rfl) rfl, by decide +kernel, rfl, by decide +kernel, by decide⟩
theorem mp_87 : ma_mP 87 := ⟨wi_4 _ (List.mem_of_getElem? (i := 16) rfl) rfl, wi_1 _ (List.mem_of_getElem? (i := 1) rfl) rfl, by decide +kernel, rfl, by decide +kernel, by decide⟩
theorem mp_88 : ma_mP 88 := ⟨wi_4 _ (List.mem_of_getElem? (i := 28) rfl) rfl, wi_1 _ (List.mem_of_getElem? (i := 1) rfl) rfl, by decide +kernel, rfl, by decide +kernel, by decide⟩
theorem mp_89 : ma_mP 89 := ⟨wi_4 _ (List.mem_of_getElem? (i := 32) rfl) rfl, wi_1 _ (List.mem_of_getElem? (i := 1) rfl) rfl, by decide +kernel, rfl, by decide +kernel, by decide⟩
theorem mp_90 : ma_mP 90 := ⟨wi_4 _ (List.mem_of_getElem? (i := 36) rfl) rfl, wi_1 _ (List.mem_of_getElem? (i := 1) rfl) rfl, by decide +kernel, rfl, by decide +kernel, by decide⟩
theorem mp_91 : ma_mP 91 := ⟨wi_4 _ (List.mem_of_getElem? (i := 45) rfl) rfl, wi_1 _ (List.mem_of_getElem? (i := 1) rfl) rfl, by decide +kernel, rfl, by decide +kernel, by decide⟩
theorem mp_92 : ma_mP 92 := ⟨wi_4 _ (List.mem_of_getElem? (i := 54) rfl) rfl, wi_1 _ (List.mem_of_getElem? (i := 1) rfl) rfl, by decide +kernel, rfl, by decide +kernel, by decide⟩
theorem mp_93 : ma_mP 93 := ⟨wi_4 _ (List.mem_of_getElem? (i := 58) rfl) rfl, wi_1 _ (List.mem_of_getElem? (i := 1) rfl) rfl, by decide +kernel, rfl, by decide +kernel, by decide⟩
theorem mp_94 : ma_mP 94 := ⟨wi_4 _ (List.mem_of_getElem? (i := 80) rfl) rfl, wi_1 _ (List.mem_of_getElem? (i := 1) rfl) rfl, by decide +kernel, rfl, by decide +kernel, by decide⟩
theorem mp_95 : ma_mP 95 := ⟨wi_4 _ (List.mem_of_getElem? (i := 88) rfl) rfl, wi_1 _ (List.mem_of_getElem? (i := 1) rfl) rfl, by decide +kernel, rfl, by decide +kernel, by decide⟩
theorem mp_96 : ma_mP 96 := ⟨wi_4 _ (List.mem_of_getElem? (i := 92) rfl) rfl, wi_1 _ (List.mem_of_getElem? (i := 1) rfl) rfl, by decide +kernel, rfl, by decide +kernel, by decide⟩
theorem mp_97 : ma_mP 97 := ⟨wi_4 _ (List.mem_of_getElem? (i := 96) rfl) rfl, wi_1 _ (List.mem_of_getElem? (i := 1) rfl) rfl, by decide +kernel, rfl, by decide +kernel, by decide⟩
theorem mp_98 : ma_mP 98 := ⟨wi_2 _ (List.mem_of_getElem? (i := 45) rfl) rfl, wi_1 _ (List.mem_of_getElem? (i := 1) rfl) rfl, by decide +kernel, rfl, by decide +kernel, by decide⟩
theorem mp_99 : ma_mP 99 := ⟨wi_2 _ (List.mem_of_getElem? (i := 57) rfl) rfl, wi_1 _ (List.mem_of_getElem? (i := 1) rfl) rfl, by decide +kernel, rfl, by decide +kernel, by decide⟩
theorem mp_100 : ma_mP 100 := ⟨wi_2 _ (List.mem_of_getElem? (i := 82) rfl) rfl, wi_1 _ (List.mem_of_getElem? (i := 1) rfl) rfl, by decide +kernel, rfl, by decide +kernel, by decide⟩
theorem mp_101 : ma_mP 101 := ⟨wi_3 _ (List.mem_of_getElem? (i := 235) rfl) rfl, wi_1 _ (List.mem_of_getElem? (i := 1) rfl) rfl, by decide +kernel, rfl, by decide +kernel, by decide⟩
theorem mp_102 : ma_mP 102 := ⟨wi_2 _ (List.mem_of_getElem? (i := 41) rfl) rfl, wi_1 _ (List.mem_of_getElem? (i := 1) rfl) rfl, by decide +kernel, rfl, by decide +kernel, by decide⟩
theorem mp_103 : ma_mP 103 := ⟨wi_2 _ (List.mem_of_getElem? (i := 112) rfl) rfl, wi_1 _ (List.mem_of_getElem? (i := 1) rfl) rfl, by decide +kernel, rfl, by decide +kernel, by decide⟩
theorem mp_104 : ma_mP 104 := ⟨wi_3 _ (List.mem_of_getElem? (i := 153) rfl) rfl, wi_1 _ (List.mem_of_getElem? (i := 1) rfl) rfl, by decide +kernel, rfl, by decide +kernel, by decide⟩
theorem mp_105 : ma_mP 105 := ⟨wi_2 _ (List.mem_of_getElem? (i := 142) rfl) rfl, wi_1 _ (List.mem_of_getElem? (i := 1) rfl) rfl, by decide +kernel, rfl, by decide +kernel, by decide⟩
theorem mp_106 : ma_mP 106 := ⟨wi_2 _ (List.mem_of_getElem? (i := 123) rfl) rfl, wi_1 _ (List.mem_of_getElem? (i := 1) rfl) rfl, by decide +kernel, rfl, by decide +kernel, by decide⟩
theorem mp_107 : ma_mP 107 := ⟨wi_3 _ (List.mem_of_getElem? (i := 227) rfl) rfl, wi_1 _ (List.mem_of_getElem? (i := 1) rfl) rfl, by decide +kernel, rfl, by decide +kernel, by decide⟩
theorem mp_108 : ma_mP 108 := ⟨wi_3 _ (List.mem_of_getElem? (i := 195) rfl) rfl, wi_1 _ (List.mem_of_getElem? (i := 1) rfl) rfl, by decide +kernel, rfl, by decide +kernel, by decide⟩
theorem mp_109 : ma_mP 109 := ⟨wi_3 _ (List.mem_of_getElem? (i := 215) rfl) rfl, wi_1 _ (List.mem_of_getElem? (i := 1) rfl) rfl, by decide +kernel, rfl, by decide +kernel, by decide⟩
theorem mp_110 : ma_mP 110 := ⟨wi_3 _ (List.mem_of_getElem? (i := 239) rfl) rfl, wi_1 _ (List.mem_of_getElem? (i := 1) rfl) rfl, by decide +kernel, rfl, by decide +kernel, by decide⟩
theorem mp_111 : ma_mP 111 := ⟨wi_4 _ (List.mem_of_getElem? (i := 23) rfl) rfl, wi_1 _ (List.mem_of_getElem? (i := 1) rfl) rfl, by decide +kernel, rfl, by decide +kernel, by decide⟩
theorem mp_112 : ma_mP 112 := ⟨wi_4 _ (List.mem_of_getElem? (i := 65) rfl) rfl, wi_1 _ (List.mem_of_getElem? (i := 1) rfl) rfl, by decide +kernel, rfl, by decide +kernel, by decide⟩
theorem mp_113 : ma_mP 113 := ⟨wi_5 _ (List.mem_of_getElem? (i := 17) rfl) rfl, wi_1 _ (List.mem_of_getElem? (i := 9) rfl) rfl, by decide +kernel, rfl, by decide +kernel, by decide⟩
theorem mp_114 : ma_mP 114 := ⟨wi_6 _ (List.mem_of_getElem? (i := 26) rfl) rfl, wi_1 _ (List.mem_of_getElem? (i := 9) rfl) rfl, by decide +kernel, rfl, by decide +kernel, by decide⟩
theorem mp_115 : ma_mP 115 := ⟨wi_5 _ (List.mem_of_getElem? (i := 13) rfl) rfl, wi_1 _ (List.mem_of_getElem? (i := 9) rfl) rfl, by decide +kernel, rfl, by decide +kernel, by decide⟩
theorem mp_116 : ma_mP 116 := ⟨wi_5 _ (List.mem_of_getElem? (i := 37) rfl) rfl, wi_1 _ (List.mem_of_getElem? (i := 9) rfl) rfl, by decide +kernel, rfl, by decide +kernel, by decide⟩
theorem mp_117 : ma_mP 117 := ⟨wi_5 _ (List.mem_of_getElem? (i := 9) rfl) rfl, wi_1 _ (List.mem_of_getElem? (i := 9) rfl) rfl, by decide +kernel, rfl, by decide +kernel, by decide⟩
theorem mp_118 : ma_mP 118 := ⟨wi_5 _ (List.mem_of_getElem? (i := 21) rfl) rfl, wi_1 _ (List.mem_of_getElem? (i := 9) rfl) rfl, by decide +kernel, rfl, by decide +kernel, by decide⟩
theorem mp_119 : ma_mP 119 := ⟨wi_5 _ (List.mem_of_getElem? (i := 25) rfl) rfl, wi_1 _ (List.mem_of_getElem? (i := 9) rfl) rfl, by decide +kernel, rfl, by decide +kernel, by decide⟩
theorem mp_120 : ma_mP 120 := ⟨wi_5 _ (List.mem_of_getElem? (i := 29) rfl) rfl, wi_1 _ (List.mem_of_getElem? (i := 9) rfl) rfl, by decide +kernel, rfl, by decide +kernel, by decide⟩
theorem mp_121 : ma_mP 121 := ⟨wi_5 _ (List.mem_of_getElem? (i := 33) rfl) rfl, wi_1 _ (List.mem_of_getElem? (i := 9) rfl) rfl, by decide +kernel, rfl, by decide +kernel, by decide⟩
theorem mp_122 : ma_mP 122 := ⟨wi_5 _ (List.mem_of_getElem? (i := 41) rfl) rfl, wi_1 _ (List.mem_of_getElem? (i := 9) rfl) rfl, by decide +kernel, rfl, by decide +kernel, by decide⟩
theorem mp_123 : ma_mP 123 := ⟨wi_5 _ (List.mem_of_getElem? (i := 45) rfl) rfl, wi_1 _ (List.mem_of_getElem? (i := 9) rfl) rfl, by decide +kernel, rfl, by decide +kernel, by decide⟩
theorem mp_124 : ma_mP 124 := ⟨wi_5 _ (List.mem_of_getElem? (i := 105) rfl) rfl, wi_1 _ (List.mem_of_getElem? (i := 9) rfl) rfl, by decide +kernel, rfl, by decide +kernel, by decide⟩
theorem mp_125 : ma_mP 125 := ⟨wi_6 _ (List.mem_of_getElem? (i := 34) rfl) rfl, wi_1 _ (List.mem_of_getElem? (i := 9) rfl) rfl, by decide +kernel, rfl, by decide +kernel, by decide⟩
theorem mp_126 : ma_mP 126 := ⟨wi_6 _ (List.mem_of_getElem? (i := 22) rfl) rfl, wi_1 _ (List.mem_of_getElem? (i := 9) rfl) rfl, by decide +kernel, rfl, by decide +kernel, by decide⟩
theorem mp_127 : ma_mP 127 := ⟨wi_5 _ (List.mem_of_getElem? (i := 69) rfl) rfl, wi_1 _ (List.mem_of_getElem? (i := 9) rfl) rfl, by decide +kernel, rfl, by decide +kernel, by decide⟩
theorem mp_128 : ma_mP 128 := ⟨wi_5 _ (List.mem_of_getElem? (i := 65) rfl) rfl, wi_1 _ (List.mem_of_getElem? (i := 9) rfl) rfl, by decide +kernel, rfl, by decide +kernel, by decide⟩
theorem mp_129 : ma_mP 129 := ⟨wi_5 _ (List.mem_of_getElem? (i := 73) rfl) rfl, wi_1 _ (List.mem_of_getElem? (i := 9) rfl) rfl, by decide +kernel, rfl, by decide +kernel, by decide⟩
theorem mp_130 : ma_mP 130 := ⟨wi_5 _ (List.mem_of_getElem? (i := 77) rfl) rfl, wi_1 _ (List.mem_of_getElem? (i := 9) rfl) rfl, by decide +kernel, rfl, by decide +kernel, by decide⟩
theorem mp_131 : ma_mP 131 := ⟨wi_5 _ (List.mem_of_getElem? (i := 85) rfl) rfl, wi_1 _ (List.mem_of_getElem? (i := 9) rfl) rfl, by decide +kernel, rfl, by decide +kernel, by decide⟩
theorem mp_132 : ma_mP 132 := ⟨wi_5 _ (List.mem_of_getElem? (i := 81) rfl) rfl, wi_1 _ (List.mem_of_getElem? (i := 9) rfl) rfl, by decide +kernel, rfl, by decide +kernel, by decide⟩
theorem mp_133 : ma_mP 133 := ⟨wi_5 _ (List.mem_of_getElem? (i := 93) rfl) rfl, wi_1 _ (List.mem_of_getElem? (i := 9) rfl) rfl, by decide +kernel, rfl, by decide +kernel, by decide⟩
theorem mp_134 : ma_mP 134 := ⟨wi_5 _ (List.mem_of_getElem? (i := 97) rfl) rfl, wi_1 _ (List.mem_of_getElem? (i := 9) rfl) rfl, by decide +kernel, rfl, by decide +kernel, by decide⟩
theorem mp_135 : ma_mP 135 := ⟨wi_5 _ (List.mem_of_getElem? (i := 89) rfl) rfl, wi_1 _ (List.mem_of_getElem? (i := 9) rfl) rfl, by decide +kernel, rfl, by decide +kernel, by decide⟩
theorem mp_136 : ma_mP 136 := ⟨wi_5 _ (List.mem_of_getElem? (i := 125) rfl) rfl, wi_1 _ (List.mem_of_getElem? (i := 9) rfl) rfl, by decide +kernel, rfl, by decide +kernel, by decide⟩
theorem mp_137 : ma_mP 137 := ⟨wi_5 _ (List.mem_of_getElem? (i := 121) rfl) rfl, wi_1 _ (List.mem_of_getElem? (i := 9) rfl) rfl, by decide +kernel, rfl, by decide +kernel, by decide⟩
theorem mp_138 : ma_mP 138 := ⟨wi_5 _ (List.mem_of_getElem? (i := 129) rfl) rfl, wi_1 _ (List.mem_of_getElem? (i := 9) rfl) rfl, by decide +kernel, rfl, by decide +kernel, by decide⟩
theorem mp_139 : ma_mP 139 := ⟨wi_5 _ (List.mem_of_getElem? (i := 137) rfl) rfl, wi_1 _ (List.mem_of_getElem? (i := 9) rfl) rfl, by decide +kernel, rfl, by decide +kernel, by decide⟩
theorem mp_140 : ma_mP 140 := ⟨wi_5 _ (List.mem_of_getElem? (i := 133) rfl) rfl, wi_1 _ (List.mem_of_getElem? (i := 9) rfl) rfl, by decide +kernel, rfl, by decide +kernel, by decide⟩
theorem mp_141 : ma_mP 141 := ⟨wi_5 _ (List.mem_of_getElem? (i := 141) rfl) rfl, wi_1 _ (List.mem_of_getElem? (i := 9) rfl) rfl, by decide +kernel, rfl, by decide +kernel, by decide⟩
theorem mp_142 : ma_mP 142 := ⟨wi_5 _ (List.mem_of_getElem? (i := 117) rfl) rfl, wi_1 _ (List.mem_of_getElem? (i := 9) rfl) rfl, by decide +kernel, rfl, by decide +kernel, by decide⟩
theorem mp_143 : ma_mP 143 := ⟨wi_5 _ (List.mem_of_getElem? (i := 113) rfl) rfl, wi_1 _ (List.mem_of_getElem? (i := 9) rfl) rfl, by decide +kernel, rfl, by decide +kernel, by decide⟩
theorem mp_144 : ma_mP 144 := ⟨wi_5 _ (List.mem_of_getElem? (i := 109) rfl) rfl, wi_1 _ (List.mem_of_getElem? (i := 9) rfl) rfl, by decide +kernel, rfl, by decide +kernel, by decide⟩
theorem mp_145 : ma_mP 145 := ⟨wi_5 _ (List.mem_of_getElem? (i := 101) rfl) rfl, wi_1 _ (List.mem_of_getElem? (i := 9) rfl) rfl, by decide +kernel, rfl, by decide +kernel, by decide⟩
theorem mp_146 : ma_mP 146 := ⟨wi_5 _ (List.mem_of_getElem? (i := 169) rfl) rfl, wi_1 _ (List.mem_of_getElem? (i := 9) rfl) rfl, by decide +kernel, rfl, by decide +kernel, by decide⟩
theorem mp_147 : ma_mP 147 := ⟨wi_5 _ (List.mem_of_getElem? (i := 53) rfl) rfl, wi_1 _ (List.mem_of_getElem? (i := 9) rfl) rfl, by decide +kernel, rfl, by decide +kernel, by decide⟩
theorem mp_148 : ma_mP 148 := ⟨wi_5 _ (List.mem_of_getElem? (i := 49) rfl) rfl, wi_1 _ (List.mem_of_getElem? (i := 9) rfl) rfl, by decide +kernel, rfl, by decide +kernel, by decide⟩
theorem mp_149 : ma_mP 149 := ⟨wi_5 _ (List.mem_of_getElem? (i := 57) rfl) rfl, wi_1 _ (List.mem_of_getElem? (i := 9) rfl) rfl, by decide +kernel, rfl, by decide +kernel, by decide⟩
theorem mp_150 : ma_mP 150 := ⟨wi_5 _ (List.mem_of_getElem? (i := 61) rfl) rfl, wi_1 _ (List.mem_of_getElem? (i := 9) rfl) rfl, by decide +kernel, rfl, by decide +kernel, by decide⟩
theorem mp_151 : ma_mP 151 := ⟨wi_5 _ (List.mem_of_getElem? (i := 149) rfl) rfl, wi_1 _ (List.mem_of_getElem? (i := 9) rfl) rfl, by decide +kernel, rfl, by decide +kernel, by decide⟩
theorem mp_152 : ma_mP 152 := ⟨wi_5 _ (List.mem_of_getElem? (i := 153) rfl) rfl, wi_1 _ (List.mem_of_getElem? (i := 9) rfl) rfl, by decide +kernel, rfl, by decide +kernel, by decide⟩
theorem mp_153 : ma_mP 153 := ⟨wi_5 _ (List.mem_of_getElem? (i := 157) rfl) rfl, wi_1 _ (List.mem_of_getElem? (i := 9) rfl) rfl, by decide +kernel, rfl, by decide +kernel, by decide⟩
theorem mp_154 : ma_mP 154 := ⟨wi_5 _ (List.mem_of_getElem? (i := 145) rfl) rfl, wi_1 _ (List.mem_of_getElem? (i := 9) rfl) rfl, by decide +kernel, rfl, by decide +kernel, by decide⟩
theorem mp_155 : ma_mP 155 := ⟨wi_5 _ (List.mem_of_getElem? (i := 165) rfl) rfl, wi_1 _ (List.mem_of_getElem? (i := 9) rfl) rfl, by decide +kernel, rfl, by decide +kernel, by decide⟩
theorem mp_156 : ma_mP 156 := ⟨wi_5 _ (List.mem_of_getElem? (i := 161) rfl) rfl, wi_1 _ (List.mem_of_getElem? (i := 9) rfl) rfl, by decide +kernel, rfl, by decide +kernel, by decide⟩
theorem mp_157 : ma_mP 157 := ⟨wi_5 _ (List.mem_of_getElem? (i := 173) rfl) rfl, wi_1 _ (List.mem_of_getElem? (i := 9) rfl) rfl, by decide +kernel, rfl, by decide +kernel, by decide⟩
theorem mp_158 : ma_mP 158 := ⟨wi_5 _ (List.mem_of_getElem? (i := 177) rfl) rfl, wi_1 _ (List.mem_of_getElem? (i := 9) rfl) rfl, by decide +kernel, rfl, by decide +kernel, by decide⟩
theorem mp_159 : ma_mP 159 := ⟨wi_5 _ (List.mem_of_getElem? (i := 189) rfl) rfl, wi_1 _ (List.mem_of_getElem? (i := 9) rfl) rfl, by decide +kernel, rfl, by decide +kernel, by decide⟩
theorem mp_160 : ma_mP 160 := ⟨wi_5 _ (List.mem_of_getElem? (i := 185) rfl) rfl, wi_1 _ (List.mem_of_getElem? (i := 9) rfl) rfl, by decide +kernel, rfl, by decide +kernel, by decide⟩
theorem mp_161 : ma_mP 161 := ⟨wi_5 _ (List.mem_of_getElem? (i := 193) rfl) rfl, wi_1 _ (List.mem_of_getElem? (i := 9) rfl) rfl, by decide +kernel, rfl, by decide +kernel, by decide⟩
theorem mp_162 : ma_mP 162 := ⟨wi_5 _ (List.mem_of_getElem? (i := 181) rfl) rfl, wi_1 _ (List.mem_of_getElem? (i := 9) rfl) rfl, by decide +kernel, rfl, by decide +kernel, by decide⟩
theorem mp_163 : ma_mP 163 := ⟨wi_5 _ (List.mem_of_getElem? (i := 201) rfl) rfl, wi_1 _ (List.mem_of_getElem? (i := 9) rfl) rfl, by decide +kernel, rfl, by decide +kernel, by decide⟩
theorem mp_164 : ma_mP 164 := ⟨wi_5 _ (List.mem_of_getElem? (i := 205) rfl) rfl, wi_1 _ (List.mem_of_getElem? (i := 9) rfl) rfl, by decide +kernel, rfl, by decide +kernel, by decide⟩
theorem mp_165 : ma_mP 165 := ⟨wi_5 _ (List.mem_of_getElem? (i := 197) rfl) rfl, wi_1 _ (List.mem_of_getElem? (i := 9) rfl) rfl, by decide +kernel, rfl, by decide +kernel, by decide⟩
theorem mp_166 : ma_mP 166 := ⟨wi_5 _ (List.mem_of_getElem? (i := 221) rfl) rfl, wi_1 _ (List.mem_of_getElem? (i := 9) rfl) rfl, by decide +kernel, rfl, by decide +kernel, by decide⟩
theorem mp_167 : ma_mP 167 := ⟨wi_5 _ (List.mem_of_getElem? (i := 233) rfl) rfl, wi_1 _ (List.mem_of_getElem? (i := 9) rfl) rfl, by decide +kernel, rfl, by decide +kernel, by decide⟩
theorem mp_168 : ma_mP 168 := ⟨wi_5 _ (List.mem_of_getElem? (i := 237) rfl) rfl, wi_1 _ (List.mem_of_getElem? (i := 9) rfl) rfl, by decide +kernel, rfl, by decide +kernel, by decide⟩
theorem mp_169 : ma_mP 169 := ⟨wi_5 _ (List.mem_of_getElem? (i := 229) rfl) rfl, wi_1 _ (List.mem_of_getElem? (i := 9) rfl) rfl, by decide +kernel, rfl, by decide +kernel, by decide⟩
theorem mp_170 : ma_mP 170 := ⟨wi_5 _ (List.mem_of_getElem? (i := 225) rfl) rfl, wi_1 _ (List.mem_of_getElem? (i := 9) rfl) rfl, by decide +kernel, rfl, by decide +kernel, by decide⟩
theorem mp_171 : ma_mP 171 := ⟨wi_5 _ (List.mem_of_getElem? (i := 217) rfl) rfl, wi_1 _ (List.mem_of_getElem? (i := 9) rfl) rfl, by decide +kernel, rfl, by decide +kernel, by decide⟩
theorem mp_172 : ma_mP 172 := ⟨wi_5 _ (List.mem_of_getElem? (i := 213) rfl) rfl, wi_1 _ (List.mem_of_getElem? (i := 9) rfl) rfl, by decide +kernel, rfl, by decide +kernel, by decide⟩
theorem mp_173 : ma_mP 173 := ⟨wi_5 _ (List.mem_of_getElem? (i := 209) rfl) rfl, wi_1 _ (List.mem_of_getElem? (i := 9) rfl) rfl, by decide +kernel, rfl, by decide +kernel, by decide⟩
theorem mp_174 : ma_mP 174 := ⟨wi_6 _ (List.mem_of_getElem? (i := 5) rfl) rfl, wi_1 _ (List.mem_of_getElem? (i := 9) rfl) rfl, by decide +kernel, rfl, by decide +kernel, by decide⟩
theorem mp_175 : ma_mP 175 := ⟨wi_6 _ (List.mem_of_getElem? (i := 1) rfl) rfl, wi_1 _ (List.mem_of_getElem? (i := 9) rfl) rfl, by decide +kernel, rfl, by decide +kernel, by decide⟩
theorem mp_176 : ma_mP 176 := ⟨wi_6 _ (List.mem_of_getElem? (i := 9) rfl) rfl, wi_1 _ (List.mem_of_getElem? (i := 9) rfl) rfl, by decide +kernel, rfl, by decide +kernel, by decide⟩
theorem mp_177 : ma_mP 177 := ⟨wi_6 _ (List.mem_of_getElem? (i := 30) rfl) rfl, wi_1 _ (List.mem_of_getElem? (i := 9) rfl) rfl, by decide +kernel, rfl, by decide +kernel, by decide⟩
theorem mp_178 : ma_mP 178 := ⟨wi_6 _ (List.mem_of_getElem? (i := 18) rfl) rfl, wi_1 _ (List.mem_of_getElem? (i := 9) rfl) rfl, by decide +kernel, rfl, by decide +kernel, by decide⟩
theorem mp_179 : ma_mP 179 := ⟨wi_6 _ (List.mem_of_getElem? (i := 14) rfl) rfl, wi_1 _ (List.mem_of_getElem? (i := 9) rfl) rfl, by decide +kernel, rfl, by decide +kernel, by decide⟩
theorem mp_180 : ma_mP 180 := ⟨wi_6 _ (List.mem_of_getElem? (i := 38) rfl) rfl, wi_1 _ (List.mem_of_getElem? (i := 9) rfl) rfl, by decide +kernel, rfl, by decide +kernel, by decide⟩
theorem mp_181 : ma_mP 181 := ⟨wi_6 _ (List.mem_of_getElem? (i := 42) rfl) rfl, wi_1 _ (List.mem_of_getElem? (i := 9) rfl) rfl, by decide +kernel, rfl, by decide +kernel, by decide⟩
theorem mp_182 : ma_mP 182 := ⟨wi_6 _ (List.mem_of_getElem? (i := 50) rfl) rfl, wi_1 _ (List.mem_of_getElem? (i := 9) rfl) rfl, by decide +kernel, rfl, by decide +kernel, by decide⟩
theorem mp_183 : ma_mP 183 := ⟨wi_6 _ (List.mem_of_getElem? (i := 46) rfl) rfl, wi_1 _ (List.mem_of_getElem? (i := 9) rfl) rfl, by decide +kernel, rfl, by decide +kernel, by decide⟩
theorem mp_184 : ma_mP 184 := ⟨wi_6 _ (List.mem_of_getElem? (i := 58) rfl) rfl, wi_1 _ (List.mem_of_getElem? (i := 9) rfl) rfl, by decide +kernel, rfl, by decide +kernel, by decide⟩
theorem mp_185 : ma_mP 185 := ⟨wi_6 _ (List.mem_of_getElem? (i := 54) rfl) rfl, wi_1 _ (List.mem_of_getElem? (i := 9) rfl) rfl, by decide +kernel, rfl, by decide +kernel, by decide⟩
theorem mp_186 : ma_mP 186 := ⟨wi_6 _ (List.mem_of_getElem? (i := 62) rfl) rfl, wi_1 _ (List.mem_of_getElem? (i := 9) rfl) rfl, by decide +kernel, rfl, by decide +kernel, by decide⟩
theorem mp_187 : ma_mP 187 := ⟨wi_6 _ (List.mem_of_getElem? (i := 66) rfl) rfl, wi_1 _ (List.mem_of_getElem? (i := 9) rfl) rfl, by decide +kernel, rfl, by decide +kernel, by decide⟩
theorem mp_188 : ma_mP 188 := ⟨wi_6 _ (List.mem_of_getElem? (i := 70) rfl) rfl, wi_1 _ (List.mem_of_getElem? (i := 9) rfl) rfl, by decide +kernel, rfl, by decide +kernel, by decide⟩
theorem mp_189 : ma_mP 189 := ⟨wi_6 _ (List.mem_of_getElem? (i := 74) rfl) rfl, wi_1 _ (List.mem_of_getElem? (i := 9) rfl) rfl, by decide +kernel, rfl, by decide +kernel, by decide⟩
theorem mp_190 : ma_mP 190 := ⟨wi_6 _ (List.mem_of_getElem? (i := 82) rfl) rfl, wi_1 _ (List.mem_of_getElem? (i := 9) rfl) rfl, by decide +kernel, rfl, by decide +kernel, by decide⟩
theorem mp_191 : ma_mP 191 := ⟨wi_6 _ (List.mem_of_getElem? (i := 78) rfl) rfl, wi_1 _ (List.mem_of_getElem? (i := 9) rfl) rfl, by decide +kernel, rfl, by decide +kernel, by decide⟩
theorem mp_192 : ma_mP 192 := ⟨wi_6 _ (List.mem_of_getElem? (i := 87) rfl) rfl, wi_1 _ (List.mem_of_getElem? (i := 9) rfl) rfl, by decide +kernel, rfl, by decide +kernel, by decide⟩
theorem mp_193 : ma_mP 193 := ⟨wi_6 _ (List.mem_of_getElem? (i := 91) rfl) rfl, wi_1 _ (List.mem_of_getElem? (i := 9) rfl) rfl, by decide +kernel, rfl, by decide +kernel, by decide⟩
theorem mp_194 : ma_mP 194 := ⟨wi_6 _ (List.mem_of_getElem? (i := 103) rfl) rfl, wi_1 _ (List.mem_of_getElem? (i := 9) rfl) rfl, by decide +kernel, rfl, by decide +kernel, by decide⟩
theorem mp_195 : ma_mP 195 := ⟨wi_6 _ (List.mem_of_getElem? (i := 99) rfl) rfl, wi_1 _ (List.mem_of_getElem? (i := 9) rfl) rfl, by decide +kernel, rfl, by decide +kernel, by decide⟩
theorem mp_196 : ma_mP 196 := ⟨wi_6 _ (List.mem_of_getElem? (i := 107) rfl) rfl, wi_1 _ (List.mem_of_getElem? (i := 9) rfl) rfl, by decide +kernel, rfl, by decide +kernel, by decide⟩
theorem mp_197 : ma_mP 197 := ⟨wi_6 _ (List.mem_of_getElem? (i := 111) rfl) rfl, wi_1 _ (List.mem_of_getElem? (i := 9) rfl) rfl, by decide +kernel, rfl, by decide +kernel, by decide⟩
theorem mp_198 : ma_mP 198 := ⟨wi_6 _ (List.mem_of_getElem? (i := 95) rfl) rfl, wi_1 _ (List.mem_of_getElem? (i := 9) rfl) rfl, by decide +kernel, rfl, by decide +kernel, by decide⟩
theorem mp_199 : ma_mP 199 := ⟨wi_6 _ (List.mem_of_getElem? (i := 115) rfl) rfl, wi_1 _ (List.mem_of_getElem? (i := 9) rfl) rfl, by decide +kernel, rfl, by decide +kernel, by decide⟩
theorem mp_200 : ma_mP 200 := ⟨wi_6 _ (List.mem_of_getElem? (i := 119) rfl) rfl, wi_1 _ (List.mem_of_getElem? (i := 9) rfl) rfl, by decide +kernel, rfl, by decide +kernel, by decide⟩
theorem mp_201 : ma_mP 201 := ⟨wi_6 _ (List.mem_of_getElem? (i := 123) rfl) rfl, wi_1 _ (List.mem_of_getElem? (i := 9) rfl) rfl, by decide +kernel, rfl, by decide +kernel, by decide⟩
theorem mp_202 : ma_mP 202 := ⟨wi_6 _ (List.mem_of_getElem? (i := 127) rfl) rfl, wi_1 _ (List.mem_of_getElem? (i := 9) rfl) rfl, by decide +kernel, rfl, by decide +kernel, by decide⟩
theorem mp_203 : ma_mP 203 := ⟨wi_2 _ (List.mem_of_getElem? (i := 218) rfl) rfl, wi_1 _ (List.mem_of_getElem? (i := 11) rfl) rfl, by decide +kernel, rfl, by decide +kernel, by decide⟩
theorem mp_204 : ma_mP 204 := ⟨wi_2 _ (List.mem_of_getElem? (i := 232) rfl) rfl, wi_1 _ (List.mem_of_getElem? (i := 11) rfl) rfl, by decide +kernel, rfl, by decide +kernel, by decide⟩
theorem mp_205 : ma_mP 205 := ⟨wi_2 _ (List.mem_of_getElem? (i := 222) rfl) rfl, wi_1 _ (List.mem_of_getElem? (i := 11) rfl) rfl, by decide +kernel, rfl, by decide +kernel, by decide⟩
theorem mp_206 : ma_mP 206 := ⟨wi_2 _ (List.mem_of_getElem? (i := 236) rfl) rfl, wi_1 _ (List.mem_of_getElem? (i := 11) rfl) rfl, by decide +kernel, rfl, by decide +kernel, by decide⟩
theorem mp_207 : ma_mP 207 := ⟨wi_3 _ (List.mem_of_getElem? (i := 2) rfl) rfl, wi_1 _ (List.mem_of_getElem? (i := 11) rfl) rfl, by decide +kernel, rfl, by decide +kernel, by decide⟩
theorem mp_208 : ma_mP 208 := ⟨wi_2 _ (List.mem_of_getElem? (i := 239) rfl) rfl, wi_1 _ (List.mem_of_getElem? (i := 12) rfl) rfl, by decide +kernel, rfl, by decide +kernel, by decide⟩
theorem mp_209 : ma_mP 209 := ⟨wi_3 _ (List.mem_of_getElem? (i := 7) rfl) rfl, wi_1 _ (List.mem_of_getElem? (i := 13) rfl) rfl, by decide +kernel, rfl, by decide +kernel, by decide⟩
theorem ma_mP_ok : ∀ μ, μ < 210 → ma_mP μ := fun μ h => match μ, h with
  | 0, _ => mp_0
  | 1, _ => mp_1
  | 2, _ => mp_2
  | 3, _ => mp_3
  | 4, _ => mp_4
  | 5, _ => mp_5
  | 6, _ => mp_6
  | 7, _ => mp_7
  | 8, _ => mp_8
  | 9, _ => mp_9
  | 10, _ => mp_10
  | 11, _ => mp_11
  | 12, _ => mp_12
  | 13, _ => mp_13
  | 14, _ => mp_14
  | 15, _ => mp_15
  | 16, _ => mp_16
  | 17, _ => mp_17
  | 18, _ => mp_18
  | 19, _ => mp_19
  | 20, _ => mp_20
  | 21, _ => mp_21
  | 22, _ => mp_22
  | 23, _ => mp_23
  | 24, _ => mp_24
  | 25, _ => mp_25
  | 26, _ => mp_26
  | 27, _ => mp_27
  | 28, _ => mp_28
  | 29, _ => mp_29
  | 30, _ => mp_30
  | 31, _ => mp_31
  | 32, _ => mp_32
  | 33, _ => mp_33
  | 34, _ => mp_34
  | 35, _ => mp_35
  | 36, _ => mp_36
  | 37, _ => mp_37
  | 38, _ => mp_38
  | 39, _ => mp_39
  | 40, _ => mp_40
  | 41, _ => mp_41
  | 42, _ => mp_42
  | 43, _ => mp_43
  | 44, _ => mp_44
  | 45, _ => mp_45
  | 46, _ => mp_46
  | 47, _ => mp_47
  | 48, _ => mp_48
  | 49, _ => mp_49
  | 50, _ => mp_50
  | 51, _ => mp_51
  | 52, _ => mp_52
  | 53, _ => mp_53
  | 54, _ => mp_54
  | 55, _ => mp_55
  | 56, _ => mp_56
  | 57, _ => mp_57
  | 58, _ => mp_58
  | 59, _ => mp_59
  | 60, _ => mp_60
  | 61, _ => mp_61
  | 62, _ => mp_62
  | 63, _ => mp_63
  | 64, _ => mp_64
  | 65, _ => mp_65
  | 66, _ => mp_66
  | 67, _ => mp_67
  | 68, _ => mp_68
  | 69, _ => mp_69
  | 70, _ => mp_70
  | 71, _ => mp_71
  | 72, _ => mp_72
  | 73, _ => mp_73
  | 74, _ => mp_74
  | 75, _ => mp_75
  | 76, _ => mp_76
  | 77, _ => mp_77
  | 78, _ => mp_78
  | 79, _ => mp_79
  | 80, _ => mp_80
  | 81, _ => mp_81
  | 82, _ => mp_82
  | 83, _ => mp_83
  | 84, _ => mp_84
  | 85, _ => mp_85
  | 86, _ => mp_86
  | 87, _ => mp_87
  | 88, _ => mp_88
  | 89, _ => mp_89
  | 90, _ => mp_90
  | 91, _ => mp_91
  | 92, _ => mp_92
  | 93, _ => mp_93
  | 94, _ => mp_94
  | 95, _ => mp_95
  | 96, _ => mp_96
  | 97, _ => mp_97
  | 98, _ => mp_98
  | 99, _ => mp_99
  | 100, _ => mp_100
  | 101, _ => mp_101
  | 102, _ => mp_102
  | 103, _ => mp_103
  | 104, _ => mp_104
  | 105, _ => mp_105
  | 106, _ => mp_106
  | 107, _ => mp_107
  | 108, _ => mp_108
  | 109, _ => mp_109
  | 110, _ => mp_110
  | 111, _ => mp_111
  | 112, _ => mp_112
  | 113, _ => mp_113
  | 114, _ => mp_114
  | 115, _ => mp_115
  | 116, _ => mp_116
  | 117, _ => mp_117
  | 118, _ => mp_118
  | 119, _ => mp_119
  | 120, _ => mp_120
  | 121, _ => mp_121
  | 122, _ => mp_122
  | 123, _ => mp_123
  | 124, _ => mp_124
  | 125, _ => mp_125
  | 126, _ => mp_126
  | 127, _ => mp_127
  | 128, _ => mp_128
  | 129, _ => mp_129
  | 130, _ => mp_130
  | 131, _ => mp_131
  | 132, _ => mp_132
  | 133, _ => mp_133
  | 134, _ => mp_134
  | 135, _ => mp_135
  | 136, _ => mp_136
  | 137, _ => mp_137
  | 138, _ => mp_138
  | 139, _ => mp_139
  | 140, _ => mp_140
  | 141, _ => mp_141
  | 142, _ => mp_142
  | 143, _ => mp_143
  | 144, _ => mp_144
  | 145, _ => mp_145
  | 146, _ => mp_146
  | 147, _ => mp_147
  | 148, _ => mp_148
  | 149, _ => mp_149
  | 150, _ => mp_150
  | 151, _ => mp_151
  | 152, _ => mp_152
  | 153, _ => mp_153
  | 154, _ => mp_154
  | 155, _ => mp_155
  | 156, _ => mp_156
  | 157, _ => mp_157
  | 158, _ => mp_158
  | 159, _ => mp_159
  | 160, _ => mp_160
  | 161, _ => mp_161
  | 162, _ => mp_162
  | 163, _ => mp_163
  | 164, _ => mp_164
  | 165, _ => mp_165
  | 166, _ => mp_166
  | 167, _ => mp_167
  | 168, _ => mp_168
  | 169, _ => mp_169
  | 170, _ => mp_170
  | 171, _ => mp_171
  | 172, _ => mp_172
  | 173, _ => mp_173
  | 174, _ => mp_174
  | 175, _ => mp_175
  | 176, _ => mp_176
  | 177, _ => mp_177
  | 178, _ => mp_178
  | 179, _ => mp_179
  | 180, _ => mp_180
  | 181, _ => mp_181
  | 182, _ => mp_182
  | 183, _ => mp_183
  | 184, _ => mp_184
  | 185, _ => mp_185
  | 186, _ => mp_186
  | 187, _ => mp_187
  | 188, _ => mp_188
  | 189, _ => mp_189
  | 190, _ => mp_190
  | 191, _ => mp_191
  | 192, _ => mp_192
  | 193, _ => mp_193
  | 194, _ => mp_194
  | 195, _ => mp_195
  | 196, _ => mp_196
  | 197, _ => mp_197
  | 198, _ => mp_198
  | 199, _ => mp_199
  | 200, _ => mp_200
  | 201, _ => mp_201
  | 202, _ => mp_202
  | 203, _ => mp_203
  | 204, _ => mp_204
  | 205, _ => mp_205
  | 206, _ => mp_206
  | 207, _ => mp_207
  | 208, _ => mp_208
  | 209, _ => mp_209
  | n + 210, h => absurd h (by omega)
/-- what a method link says: (entry, kind, method, number of parameters) -/
def ma_lP (c : Nat) (q : Nat × Nat × Nat × Nat) : Prop := match q.2.1 with
  | 0 => q.2.2.1 < 210 ∧ Cond.methodLink (ma_cn c) q.1 (ma_nm q.2.2.1) ∈ ma_tb ∧ Cond.instanceMethod (ma_nm q.2.2.1) ∈ ma_tb ∧ Cond.selects (ma_nm q.2.2.1).cls (ma_nm q.2.2.1) (ma_nm q.2.2.1) ∈ ma_tb ∧ (parseMethodDescriptor (ma_nm q.2.2.1).desc).map (fun d => d.parameters.length) = some q.2.2.2
  | 1 => q.2.2.1 < 210 ∧ (Cond.methodLink (ma_cn c) q.1 (ma_nm q.2.2.1) ∈ ma_tb ∨ (c = 3 ∧ q.1 = 36 ∧ q.2.2.1 = 103)) ∧ Cond.static (ma_nm q.2.2.1) ∈ ma_tb ∧ (parseMethodDescriptor (ma_nm q.2.2.1).desc).map (fun d => d.parameters.length) = some q.2.2.2
  | 3 => Cond.methodLink (ma_cn c) q.1 Lib.Math.max.name ∈ ma_tb
  | 4 => Cond.methodLink (ma_cn c) q.1 Lib.Math.min.name ∈ ma_tb
  | 5 => Cond.methodLink (ma_cn c) q.1 arraycopyName ∈ ma_tb
  | _ => False
def mt_0 : List (Nat × Nat × Nat × Nat) := [(43, 0, 35, 1), (53, 0, 34, 0), (56, 0, 3, 0), (60, 0, 33, 2), (73, 3, 0, 2), (79, 4, 0, 2), (83, 1, 11, 1), (87, 0, 14, 1), (91, 0, 37, 1), (94, 0, 38, 1), (97, 0, 39, 1), (100, 0, 15, 1), (103, 0, 16, 1), (106, 1, 18, 2), (110, 0, 41, 1), (113, 0, 42, 1), (116, 0, 19, 1), (119, 1, 12, 1), (122, 1, 10, 3)]
theorem ml_0_43 : ma_lP 0 (43, 0, 35, 1) := ⟨by decide, wi_2 _ (List.mem_of_getElem? (i := 188) rfl) rfl, wi_2 _ (List.mem_of_getElem? (i := 189) rfl) rfl, wi_2 _ (List.mem_of_getElem? (i := 190) rfl) rfl, by decide +kernel⟩
theorem ml_0_53 : ma_lP 0 (53, 0, 34, 0) := ⟨by decide, wi_4 _ (List.mem_of_getElem? (i := 50) rfl) rfl, wi_2 _ (List.mem_of_getElem? (i := 157) rfl) rfl, wi_2 _ (List.mem_of_getElem? (i := 158) rfl) rfl, by decide +kernel⟩
theorem ml_0_56 : ma_lP 0 (56, 0, 3, 0) := ⟨by decide, wi_2 _ (List.mem_of_getElem? (i := 151) rfl) rfl, wi_2 _ (List.mem_of_getElem? (i := 144) rfl) rfl, wi_2 _ (List.mem_of_getElem? (i := 145) rfl) rfl, by decide +kernel⟩
theorem ml_0_60 : ma_lP 0 (60, 0, 33, 2) := ⟨by decide, wi_2 _ (List.mem_of_getElem? (i := 152) rfl) rfl, wi_2 _ (List.mem_of_getElem? (i := 153) rfl) rfl, wi_2 _ (List.mem_of_getElem? (i := 154) rfl) rfl, by decide +kernel⟩
theorem ml_0_73 : ma_lP 0 (73, 3, 0, 2) := wi_3 _ (List.mem_of_getElem? (i := 72) rfl) rfl
theorem ml_0_79 : ma_lP 0 (79, 4, 0, 2) := wi_3 _ (List.mem_of_getElem? (i := 69) rfl) rfl
theorem ml_0_83 : ma_lP 0 (83, 1, 11, 1) := ⟨by decide, Or.inl (wi_3 _ (List.mem_of_getElem? (i := 65) rfl) rfl), wi_3 _ (List.mem_of_getElem? (i := 66) rfl) rfl, by decide +kernel⟩
theorem ml_0_87 : ma_lP 0 (87, 0, 14, 1) := ⟨by decide, wi_3 _ (List.mem_of_getElem? (i := 61) rfl) rfl, wi_3 _ (List.mem_of_getElem? (i := 62) rfl) rfl, wi_3 _ (List.mem_of_getElem? (i := 63) rfl) rfl, by decide +kernel⟩
theorem ml_0_91 : ma_lP 0 (91, 0, 37, 1) := ⟨by decide, wi_3 _ (List.mem_of_getElem? (i := 68) rfl) rfl, wi_2 _ (List.mem_of_getElem? (i := 125) rfl) rfl, wi_2 _ (List.mem_of_getElem? (i := 126) rfl) rfl, by decide +kernel⟩
theorem ml_0_94 : ma_lP 0 (94, 0, 38, 1) := ⟨by decide, wi_3 _ (List.mem_of_getElem? (i := 73) rfl) rfl, wi_2 _ (List.mem_of_getElem? (i := 129) rfl) rfl, wi_2 _ (List.mem_of_getElem? (i := 130) rfl) rfl, by decide +kernel⟩
theorem ml_0_97 : ma_lP 0 (97, 0, 39, 1) := ⟨by decide, wi_3 _ (List.mem_of_getElem? (i := 74) rfl) rfl, wi_2 _ (List.mem_of_getElem? (i := 133) rfl) rfl, wi_2 _ (List.mem_of_getElem? (i := 134) rfl) rfl, by decide +kernel⟩
theorem ml_0_100 : ma_lP 0 (100, 0, 15, 1) := ⟨by decide, wi_3 _ (List.mem_of_getElem? (i := 57) rfl) rfl, wi_3 _ (List.mem_of_getElem? (i := 58) rfl) rfl, wi_3 _ (List.mem_of_getElem? (i := 59) rfl) rfl, by decide +kernel⟩
theorem ml_0_103 : ma_lP 0 (103, 0, 16, 1) := ⟨by decide, wi_3 _ (List.mem_of_getElem? (i := 53) rfl) rfl, wi_3 _ (List.mem_of_getElem? (i := 54) rfl) rfl, wi_3 _ (List.mem_of_getElem? (i := 55) rfl) rfl, by decide +kernel⟩
theorem ml_0_106 : ma_lP 0 (106, 1, 18, 2) := ⟨by decide, Or.inl (wi_3 _ (List.mem_of_getElem? (i := 75) rfl) rfl), wi_3 _ (List.mem_of_getElem? (i := 76) rfl) rfl, by decide +kernel⟩
theorem ml_0_110 : ma_lP 0 (110, 0, 41, 1) := ⟨by decide, wi_3 _ (List.mem_of_getElem? (i := 81) rfl) rfl, wi_3 _ (List.mem_of_getElem? (i := 82) rfl) rfl, wi_3 _ (List.mem_of_getElem? (i := 83) rfl) rfl, by decide +kernel⟩
theorem ml_0_113 : ma_lP 0 (113, 0, 42, 1) := ⟨by decide, wi_3 _ (List.mem_of_getElem? (i := 86) rfl) rfl, wi_3 _ (List.mem_of_getElem? (i := 87) rfl) rfl, wi_3 _ (List.mem_of_getElem? (i := 88) rfl) rfl, by decide +kernel⟩
theorem ml_0_116 : ma_lP 0 (116, 0, 19, 1) := ⟨by decide, wi_3 _ (List.mem_of_getElem? (i := 91) rfl) rfl, wi_3 _ (List.mem_of_getElem? (i := 93) rfl) rfl, ma_tb_in (List.mem_append_left _ (List.mem_of_getElem? (i := 11) rfl)) rfl, by decide +kernel⟩
theorem ml_0_119 : ma_lP 0 (119, 1, 12, 1) := ⟨by decide, Or.inl (wi_3 _ (List.mem_of_getElem? (i := 78) rfl) rfl), wi_3 _ (List.mem_of_getElem? (i := 79) rfl) rfl, by decide +kernel⟩
theorem ml_0_122 : ma_lP 0 (122, 1, 10, 3) := ⟨by decide, Or.inl (wi_3 _ (List.mem_of_getElem? (i := 120) rfl) rfl), wi_3 _ (List.mem_of_getElem? (i := 121) rfl) rfl, by decide +kernel⟩
theorem mtP_0 : ∀ q ∈ mt_0, ma_lP 0 q := List.forall_mem_cons.mpr ⟨ml_0_43, List.forall_mem_cons.mpr ⟨ml_0_53, List.forall_mem_cons.mpr ⟨ml_0_56, List.forall_mem_cons.mpr ⟨ml_0_60, List.forall_mem_cons.mpr ⟨ml_0_73, List.forall_mem_cons.mpr ⟨ml_0_79, List.forall_mem_cons.mpr ⟨ml_0_83, List.forall_mem_cons.mpr ⟨ml_0_87, List.forall_mem_cons.mpr ⟨ml_0_91, List.forall_mem_cons.mpr ⟨ml_0_94, List.forall_mem_cons.mpr ⟨ml_0_97, List.forall_mem_cons.mpr ⟨ml_0_100, List.forall_mem_cons.mpr ⟨ml_0_103, List.forall_mem_cons.mpr ⟨ml_0_106, List.forall_mem_cons.mpr ⟨ml_0_110, List.forall_mem_cons.mpr ⟨ml_0_113, List.forall_mem_cons.mpr ⟨ml_0_116, List.forall_mem_cons.mpr ⟨ml_0_119, List.forall_mem_cons.mpr ⟨ml_0_122, fun _ h => absurd h List.not_mem_nil⟩⟩⟩⟩⟩⟩⟩⟩⟩⟩⟩⟩⟩⟩⟩⟩⟩⟩⟩
def mt_1 : List (Nat × Nat × Nat × Nat) := [(25, 0, 0, 1), (39, 4, 0, 2), (45, 1, 22, 5), (49, 0, 20, 2), (55, 1, 13, 1), (59, 0, 15, 1), (62, 0, 23, 3), (66, 0, 17, 1), (70, 5, 0, 5)]
theorem ml_1_25 : ma_lP 1 (25, 0, 0, 1) := ⟨by decide, wi_3 _ (List.mem_of_getElem? (i := 131) rfl) rfl, wi_2 _ (List.mem_of_getElem? (i := 185) rfl) rfl, wi_2 _ (List.mem_of_getElem? (i := 186) rfl) rfl, by decide +kernel⟩
theorem ml_1_39 : ma_lP 1 (39, 4, 0, 2) := wi_3 _ (List.mem_of_getElem? (i := 132) rfl) rfl
theorem ml_1_45 : ma_lP 1 (45, 1, 22, 5) := ⟨by decide, Or.inl (wi_3 _ (List.mem_of_getElem? (i := 133) rfl) rfl), wi_3 _ (List.mem_of_getElem? (i := 134) rfl) rfl, by decide +kernel⟩
theorem ml_1_49 : ma_lP 1 (49, 0, 20, 2) := ⟨by decide, wi_3 _ (List.mem_of_getElem? (i := 136) rfl) rfl, wi_3 _ (List.mem_of_getElem? (i := 117) rfl) rfl, wi_3 _ (List.mem_of_getElem? (i := 118) rfl) rfl, by decide +kernel⟩
theorem ml_1_55 : ma_lP 1 (55, 1, 13, 1) := ⟨by decide, Or.inl (wi_3 _ (List.mem_of_getElem? (i := 137) rfl) rfl), wi_3 _ (List.mem_of_getElem? (i := 138) rfl) rfl, by decide +kernel⟩
theorem ml_1_59 : ma_lP 1 (59, 0, 15, 1) := ⟨by decide, wi_3 _ (List.mem_of_getElem? (i := 140) rfl) rfl, wi_3 _ (List.mem_of_getElem? (i := 58) rfl) rfl, wi_3 _ (List.mem_of_getElem? (i := 59) rfl) rfl, by decide +kernel⟩
theorem ml_1_62 : ma_lP 1 (62, 0, 23, 3) := ⟨by decide, wi_3 _ (List.mem_of_getElem? (i := 141) rfl) rfl, wi_3 _ (List.mem_of_getElem? (i := 143) rfl) rfl, ma_tb_in (List.mem_append_left _ (List.mem_of_getElem? (i := 12) rfl)) rfl, by decide +kernel⟩
theorem ml_1_66 : ma_lP 1 (66, 0, 17, 1) := ⟨by decide, wi_3 _ (List.mem_of_getElem? (i := 146) rfl) rfl, wi_3 _ (List.mem_of_getElem? (i := 50) rfl) rfl, wi_3 _ (List.mem_of_getElem? (i := 51) rfl) rfl, by decide +kernel⟩
theorem ml_1_70 : ma_lP 1 (70, 5, 0, 5) := wi_3 _ (List.mem_of_getElem? (i := 145) rfl) rfl
theorem mtP_1 : ∀ q ∈ mt_1, ma_lP 1 q := List.forall_mem_cons.mpr ⟨ml_1_25, List.forall_mem_cons.mpr ⟨ml_1_39, List.forall_mem_cons.mpr ⟨ml_1_45, List.forall_mem_cons.mpr ⟨ml_1_49, List.forall_mem_cons.mpr ⟨ml_1_55, List.forall_mem_cons.mpr ⟨ml_1_59, List.forall_mem_cons.mpr ⟨ml_1_62, List.forall_mem_cons.mpr ⟨ml_1_66, List.forall_mem_cons.mpr ⟨ml_1_70, fun _ h => absurd h List.not_mem_nil⟩⟩⟩⟩⟩⟩⟩⟩⟩
def mt_2 : List (Nat × Nat × Nat × Nat) := [(26, 0, 0, 1), (36, 0, 56, 1), (43, 0, 25, 0), (46, 0, 31, 1), (50, 0, 29, 0), (54, 0, 26, 1), (58, 0, 27, 1), (61, 0, 30, 2), (83, 0, 17, 1), (90, 0, 3, 0), (94, 0, 4, 2), (100, 0, 2, 1), (123, 1, 28, 1), (127, 0, 203, 0), (131, 0, 32, 1), (134, 0, 204, 1), (138, 3, 0, 2)]
theorem ml_2_26 : ma_lP 2 (26, 0, 0, 1) := ⟨by decide, wi_2 _ (List.mem_of_getElem? (i := 184) rfl) rfl, wi_2 _ (List.mem_of_getElem? (i := 185) rfl) rfl, wi_2 _ (List.mem_of_getElem? (i := 186) rfl) rfl, by decide +kernel⟩
theorem ml_2_36 : ma_lP 2 (36, 0, 56, 1) := ⟨by decide, wi_2 _ (List.mem_of_getElem? (i := 192) rfl) rfl, wi_2 _ (List.mem_of_getElem? (i := 193) rfl) rfl, wi_2 _ (List.mem_of_getElem? (i := 194) rfl) rfl, by decide +kernel⟩
theorem ml_2_43 : ma_lP 2 (43, 0, 25, 0) := ⟨by decide, wi_2 _ (List.mem_of_getElem? (i := 196) rfl) rfl, wi_2 _ (List.mem_of_getElem? (i := 198) rfl) rfl, ma_tb_in (List.mem_append_left _ (List.mem_of_getElem? (i := 4) rfl)) rfl, by decide +kernel⟩
theorem ml_2_46 : ma_lP 2 (46, 0, 31, 1) := ⟨by decide, wi_3 _ (List.mem_of_getElem? (i := 39) rfl) rfl, wi_3 _ (List.mem_of_getElem? (i := 41) rfl) rfl, ma_tb_in (List.mem_append_left _ (List.mem_of_getElem? (i := 9) rfl)) rfl, by decide +kernel⟩
theorem ml_2_50 : ma_lP 2 (50, 0, 29, 0) := ⟨by decide, wi_2 _ (List.mem_of_getElem? (i := 200) rfl) rfl, wi_2 _ (List.mem_of_getElem? (i := 202) rfl) rfl, ma_tb_in (List.mem_append_left _ (List.mem_of_getElem? (i := 5) rfl)) rfl, by decide +kernel⟩
theorem ml_2_54 : ma_lP 2 (54, 0, 26, 1) := ⟨by decide, wi_3 _ (List.mem_of_getElem? (i := 30) rfl) rfl, wi_3 _ (List.mem_of_getElem? (i := 32) rfl) rfl, ma_tb_in (List.mem_append_left _ (List.mem_of_getElem? (i := 7) rfl)) rfl, by decide +kernel⟩
theorem ml_2_58 : ma_lP 2 (58, 0, 27, 1) := ⟨by decide, wi_3 _ (List.mem_of_getElem? (i := 44) rfl) rfl, wi_3 _ (List.mem_of_getElem? (i := 46) rfl) rfl, ma_tb_in (List.mem_append_left _ (List.mem_of_getElem? (i := 10) rfl)) rfl, by decide +kernel⟩
theorem ml_2_61 : ma_lP 2 (61, 0, 30, 2) := ⟨by decide, wi_3 _ (List.mem_of_getElem? (i := 35) rfl) rfl, wi_3 _ (List.mem_of_getElem? (i := 37) rfl) rfl, ma_tb_in (List.mem_append_left _ (List.mem_of_getElem? (i := 8) rfl)) rfl, by decide +kernel⟩
theorem ml_2_83 : ma_lP 2 (83, 0, 17, 1) := ⟨by decide, wi_3 _ (List.mem_of_getElem? (i := 49) rfl) rfl, wi_3 _ (List.mem_of_getElem? (i := 50) rfl) rfl, wi_3 _ (List.mem_of_getElem? (i := 51) rfl) rfl, by decide +kernel⟩
theorem ml_2_90 : ma_lP 2 (90, 0, 3, 0) := ⟨by decide, wi_3 _ (List.mem_of_getElem? (i := 34) rfl) rfl, wi_2 _ (List.mem_of_getElem? (i := 144) rfl) rfl, wi_2 _ (List.mem_of_getElem? (i := 145) rfl) rfl, by decide +kernel⟩
theorem ml_2_94 : ma_lP 2 (94, 0, 4, 2) := ⟨by decide, wi_3 _ (List.mem_of_getElem? (i := 43) rfl) rfl, wi_2 _ (List.mem_of_getElem? (i := 148) rfl) rfl, wi_2 _ (List.mem_of_getElem? (i := 149) rfl) rfl, by decide +kernel⟩
theorem ml_2_100 : ma_lP 2 (100, 0, 2, 1) := ⟨by decide, wi_3 _ (List.mem_of_getElem? (i := 48) rfl) rfl, wi_2 _ (List.mem_of_getElem? (i := 95) rfl) rfl, wi_2 _ (List.mem_of_getElem? (i := 96) rfl) rfl, by decide +kernel⟩
theorem ml_2_123 : ma_lP 2 (123, 1, 28, 1) := ⟨by decide, Or.inl (wi_2 _ (List.mem_of_getElem? (i := 204) rfl) rfl), wi_2 _ (List.mem_of_getElem? (i := 205) rfl) rfl, by decide +kernel⟩
theorem ml_2_127 : ma_lP 2 (127, 0, 203, 0) := ⟨by decide, wi_2 _ (List.mem_of_getElem? (i := 215) rfl) rfl, wi_2 _ (List.mem_of_getElem? (i := 216) rfl) rfl, wi_2 _ (List.mem_of_getElem? (i := 217) rfl) rfl, by decide +kernel⟩
theorem ml_2_131 : ma_lP 2 (131, 0, 32, 1) := ⟨by decide, wi_2 _ (List.mem_of_getElem? (i := 225) rfl) rfl, wi_2 _ (List.mem_of_getElem? (i := 227) rfl) rfl, ma_tb_in (List.mem_append_left _ (List.mem_of_getElem? (i := 6) rfl)) rfl, by decide +kernel⟩
theorem ml_2_134 : ma_lP 2 (134, 0, 204, 1) := ⟨by decide, wi_2 _ (List.mem_of_getElem? (i := 229) rfl) rfl, wi_2 _ (List.mem_of_getElem? (i := 230) rfl) rfl, wi_2 _ (List.mem_of_getElem? (i := 231) rfl) rfl, by decide +kernel⟩
theorem ml_2_138 : ma_lP 2 (138, 3, 0, 2) := wi_3 _ (List.mem_of_getElem? (i := 27) rfl) rfl
theorem mtP_2 : ∀ q ∈ mt_2, ma_lP 2 q := List.forall_mem_cons.mpr ⟨ml_2_26, List.forall_mem_cons.mpr ⟨ml_2_36, List.forall_mem_cons.mpr ⟨ml_2_43, List.forall_mem_cons.mpr ⟨ml_2_46, List.forall_mem_cons.mpr ⟨ml_2_50, List.forall_mem_cons.mpr ⟨ml_2_54, List.forall_mem_cons.mpr ⟨ml_2_58, List.forall_mem_cons.mpr ⟨ml_2_61, List.forall_mem_cons.mpr ⟨ml_2_83, List.forall_mem_cons.mpr ⟨ml_2_90, List.forall_mem_cons.mpr ⟨ml_2_94, List.forall_mem_cons.mpr ⟨ml_2_100, List.forall_mem_cons.mpr ⟨ml_2_123, List.forall_mem_cons.mpr ⟨ml_2_127, List.forall_mem_cons.mpr ⟨ml_2_131, List.forall_mem_cons.mpr ⟨ml_2_134, List.forall_mem_cons.mpr ⟨ml_2_138, fun _ h => absurd h List.not_mem_nil⟩⟩⟩⟩⟩⟩⟩⟩⟩⟩⟩⟩⟩⟩⟩⟩⟩
def mt_3 : List (Nat × Nat × Nat × Nat) := [(21, 0, 34, 0), (36, 1, 103, 1), (44, 4, 0, 2), (50, 3, 0, 2)]
theorem ml_3_21 : ma_lP 3 (21, 0, 34, 0) := ⟨by decide, wi_2 _ (List.mem_of_getElem? (i := 156) rfl) rfl, wi_2 _ (List.mem_of_getElem? (i := 157) rfl) rfl, wi_2 _ (List.mem_of_getElem? (i := 158) rfl) rfl, by decide +kernel⟩
theorem ml_3_36 : ma_lP 3 (36, 1, 103, 1) := ⟨by decide, Or.inr ⟨rfl, rfl, rfl⟩, wi_2 _ (List.mem_of_getElem? (i := 111) rfl) rfl, by decide +kernel⟩
theorem ml_3_44 : ma_lP 3 (44, 4, 0, 2) := wi_3 _ (List.mem_of_getElem? (i := 85) rfl) rfl
theorem ml_3_50 : ma_lP 3 (50, 3, 0, 2) := wi_3 _ (List.mem_of_getElem? (i := 90) rfl) rfl
theorem mtP_3 : ∀ q ∈ mt_3, ma_lP 3 q := List.forall_mem_cons.mpr ⟨ml_3_21, List.forall_mem_cons.mpr ⟨ml_3_36, List.forall_mem_cons.mpr ⟨ml_3_44, List.forall_mem_cons.mpr ⟨ml_3_50, fun _ h => absurd h List.not_mem_nil⟩⟩⟩⟩
def mt_4 : List (Nat × Nat × Nat × Nat) := [(18, 0, 0, 1), (33, 0, 44, 0), (37, 0, 45, 0), (40, 0, 46, 0), (43, 0, 48, 0), (46, 0, 17, 1), (50, 1, 10, 3), (54, 0, 16, 1), (60, 0, 20, 2), (64, 0, 47, 1), (81, 0, 49, 1), (84, 0, 15, 1)]
theorem ml_4_18 : ma_lP 4 (18, 0, 0, 1) := ⟨by decide, wi_3 _ (List.mem_of_getElem? (i := 158) rfl) rfl, wi_2 _ (List.mem_of_getElem? (i := 185) rfl) rfl, wi_2 _ (List.mem_of_getElem? (i := 186) rfl) rfl, by decide +kernel⟩
theorem ml_4_33 : ma_lP 4 (33, 0, 44, 0) := ⟨by decide, wi_3 _ (List.mem_of_getElem? (i := 159) rfl) rfl, wi_3 _ (List.mem_of_getElem? (i := 161) rfl) rfl, ma_tb_in (List.mem_append_left _ (List.mem_of_getElem? (i := 13) rfl)) rfl, by decide +kernel⟩
theorem ml_4_37 : ma_lP 4 (37, 0, 45, 0) := ⟨by decide, wi_3 _ (List.mem_of_getElem? (i := 165) rfl) rfl, wi_3 _ (List.mem_of_getElem? (i := 167) rfl) rfl, ma_tb_in (List.mem_append_left _ (List.mem_of_getElem? (i := 14) rfl)) rfl, by decide +kernel⟩
theorem ml_4_40 : ma_lP 4 (40, 0, 46, 0) := ⟨by decide, wi_3 _ (List.mem_of_getElem? (i := 169) rfl) rfl, wi_3 _ (List.mem_of_getElem? (i := 171) rfl) rfl, ma_tb_in (List.mem_append_left _ (List.mem_of_getElem? (i := 15) rfl)) rfl, by decide +kernel⟩
theorem ml_4_43 : ma_lP 4 (43, 0, 48, 0) := ⟨by decide, wi_3 _ (List.mem_of_getElem? (i := 178) rfl) rfl, wi_3 _ (List.mem_of_getElem? (i := 180) rfl) rfl, ma_tb_in (List.mem_append_left _ (List.mem_of_getElem? (i := 17) rfl)) rfl, by decide +kernel⟩
theorem ml_4_46 : ma_lP 4 (46, 0, 17, 1) := ⟨by decide, wi_3 _ (List.mem_of_getElem? (i := 187) rfl) rfl, wi_3 _ (List.mem_of_getElem? (i := 50) rfl) rfl, wi_3 _ (List.mem_of_getElem? (i := 51) rfl) rfl, by decide +kernel⟩
theorem ml_4_50 : ma_lP 4 (50, 1, 10, 3) := ⟨by decide, Or.inl (wi_3 _ (List.mem_of_getElem? (i := 163) rfl) rfl), wi_3 _ (List.mem_of_getElem? (i := 121) rfl) rfl, by decide +kernel⟩
theorem ml_4_54 : ma_lP 4 (54, 0, 16, 1) := ⟨by decide, wi_3 _ (List.mem_of_getElem? (i := 164) rfl) rfl, wi_3 _ (List.mem_of_getElem? (i := 54) rfl) rfl, wi_3 _ (List.mem_of_getElem? (i := 55) rfl) rfl, by decide +kernel⟩
theorem ml_4_60 : ma_lP 4 (60, 0, 20, 2) := ⟨by decide, wi_3 _ (List.mem_of_getElem? (i := 173) rfl) rfl, wi_3 _ (List.mem_of_getElem? (i := 117) rfl) rfl, wi_3 _ (List.mem_of_getElem? (i := 118) rfl) rfl, by decide +kernel⟩
theorem ml_4_64 : ma_lP 4 (64, 0, 47, 1) := ⟨by decide, wi_3 _ (List.mem_of_getElem? (i := 174) rfl) rfl, wi_3 _ (List.mem_of_getElem? (i := 176) rfl) rfl, ma_tb_in (List.mem_append_left _ (List.mem_of_getElem? (i := 16) rfl)) rfl, by decide +kernel⟩
theorem ml_4_81 : ma_lP 4 (81, 0, 49, 1) := ⟨by decide, wi_3 _ (List.mem_of_getElem? (i := 182) rfl) rfl, wi_3 _ (List.mem_of_getElem? (i := 184) rfl) rfl, ma_tb_in (List.mem_append_left _ (List.mem_of_getElem? (i := 18) rfl)) rfl, by decide +kernel⟩
theorem ml_4_84 : ma_lP 4 (84, 0, 15, 1) := ⟨by decide, wi_3 _ (List.mem_of_getElem? (i := 186) rfl) rfl, wi_3 _ (List.mem_of_getElem? (i := 58) rfl) rfl, wi_3 _ (List.mem_of_getElem? (i := 59) rfl) rfl, by decide +kernel⟩
theorem mtP_4 : ∀ q ∈ mt_4, ma_lP 4 q := List.forall_mem_cons.mpr ⟨ml_4_18, List.forall_mem_cons.mpr ⟨ml_4_33, List.forall_mem_cons.mpr ⟨ml_4_37, List.forall_mem_cons.mpr ⟨ml_4_40, List.forall_mem_cons.mpr ⟨ml_4_43, List.forall_mem_cons.mpr ⟨ml_4_46, List.forall_mem_cons.mpr ⟨ml_4_50, List.forall_mem_cons.mpr ⟨ml_4_54, List.forall_mem_cons.mpr ⟨ml_4_60, List.forall_mem_cons.mpr ⟨ml_4_64, List.forall_mem_cons.mpr ⟨ml_4_81, List.forall_mem_cons.mpr ⟨ml_4_84, fun _ h => absurd h List.not_mem_nil⟩⟩⟩⟩⟩⟩⟩⟩⟩⟩⟩⟩
def mt_5 : List (Nat × Nat × Nat × Nat) := [(22, 0, 52, 1)]
theorem ml_5_22 : ma_lP 5 (22, 0, 52, 1) := ⟨by decide, wi_2 _ (List.mem_of_getElem? (i := 74) rfl) rfl, wi_2 _ (List.mem_of_getElem? (i := 67) rfl) rfl, wi_2 _ (List.mem_of_getElem? (i := 68) rfl) rfl, by decide +kernel⟩
theorem mtP_5 : ∀ q ∈ mt_5, ma_lP 5 q := List.forall_mem_cons.mpr ⟨ml_5_22, fun _ h => absurd h List.not_mem_nil⟩
def mt_7 : List (Nat × Nat × Nat × Nat) := [(65, 1, 102, 1), (69, 0, 98, 1), (73, 0, 54, 2), (77, 0, 99, 1), (80, 0, 52, 1), (83, 0, 55, 2), (87, 0, 100, 5), (95, 5, 0, 5), (101, 0, 2, 1), (104, 0, 53, 1), (111, 1, 103, 1), (118, 0, 36, 1), (123, 0, 106, 2), (127, 1, 105, 3), (131, 0, 3, 0), (135, 0, 4, 2), (175, 0, 24, 2), (185, 0, 0, 1), (189, 0, 15, 1), (192, 0, 14, 1), (195, 0, 16, 1), (198, 0, 20, 2), (204, 0, 21, 2), (213, 1, 104, 1), (216, 0, 43, 4), (221, 0, 6, 0), (225, 0, 108, 1), (231, 0, 8, 0), (237, 0, 109, 1), (241, 1, 107, 2), (244, 0, 101, 3), (248, 0, 110, 2), (252, 0, 7, 0), (255, 0, 40, 0), (258, 1, 111, 5), (261, 0, 17, 1), (264, 0, 9, 1), (267, 0, 1, 1), (273, 0, 57, 0), (276, 1, 112, 6), (280, 0, 59, 1), (287, 0, 51, 0), (290, 0, 5, 0), (296, 0, 50, 0), (299, 0, 37, 1), (302, 0, 38, 1), (305, 0, 39, 1), (308, 0, 56, 1), (311, 3, 0, 2), (325, 0, 58, 1)]
theorem ml_7_65 : ma_lP 7 (65, 1, 102, 1) := ⟨by decide, Or.inl (wi_2 _ (List.mem_of_getElem? (i := 39) rfl) rfl), wi_2 _ (List.mem_of_getElem? (i := 40) rfl) rfl, by decide +kernel⟩
theorem ml_7_69 : ma_lP 7 (69, 0, 98, 1) := ⟨by decide, wi_2 _ (List.mem_of_getElem? (i := 42) rfl) rfl, wi_2 _ (List.mem_of_getElem? (i := 44) rfl) rfl, ma_tb_in (List.mem_append_left _ (List.mem_of_getElem? (i := 0) rfl)) rfl, by decide +kernel⟩
theorem ml_7_73 : ma_lP 7 (73, 0, 54, 2) := ⟨by decide, wi_2 _ (List.mem_of_getElem? (i := 46) rfl) rfl, wi_2 _ (List.mem_of_getElem? (i := 47) rfl) rfl, wi_2 _ (List.mem_of_getElem? (i := 48) rfl) rfl, by decide +kernel⟩
theorem ml_7_77 : ma_lP 7 (77, 0, 99, 1) := ⟨by decide, wi_2 _ (List.mem_of_getElem? (i := 54) rfl) rfl, wi_2 _ (List.mem_of_getElem? (i := 56) rfl) rfl, ma_tb_in (List.mem_append_left _ (List.mem_of_getElem? (i := 1) rfl)) rfl, by decide +kernel⟩
theorem ml_7_80 : ma_lP 7 (80, 0, 52, 1) := ⟨by decide, wi_2 _ (List.mem_of_getElem? (i := 66) rfl) rfl, wi_2 _ (List.mem_of_getElem? (i := 67) rfl) rfl, wi_2 _ (List.mem_of_getElem? (i := 68) rfl) rfl, by decide +kernel⟩
theorem ml_7_83 : ma_lP 7 (83, 0, 55, 2) := ⟨by decide, wi_2 _ (List.mem_of_getElem? (i := 70) rfl) rfl, wi_2 _ (List.mem_of_getElem? (i := 71) rfl) rfl, wi_2 _ (List.mem_of_getElem? (i := 72) rfl) rfl, by decide +kernel⟩
theorem ml_7_87 : ma_lP 7 (87, 0, 100, 5) := ⟨by decide, wi_2 _ (List.mem_of_getElem? (i := 79) rfl) rfl, wi_2 _ (List.mem_of_getElem? (i := 81) rfl) rfl, ma_tb_in (List.mem_append_left _ (List.mem_of_getElem? (i := 2) rfl)) rfl, by decide +kernel⟩
theorem ml_7_95 : ma_lP 7 (95, 5, 0, 5) := wi_2 _ (List.mem_of_getElem? (i := 83) rfl) rfl
theorem ml_7_101 : ma_lP 7 (101, 0, 2, 1) := ⟨by decide, wi_2 _ (List.mem_of_getElem? (i := 94) rfl) rfl, wi_2 _ (List.mem_of_getElem? (i := 95) rfl) rfl, wi_2 _ (List.mem_of_getElem? (i := 96) rfl) rfl, by decide +kernel⟩
theorem ml_7_104 : ma_lP 7 (104, 0, 53, 1) := ⟨by decide, wi_2 _ (List.mem_of_getElem? (i := 98) rfl) rfl, wi_2 _ (List.mem_of_getElem? (i := 99) rfl) rfl, wi_2 _ (List.mem_of_getElem? (i := 100) rfl) rfl, by decide +kernel⟩
theorem ml_7_111 : ma_lP 7 (111, 1, 103, 1) := ⟨by decide, Or.inl (wi_2 _ (List.mem_of_getElem? (i := 110) rfl) rfl), wi_2 _ (List.mem_of_getElem? (i := 111) rfl) rfl, by decide +kernel⟩
theorem ml_7_118 : ma_lP 7 (118, 0, 36, 1) := ⟨by decide, wi_2 _ (List.mem_of_getElem? (i := 113) rfl) rfl, wi_2 _ (List.mem_of_getElem? (i := 114) rfl) rfl, wi_2 _ (List.mem_of_getElem? (i := 115) rfl) rfl, by decide +kernel⟩
theorem ml_7_123 : ma_lP 7 (123, 0, 106, 2) := ⟨by decide, wi_2 _ (List.mem_of_getElem? (i := 120) rfl) rfl, wi_2 _ (List.mem_of_getElem? (i := 122) rfl) rfl, ma_tb_in (List.mem_append_left _ (List.mem_of_getElem? (i := 3) rfl)) rfl, by decide +kernel⟩
theorem ml_7_127 : ma_lP 7 (127, 1, 105, 3) := ⟨by decide, Or.inl (wi_2 _ (List.mem_of_getElem? (i := 140) rfl) rfl), wi_2 _ (List.mem_of_getElem? (i := 141) rfl) rfl, by decide +kernel⟩
theorem ml_7_131 : ma_lP 7 (131, 0, 3, 0) := ⟨by decide, wi_2 _ (List.mem_of_getElem? (i := 143) rfl) rfl, wi_2 _ (List.mem_of_getElem? (i := 144) rfl) rfl, wi_2 _ (List.mem_of_getElem? (i := 145) rfl) rfl, by decide +kernel⟩
theorem ml_7_135 : ma_lP 7 (135, 0, 4, 2) := ⟨by decide, wi_2 _ (List.mem_of_getElem? (i := 147) rfl) rfl, wi_2 _ (List.mem_of_getElem? (i := 148) rfl) rfl, wi_2 _ (List.mem_of_getElem? (i := 149) rfl) rfl, by decide +kernel⟩
theorem ml_7_175 : ma_lP 7 (175, 0, 24, 2) := ⟨by decide, wi_2 _ (List.mem_of_getElem? (i := 180) rfl) rfl, wi_2 _ (List.mem_of_getElem? (i := 181) rfl) rfl, wi_2 _ (List.mem_of_getElem? (i := 182) rfl) rfl, by decide +kernel⟩
theorem ml_7_185 : ma_lP 7 (185, 0, 0, 1) := ⟨by decide, wi_3 _ (List.mem_of_getElem? (i := 95) rfl) rfl, wi_2 _ (List.mem_of_getElem? (i := 185) rfl) rfl, wi_2 _ (List.mem_of_getElem? (i := 186) rfl) rfl, by decide +kernel⟩
theorem ml_7_189 : ma_lP 7 (189, 0, 15, 1) := ⟨by decide, wi_3 _ (List.mem_of_getElem? (i := 105) rfl) rfl, wi_3 _ (List.mem_of_getElem? (i := 58) rfl) rfl, wi_3 _ (List.mem_of_getElem? (i := 59) rfl) rfl, by decide +kernel⟩
theorem ml_7_192 : ma_lP 7 (192, 0, 14, 1) := ⟨by decide, wi_3 _ (List.mem_of_getElem? (i := 110) rfl) rfl, wi_3 _ (List.mem_of_getElem? (i := 62) rfl) rfl, wi_3 _ (List.mem_of_getElem? (i := 63) rfl) rfl, by decide +kernel⟩
theorem ml_7_195 : ma_lP 7 (195, 0, 16, 1) := ⟨by decide, wi_3 _ (List.mem_of_getElem? (i := 111) rfl) rfl, wi_3 _ (List.mem_of_getElem? (i := 54) rfl) rfl, wi_3 _ (List.mem_of_getElem? (i := 55) rfl) rfl, by decide +kernel⟩
theorem ml_7_198 : ma_lP 7 (198, 0, 20, 2) := ⟨by decide, wi_3 _ (List.mem_of_getElem? (i := 116) rfl) rfl, wi_3 _ (List.mem_of_getElem? (i := 117) rfl) rfl, wi_3 _ (List.mem_of_getElem? (i := 118) rfl) rfl, by decide +kernel⟩
theorem ml_7_204 : ma_lP 7 (204, 0, 21, 2) := ⟨by decide, wi_3 _ (List.mem_of_getElem? (i := 127) rfl) rfl, wi_3 _ (List.mem_of_getElem? (i := 128) rfl) rfl, wi_3 _ (List.mem_of_getElem? (i := 129) rfl) rfl, by decide +kernel⟩
theorem ml_7_213 : ma_lP 7 (213, 1, 104, 1) := ⟨by decide, Or.inl (wi_3 _ (List.mem_of_getElem? (i := 151) rfl) rfl), wi_3 _ (List.mem_of_getElem? (i := 152) rfl) rfl, by decide +kernel⟩
theorem ml_7_216 : ma_lP 7 (216, 0, 43, 4) := ⟨by decide, wi_3 _ (List.mem_of_getElem? (i := 154) rfl) rfl, wi_3 _ (List.mem_of_getElem? (i := 155) rfl) rfl, wi_3 _ (List.mem_of_getElem? (i := 156) rfl) rfl, by decide +kernel⟩
theorem ml_7_221 : ma_lP 7 (221, 0, 6, 0) := ⟨by decide, wi_3 _ (List.mem_of_getElem? (i := 188) rfl) rfl, wi_3 _ (List.mem_of_getElem? (i := 189) rfl) rfl, wi_3 _ (List.mem_of_getElem? (i := 190) rfl) rfl, by decide +kernel⟩
theorem ml_7_225 : ma_lP 7 (225, 0, 108, 1) := ⟨by decide, wi_3 _ (List.mem_of_getElem? (i := 192) rfl) rfl, wi_3 _ (List.mem_of_getElem? (i := 194) rfl) rfl, ma_tb_in (List.mem_append_left _ (List.mem_of_getElem? (i := 19) rfl)) rfl, by decide +kernel⟩
theorem ml_7_231 : ma_lP 7 (231, 0, 8, 0) := ⟨by decide, wi_3 _ (List.mem_of_getElem? (i := 200) rfl) rfl, wi_3 _ (List.mem_of_getElem? (i := 201) rfl) rfl, wi_3 _ (List.mem_of_getElem? (i := 202) rfl) rfl, by decide +kernel⟩
theorem ml_7_237 : ma_lP 7 (237, 0, 109, 1) := ⟨by decide, wi_3 _ (List.mem_of_getElem? (i := 212) rfl) rfl, wi_3 _ (List.mem_of_getElem? (i := 214) rfl) rfl, ma_tb_in (List.mem_append_left _ (List.mem_of_getElem? (i := 20) rfl)) rfl, by decide +kernel⟩
theorem ml_7_241 : ma_lP 7 (241, 1, 107, 2) := ⟨by decide, Or.inl (wi_3 _ (List.mem_of_getElem? (i := 225) rfl) rfl), wi_3 _ (List.mem_of_getElem? (i := 226) rfl) rfl, by decide +kernel⟩
theorem ml_7_244 : ma_lP 7 (244, 0, 101, 3) := ⟨by decide, wi_3 _ (List.mem_of_getElem? (i := 232) rfl) rfl, wi_3 _ (List.mem_of_getElem? (i := 234) rfl) rfl, ma_tb_in (List.mem_append_left _ (List.mem_of_getElem? (i := 21) rfl)) rfl, by decide +kernel⟩
theorem ml_7_248 : ma_lP 7 (248, 0, 110, 2) := ⟨by decide, wi_3 _ (List.mem_of_getElem? (i := 236) rfl) rfl, wi_3 _ (List.mem_of_getElem? (i := 238) rfl) rfl, ma_tb_in (List.mem_append_left _ (List.mem_of_getElem? (i := 22) rfl)) rfl, by decide +kernel⟩
theorem ml_7_252 : ma_lP 7 (252, 0, 7, 0) := ⟨by decide, wi_4 _ (List.mem_of_getElem? (i := 5) rfl) rfl, wi_4 _ (List.mem_of_getElem? (i := 6) rfl) rfl, wi_4 _ (List.mem_of_getElem? (i := 7) rfl) rfl, by decide +kernel⟩
theorem ml_7_255 : ma_lP 7 (255, 0, 40, 0) := ⟨by decide, wi_4 _ (List.mem_of_getElem? (i := 17) rfl) rfl, wi_4 _ (List.mem_of_getElem? (i := 18) rfl) rfl, wi_4 _ (List.mem_of_getElem? (i := 19) rfl) rfl, by decide +kernel⟩
theorem ml_7_258 : ma_lP 7 (258, 1, 111, 5) := ⟨by decide, Or.inl (wi_4 _ (List.mem_of_getElem? (i := 21) rfl) rfl), wi_4 _ (List.mem_of_getElem? (i := 22) rfl) rfl, by decide +kernel⟩
theorem ml_7_261 : ma_lP 7 (261, 0, 17, 1) := ⟨by decide, wi_4 _ (List.mem_of_getElem? (i := 0) rfl) rfl, wi_3 _ (List.mem_of_getElem? (i := 50) rfl) rfl, wi_3 _ (List.mem_of_getElem? (i := 51) rfl) rfl, by decide +kernel⟩
theorem ml_7_264 : ma_lP 7 (264, 0, 9, 1) := ⟨by decide, wi_4 _ (List.mem_of_getElem? (i := 37) rfl) rfl, wi_4 _ (List.mem_of_getElem? (i := 38) rfl) rfl, wi_4 _ (List.mem_of_getElem? (i := 39) rfl) rfl, by decide +kernel⟩
theorem ml_7_267 : ma_lP 7 (267, 0, 1, 1) := ⟨by decide, wi_4 _ (List.mem_of_getElem? (i := 46) rfl) rfl, wi_4 _ (List.mem_of_getElem? (i := 47) rfl) rfl, wi_4 _ (List.mem_of_getElem? (i := 48) rfl) rfl, by decide +kernel⟩
theorem ml_7_273 : ma_lP 7 (273, 0, 57, 0) := ⟨by decide, wi_4 _ (List.mem_of_getElem? (i := 59) rfl) rfl, wi_4 _ (List.mem_of_getElem? (i := 60) rfl) rfl, wi_4 _ (List.mem_of_getElem? (i := 61) rfl) rfl, by decide +kernel⟩
theorem ml_7_276 : ma_lP 7 (276, 1, 112, 6) := ⟨by decide, Or.inl (wi_4 _ (List.mem_of_getElem? (i := 63) rfl) rfl), wi_4 _ (List.mem_of_getElem? (i := 64) rfl) rfl, by decide +kernel⟩
theorem ml_7_280 : ma_lP 7 (280, 0, 59, 1) := ⟨by decide, wi_4 _ (List.mem_of_getElem? (i := 81) rfl) rfl, wi_4 _ (List.mem_of_getElem? (i := 82) rfl) rfl, wi_4 _ (List.mem_of_getElem? (i := 83) rfl) rfl, by decide +kernel⟩
theorem ml_7_287 : ma_lP 7 (287, 0, 51, 0) := ⟨by decide, wi_2 _ (List.mem_of_getElem? (i := 58) rfl) rfl, wi_2 _ (List.mem_of_getElem? (i := 59) rfl) rfl, wi_2 _ (List.mem_of_getElem? (i := 60) rfl) rfl, by decide +kernel⟩
theorem ml_7_290 : ma_lP 7 (290, 0, 5, 0) := ⟨by decide, wi_4 _ (List.mem_of_getElem? (i := 97) rfl) rfl, wi_4 _ (List.mem_of_getElem? (i := 98) rfl) rfl, wi_4 _ (List.mem_of_getElem? (i := 99) rfl) rfl, by decide +kernel⟩
theorem ml_7_296 : ma_lP 7 (296, 0, 50, 0) := ⟨by decide, wi_2 _ (List.mem_of_getElem? (i := 62) rfl) rfl, wi_2 _ (List.mem_of_getElem? (i := 63) rfl) rfl, wi_2 _ (List.mem_of_getElem? (i := 64) rfl) rfl, by decide +kernel⟩
theorem ml_7_299 : ma_lP 7 (299, 0, 37, 1) := ⟨by decide, wi_2 _ (List.mem_of_getElem? (i := 124) rfl) rfl, wi_2 _ (List.mem_of_getElem? (i := 125) rfl) rfl, wi_2 _ (List.mem_of_getElem? (i := 126) rfl) rfl, by decide +kernel⟩
theorem ml_7_302 : ma_lP 7 (302, 0, 38, 1) := ⟨by decide, wi_2 _ (List.mem_of_getElem? (i := 128) rfl) rfl, wi_2 _ (List.mem_of_getElem? (i := 129) rfl) rfl, wi_2 _ (List.mem_of_getElem? (i := 130) rfl) rfl, by decide +kernel⟩
theorem ml_7_305 : ma_lP 7 (305, 0, 39, 1) := ⟨by decide, wi_2 _ (List.mem_of_getElem? (i := 132) rfl) rfl, wi_2 _ (List.mem_of_getElem? (i := 133) rfl) rfl, wi_2 _ (List.mem_of_getElem? (i := 134) rfl) rfl, by decide +kernel⟩
theorem ml_7_308 : ma_lP 7 (308, 0, 56, 1) := ⟨by decide, wi_3 _ (List.mem_of_getElem? (i := 216) rfl) rfl, wi_2 _ (List.mem_of_getElem? (i := 193) rfl) rfl, wi_2 _ (List.mem_of_getElem? (i := 194) rfl) rfl, by decide +kernel⟩
theorem ml_7_311 : ma_lP 7 (311, 3, 0, 2) := wi_4 _ (List.mem_of_getElem? (i := 24) rfl) rfl
theorem ml_7_325 : ma_lP 7 (325, 0, 58, 1) := ⟨by decide, wi_4 _ (List.mem_of_getElem? (i := 72) rfl) rfl, wi_4 _ (List.mem_of_getElem? (i := 73) rfl) rfl, wi_4 _ (List.mem_of_getElem? (i := 74) rfl) rfl, by decide +kernel⟩
theorem mtP_7 : ∀ q ∈ mt_7, ma_lP 7 q := List.forall_mem_cons.mpr ⟨ml_7_65, List.forall_mem_cons.mpr ⟨ml_7_69, List.forall_mem_cons.mpr ⟨ml_7_73, List.forall_mem_cons.mpr ⟨ml_7_77, List.forall_mem_cons.mpr ⟨ml_7_80, List.forall_mem_cons.mpr ⟨ml_7_83, List.forall_mem_cons.mpr ⟨ml_7_87, List.forall_mem_cons.mpr ⟨ml_7_95, List.forall_mem_cons.mpr ⟨ml_7_101, List.forall_mem_cons.mpr ⟨ml_7_104, List.forall_mem_cons.mpr ⟨ml_7_111, List.forall_mem_cons.mpr ⟨ml_7_118, List.forall_mem_cons.mpr ⟨ml_7_123, List.forall_mem_cons.mpr ⟨ml_7_127, List.forall_mem_cons.mpr ⟨ml_7_131, List.forall_mem_cons.mpr ⟨ml_7_135, List.forall_mem_cons.mpr ⟨ml_7_175, List.forall_mem_cons.mpr ⟨ml_7_185, List.forall_mem_cons.mpr ⟨ml_7_189, List.forall_mem_cons.mpr ⟨ml_7_192, List.forall_mem_cons.mpr ⟨ml_7_195, List.forall_mem_cons.mpr ⟨ml_7_198, List.forall_mem_cons.mpr ⟨ml_7_204, List.forall_mem_cons.mpr ⟨ml_7_213, List.forall_mem_cons.mpr ⟨ml_7_216, List.forall_mem_cons.mpr ⟨ml_7_221, List.forall_mem_cons.mpr ⟨ml_7_225, List.forall_mem_cons.mpr ⟨ml_7_231, List.forall_mem_cons.mpr ⟨ml_7_237, List.forall_mem_cons.mpr ⟨ml_7_241, List.forall_mem_cons.mpr ⟨ml_7_244, List.forall_mem_cons.mpr ⟨ml_7_248, List.forall_mem_cons.mpr ⟨ml_7_252, List.forall_mem_cons.mpr ⟨ml_7_255, List.forall_mem_cons.mpr ⟨ml_7_258, List.forall_mem_cons.mpr ⟨ml_7_261, List.forall_mem_cons.mpr ⟨ml_7_264, List.forall_mem_cons.mpr ⟨ml_7_267, List.forall_mem_cons.mpr ⟨ml_7_273, List.forall_mem_cons.mpr ⟨ml_7_276, List.forall_mem_cons.mpr ⟨ml_7_280, List.forall_mem_cons.mpr ⟨ml_7_287, List.forall_mem_cons.mpr ⟨ml_7_290, List.forall_mem_cons.mpr ⟨ml_7_296, List.forall_mem_cons.mpr ⟨ml_7_299, List.forall_mem_cons.mpr ⟨ml_7_302, List.forall_mem_cons.mpr ⟨ml_7_305, List.forall_mem_cons.mpr ⟨ml_7_308, List.forall_mem_cons.mpr ⟨ml_7_311, List.forall_mem_cons.mpr ⟨ml_7_325, fun _ h => absurd h List.not_mem_nil⟩⟩⟩⟩⟩⟩⟩⟩⟩⟩⟩⟩⟩⟩⟩⟩⟩⟩⟩⟩⟩⟩⟩⟩⟩⟩⟩⟩⟩⟩⟩⟩⟩⟩⟩⟩⟩⟩⟩⟩⟩⟩⟩⟩⟩⟩⟩⟩⟩⟩
def mt_8 : List (Nat × Nat × Nat × Nat) := [(102, 0, 115, 1), (106, 0, 113, 1), (110, 0, 116, 1), (113, 0, 148, 1), (116, 0, 149, 1), (119, 0, 150, 1), (122, 0, 124, 1), (125, 0, 127, 2), (129, 0, 131, 2), (139, 0, 133, 2), (142, 0, 134, 2), (160, 0, 139, 0), (164, 0, 136, 1), (167, 0, 154, 1), (170, 0, 137, 1), (173, 0, 138, 0), (177, 0, 140, 0), (180, 0, 141, 2), (183, 0, 156, 1), (187, 0, 143, 4), (191, 0, 144, 3), (195, 0, 142, 0), (198, 0, 147, 1), (201, 0, 151, 1), (204, 0, 152, 1), (207, 0, 153, 1), (210, 0, 155, 1), (213, 0, 159, 1), (216, 0, 160, 0), (219, 0, 161, 1), (222, 0, 163, 1), (235, 0, 164, 2), (249, 0, 169, 1), (253, 0, 167, 1), (256, 0, 168, 2), (260, 0, 166, 0), (266, 0, 170, 1), (269, 0, 172, 1), (272, 0, 171, 2), (275, 0, 174, 1), (278, 0, 173, 2), (281, 0, 125, 2), (284, 0, 126, 2), (287, 0, 178, 2), (290, 0, 114, 1), (293, 0, 177, 2), (296, 0, 182, 2), (299, 0, 184, 5), (304, 0, 190, 1), (310, 0, 194, 1), (313, 0, 195, 2), (316, 0, 196, 2), (319, 0, 197, 2)]
theorem ml_8_102 : ma_lP 8 (102, 0, 115, 1) := ⟨by decide, wi_5 _ (List.mem_of_getElem? (i := 10) rfl) rfl, wi_5 _ (List.mem_of_getElem? (i := 12) rfl) rfl, ma_tb_in (List.mem_append_left _ (List.mem_of_getElem? (i := 23) rfl)) rfl, by decide +kernel⟩
theorem ml_8_106 : ma_lP 8 (106, 0, 113, 1) := ⟨by decide, wi_5 _ (List.mem_of_getElem? (i := 14) rfl) rfl, wi_5 _ (List.mem_of_getElem? (i := 16) rfl) rfl, ma_tb_in (List.mem_append_left _ (List.mem_of_getElem? (i := 24) rfl)) rfl, by decide +kernel⟩
theorem ml_8_110 : ma_lP 8 (110, 0, 116, 1) := ⟨by decide, wi_5 _ (List.mem_of_getElem? (i := 34) rfl) rfl, wi_5 _ (List.mem_of_getElem? (i := 36) rfl) rfl, ma_tb_in (List.mem_append_left _ (List.mem_of_getElem? (i := 25) rfl)) rfl, by decide +kernel⟩
theorem ml_8_113 : ma_lP 8 (113, 0, 148, 1) := ⟨by decide, wi_5 _ (List.mem_of_getElem? (i := 46) rfl) rfl, wi_5 _ (List.mem_of_getElem? (i := 48) rfl) rfl, ma_tb_in (List.mem_append_left _ (List.mem_of_getElem? (i := 26) rfl)) rfl, by decide +kernel⟩
theorem ml_8_116 : ma_lP 8 (116, 0, 149, 1) := ⟨by decide, wi_5 _ (List.mem_of_getElem? (i := 54) rfl) rfl, wi_5 _ (List.mem_of_getElem? (i := 56) rfl) rfl, ma_tb_in (List.mem_append_left _ (List.mem_of_getElem? (i := 28) rfl)) rfl, by decide +kernel⟩
theorem ml_8_119 : ma_lP 8 (119, 0, 150, 1) := ⟨by decide, wi_5 _ (List.mem_of_getElem? (i := 58) rfl) rfl, wi_5 _ (List.mem_of_getElem? (i := 60) rfl) rfl, ma_tb_in (List.mem_append_left _ (List.mem_of_getElem? (i := 29) rfl)) rfl, by decide +kernel⟩
theorem ml_8_122 : ma_lP 8 (122, 0, 124, 1) := ⟨by decide, wi_5 _ (List.mem_of_getElem? (i := 102) rfl) rfl, wi_5 _ (List.mem_of_getElem? (i := 104) rfl) rfl, ma_tb_in (List.mem_append_left _ (List.mem_of_getElem? (i := 34) rfl)) rfl, by decide +kernel⟩
theorem ml_8_125 : ma_lP 8 (125, 0, 127, 2) := ⟨by decide, wi_5 _ (List.mem_of_getElem? (i := 66) rfl) rfl, wi_5 _ (List.mem_of_getElem? (i := 68) rfl) rfl, ma_tb_in (List.mem_append_left _ (List.mem_of_getElem? (i := 30) rfl)) rfl, by decide +kernel⟩
theorem ml_8_129 : ma_lP 8 (129, 0, 131, 2) := ⟨by decide, wi_5 _ (List.mem_of_getElem? (i := 82) rfl) rfl, wi_5 _ (List.mem_of_getElem? (i := 84) rfl) rfl, ma_tb_in (List.mem_append_left _ (List.mem_of_getElem? (i := 31) rfl)) rfl, by decide +kernel⟩
theorem ml_8_139 : ma_lP 8 (139, 0, 133, 2) := ⟨by decide, wi_5 _ (List.mem_of_getElem? (i := 90) rfl) rfl, wi_5 _ (List.mem_of_getElem? (i := 92) rfl) rfl, ma_tb_in (List.mem_append_left _ (List.mem_of_getElem? (i := 32) rfl)) rfl, by decide +kernel⟩
theorem ml_8_142 : ma_lP 8 (142, 0, 134, 2) := ⟨by decide, wi_5 _ (List.mem_of_getElem? (i := 94) rfl) rfl, wi_5 _ (List.mem_of_getElem? (i := 96) rfl) rfl, ma_tb_in (List.mem_append_left _ (List.mem_of_getElem? (i := 33) rfl)) rfl, by decide +kernel⟩
theorem ml_8_160 : ma_lP 8 (160, 0, 139, 0) := ⟨by decide, wi_5 _ (List.mem_of_getElem? (i := 134) rfl) rfl, wi_5 _ (List.mem_of_getElem? (i := 136) rfl) rfl, ma_tb_in (List.mem_append_left _ (List.mem_of_getElem? (i := 42) rfl)) rfl, by decide +kernel⟩
theorem ml_8_164 : ma_lP 8 (164, 0, 136, 1) := ⟨by decide, wi_5 _ (List.mem_of_getElem? (i := 122) rfl) rfl, wi_5 _ (List.mem_of_getElem? (i := 124) rfl) rfl, ma_tb_in (List.mem_append_left _ (List.mem_of_getElem? (i := 39) rfl)) rfl, by decide +kernel⟩
theorem ml_8_167 : ma_lP 8 (167, 0, 154, 1) := ⟨by decide, wi_5 _ (List.mem_of_getElem? (i := 142) rfl) rfl, wi_5 _ (List.mem_of_getElem? (i := 144) rfl) rfl, ma_tb_in (List.mem_append_left _ (List.mem_of_getElem? (i := 44) rfl)) rfl, by decide +kernel⟩
theorem ml_8_170 : ma_lP 8 (170, 0, 137, 1) := ⟨by decide, wi_5 _ (List.mem_of_getElem? (i := 118) rfl) rfl, wi_5 _ (List.mem_of_getElem? (i := 120) rfl) rfl, ma_tb_in (List.mem_append_left _ (List.mem_of_getElem? (i := 38) rfl)) rfl, by decide +kernel⟩
theorem ml_8_173 : ma_lP 8 (173, 0, 138, 0) := ⟨by decide, wi_5 _ (List.mem_of_getElem? (i := 126) rfl) rfl, wi_5 _ (List.mem_of_getElem? (i := 128) rfl) rfl, ma_tb_in (List.mem_append_left _ (List.mem_of_getElem? (i := 40) rfl)) rfl, by decide +kernel⟩
theorem ml_8_177 : ma_lP 8 (177, 0, 140, 0) := ⟨by decide, wi_5 _ (List.mem_of_getElem? (i := 130) rfl) rfl, wi_5 _ (List.mem_of_getElem? (i := 132) rfl) rfl, ma_tb_in (List.mem_append_left _ (List.mem_of_getElem? (i := 41) rfl)) rfl, by decide +kernel⟩
theorem ml_8_180 : ma_lP 8 (180, 0, 141, 2) := ⟨by decide, wi_5 _ (List.mem_of_getElem? (i := 138) rfl) rfl, wi_5 _ (List.mem_of_getElem? (i := 140) rfl) rfl, ma_tb_in (List.mem_append_left _ (List.mem_of_getElem? (i := 43) rfl)) rfl, by decide +kernel⟩
theorem ml_8_183 : ma_lP 8 (183, 0, 156, 1) := ⟨by decide, wi_5 _ (List.mem_of_getElem? (i := 158) rfl) rfl, wi_5 _ (List.mem_of_getElem? (i := 160) rfl) rfl, ma_tb_in (List.mem_append_left _ (List.mem_of_getElem? (i := 48) rfl)) rfl, by decide +kernel⟩
theorem ml_8_187 : ma_lP 8 (187, 0, 143, 4) := ⟨by decide, wi_5 _ (List.mem_of_getElem? (i := 110) rfl) rfl, wi_5 _ (List.mem_of_getElem? (i := 112) rfl) rfl, ma_tb_in (List.mem_append_left _ (List.mem_of_getElem? (i := 36) rfl)) rfl, by decide +kernel⟩
theorem ml_8_191 : ma_lP 8 (191, 0, 144, 3) := ⟨by decide, wi_5 _ (List.mem_of_getElem? (i := 106) rfl) rfl, wi_5 _ (List.mem_of_getElem? (i := 108) rfl) rfl, ma_tb_in (List.mem_append_left _ (List.mem_of_getElem? (i := 35) rfl)) rfl, by decide +kernel⟩
theorem ml_8_195 : ma_lP 8 (195, 0, 142, 0) := ⟨by decide, wi_5 _ (List.mem_of_getElem? (i := 114) rfl) rfl, wi_5 _ (List.mem_of_getElem? (i := 116) rfl) rfl, ma_tb_in (List.mem_append_left _ (List.mem_of_getElem? (i := 37) rfl)) rfl, by decide +kernel⟩
theorem ml_8_198 : ma_lP 8 (198, 0, 147, 1) := ⟨by decide, wi_5 _ (List.mem_of_getElem? (i := 50) rfl) rfl, wi_5 _ (List.mem_of_getElem? (i := 52) rfl) rfl, ma_tb_in (List.mem_append_left _ (List.mem_of_getElem? (i := 27) rfl)) rfl, by decide +kernel⟩
theorem ml_8_201 : ma_lP 8 (201, 0, 151, 1) := ⟨by decide, wi_5 _ (List.mem_of_getElem? (i := 146) rfl) rfl, wi_5 _ (List.mem_of_getElem? (i := 148) rfl) rfl, ma_tb_in (List.mem_append_left _ (List.mem_of_getElem? (i := 45) rfl)) rfl, by decide +kernel⟩
theorem ml_8_204 : ma_lP 8 (204, 0, 152, 1) := ⟨by decide, wi_5 _ (List.mem_of_getElem? (i := 150) rfl) rfl, wi_5 _ (List.mem_of_getElem? (i := 152) rfl) rfl, ma_tb_in (List.mem_append_left _ (List.mem_of_getElem? (i := 46) rfl)) rfl, by decide +kernel⟩
theorem ml_8_207 : ma_lP 8 (207, 0, 153, 1) := ⟨by decide, wi_5 _ (List.mem_of_getElem? (i := 154) rfl) rfl, wi_5 _ (List.mem_of_getElem? (i := 156) rfl) rfl, ma_tb_in (List.mem_append_left _ (List.mem_of_getElem? (i := 47) rfl)) rfl, by decide +kernel⟩
theorem ml_8_210 : ma_lP 8 (210, 0, 155, 1) := ⟨by decide, wi_5 _ (List.mem_of_getElem? (i := 162) rfl) rfl, wi_5 _ (List.mem_of_getElem? (i := 164) rfl) rfl, ma_tb_in (List.mem_append_left _ (List.mem_of_getElem? (i := 49) rfl)) rfl, by decide +kernel⟩
theorem ml_8_213 : ma_lP 8 (213, 0, 159, 1) := ⟨by decide, wi_5 _ (List.mem_of_getElem? (i := 186) rfl) rfl, wi_5 _ (List.mem_of_getElem? (i := 188) rfl) rfl, ma_tb_in (List.mem_append_left _ (List.mem_of_getElem? (i := 51) rfl)) rfl, by decide +kernel⟩
theorem ml_8_216 : ma_lP 8 (216, 0, 160, 0) := ⟨by decide, wi_5 _ (List.mem_of_getElem? (i := 182) rfl) rfl, wi_5 _ (List.mem_of_getElem? (i := 184) rfl) rfl, ma_tb_in (List.mem_append_left _ (List.mem_of_getElem? (i := 50) rfl)) rfl, by decide +kernel⟩
theorem ml_8_219 : ma_lP 8 (219, 0, 161, 1) := ⟨by decide, wi_5 _ (List.mem_of_getElem? (i := 190) rfl) rfl, wi_5 _ (List.mem_of_getElem? (i := 192) rfl) rfl, ma_tb_in (List.mem_append_left _ (List.mem_of_getElem? (i := 52) rfl)) rfl, by decide +kernel⟩
theorem ml_8_222 : ma_lP 8 (222, 0, 163, 1) := ⟨by decide, wi_5 _ (List.mem_of_getElem? (i := 198) rfl) rfl, wi_5 _ (List.mem_of_getElem? (i := 200) rfl) rfl, ma_tb_in (List.mem_append_left _ (List.mem_of_getElem? (i := 53) rfl)) rfl, by decide +kernel⟩
theorem ml_8_235 : ma_lP 8 (235, 0, 164, 2) := ⟨by decide, wi_5 _ (List.mem_of_getElem? (i := 202) rfl) rfl, wi_5 _ (List.mem_of_getElem? (i := 204) rfl) rfl, ma_tb_in (List.mem_append_left _ (List.mem_of_getElem? (i := 54) rfl)) rfl, by decide +kernel⟩
theorem ml_8_249 : ma_lP 8 (249, 0, 169, 1) := ⟨by decide, wi_5 _ (List.mem_of_getElem? (i := 226) rfl) rfl, wi_5 _ (List.mem_of_getElem? (i := 228) rfl) rfl, ma_tb_in (List.mem_append_left _ (List.mem_of_getElem? (i := 59) rfl)) rfl, by decide +kernel⟩
theorem ml_8_253 : ma_lP 8 (253, 0, 167, 1) := ⟨by decide, wi_5 _ (List.mem_of_getElem? (i := 230) rfl) rfl, wi_5 _ (List.mem_of_getElem? (i := 232) rfl) rfl, ma_tb_in (List.mem_append_left _ (List.mem_of_getElem? (i := 60) rfl)) rfl, by decide +kernel⟩
theorem ml_8_256 : ma_lP 8 (256, 0, 168, 2) := ⟨by decide, wi_5 _ (List.mem_of_getElem? (i := 234) rfl) rfl, wi_5 _ (List.mem_of_getElem? (i := 236) rfl) rfl, ma_tb_in (List.mem_append_left _ (List.mem_of_getElem? (i := 61) rfl)) rfl, by decide +kernel⟩
theorem ml_8_260 : ma_lP 8 (260, 0, 166, 0) := ⟨by decide, wi_5 _ (List.mem_of_getElem? (i := 218) rfl) rfl, wi_5 _ (List.mem_of_getElem? (i := 220) rfl) rfl, ma_tb_in (List.mem_append_left _ (List.mem_of_getElem? (i := 57) rfl)) rfl, by decide +kernel⟩
theorem ml_8_266 : ma_lP 8 (266, 0, 170, 1) := ⟨by decide, wi_5 _ (List.mem_of_getElem? (i := 222) rfl) rfl, wi_5 _ (List.mem_of_getElem? (i := 224) rfl) rfl, ma_tb_in (List.mem_append_left _ (List.mem_of_getElem? (i := 58) rfl)) rfl, by decide +kernel⟩
theorem ml_8_269 : ma_lP 8 (269, 0, 172, 1) := ⟨by decide, wi_5 _ (List.mem_of_getElem? (i := 210) rfl) rfl, wi_5 _ (List.mem_of_getElem? (i := 212) rfl) rfl, ma_tb_in (List.mem_append_left _ (List.mem_of_getElem? (i := 55) rfl)) rfl, by decide +kernel⟩
theorem ml_8_272 : ma_lP 8 (272, 0, 171, 2) := ⟨by decide, wi_5 _ (List.mem_of_getElem? (i := 214) rfl) rfl, wi_5 _ (List.mem_of_getElem? (i := 216) rfl) rfl, ma_tb_in (List.mem_append_left _ (List.mem_of_getElem? (i := 56) rfl)) rfl, by decide +kernel⟩
theorem ml_8_275 : ma_lP 8 (275, 0, 174, 1) := ⟨by decide, wi_6 _ (List.mem_of_getElem? (i := 2) rfl) rfl, wi_6 _ (List.mem_of_getElem? (i := 4) rfl) rfl, ma_tb_in (List.mem_append_left _ (List.mem_of_getElem? (i := 62) rfl)) rfl, by decide +kernel⟩
theorem ml_8_278 : ma_lP 8 (278, 0, 173, 2) := ⟨by decide, wi_6 _ (List.mem_of_getElem? (i := 10) rfl) rfl, wi_5 _ (List.mem_of_getElem? (i := 207) rfl) rfl, wi_5 _ (List.mem_of_getElem? (i := 208) rfl) rfl, by decide +kernel⟩
theorem ml_8_281 : ma_lP 8 (281, 0, 125, 2) := ⟨by decide, wi_6 _ (List.mem_of_getElem? (i := 31) rfl) rfl, wi_6 _ (List.mem_of_getElem? (i := 33) rfl) rfl, ma_tb_in (List.mem_append_left _ (List.mem_of_getElem? (i := 67) rfl)) rfl, by decide +kernel⟩
theorem ml_8_284 : ma_lP 8 (284, 0, 126, 2) := ⟨by decide, wi_6 _ (List.mem_of_getElem? (i := 19) rfl) rfl, wi_6 _ (List.mem_of_getElem? (i := 21) rfl) rfl, ma_tb_in (List.mem_append_left _ (List.mem_of_getElem? (i := 64) rfl)) rfl, by decide +kernel⟩
theorem ml_8_287 : ma_lP 8 (287, 0, 178, 2) := ⟨by decide, wi_6 _ (List.mem_of_getElem? (i := 15) rfl) rfl, wi_6 _ (List.mem_of_getElem? (i := 17) rfl) rfl, ma_tb_in (List.mem_append_left _ (List.mem_of_getElem? (i := 63) rfl)) rfl, by decide +kernel⟩
theorem ml_8_290 : ma_lP 8 (290, 0, 114, 1) := ⟨by decide, wi_6 _ (List.mem_of_getElem? (i := 23) rfl) rfl, wi_6 _ (List.mem_of_getElem? (i := 25) rfl) rfl, ma_tb_in (List.mem_append_left _ (List.mem_of_getElem? (i := 65) rfl)) rfl, by decide +kernel⟩
theorem ml_8_293 : ma_lP 8 (293, 0, 177, 2) := ⟨by decide, wi_6 _ (List.mem_of_getElem? (i := 27) rfl) rfl, wi_6 _ (List.mem_of_getElem? (i := 29) rfl) rfl, ma_tb_in (List.mem_append_left _ (List.mem_of_getElem? (i := 66) rfl)) rfl, by decide +kernel⟩
theorem ml_8_296 : ma_lP 8 (296, 0, 182, 2) := ⟨by decide, wi_6 _ (List.mem_of_getElem? (i := 47) rfl) rfl, wi_6 _ (List.mem_of_getElem? (i := 49) rfl) rfl, ma_tb_in (List.mem_append_left _ (List.mem_of_getElem? (i := 68) rfl)) rfl, by decide +kernel⟩
theorem ml_8_299 : ma_lP 8 (299, 0, 184, 5) := ⟨by decide, wi_6 _ (List.mem_of_getElem? (i := 55) rfl) rfl, wi_6 _ (List.mem_of_getElem? (i := 57) rfl) rfl, ma_tb_in (List.mem_append_left _ (List.mem_of_getElem? (i := 69) rfl)) rfl, by decide +kernel⟩
theorem ml_8_304 : ma_lP 8 (304, 0, 190, 1) := ⟨by decide, wi_6 _ (List.mem_of_getElem? (i := 79) rfl) rfl, wi_6 _ (List.mem_of_getElem? (i := 81) rfl) rfl, ma_tb_in (List.mem_append_left _ (List.mem_of_getElem? (i := 70) rfl)) rfl, by decide +kernel⟩
theorem ml_8_310 : ma_lP 8 (310, 0, 194, 1) := ⟨by decide, wi_6 _ (List.mem_of_getElem? (i := 100) rfl) rfl, wi_6 _ (List.mem_of_getElem? (i := 102) rfl) rfl, ma_tb_in (List.mem_append_left _ (List.mem_of_getElem? (i := 72) rfl)) rfl, by decide +kernel⟩
theorem ml_8_313 : ma_lP 8 (313, 0, 195, 2) := ⟨by decide, wi_6 _ (List.mem_of_getElem? (i := 96) rfl) rfl, wi_6 _ (List.mem_of_getElem? (i := 98) rfl) rfl, ma_tb_in (List.mem_append_left _ (List.mem_of_getElem? (i := 71) rfl)) rfl, by decide +kernel⟩
theorem ml_8_316 : ma_lP 8 (316, 0, 196, 2) := ⟨by decide, wi_6 _ (List.mem_of_getElem? (i := 104) rfl) rfl, wi_6 _ (List.mem_of_getElem? (i := 106) rfl) rfl, ma_tb_in (List.mem_append_left _ (List.mem_of_getElem? (i := 73) rfl)) rfl, by decide +kernel⟩
theorem ml_8_319 : ma_lP 8 (319, 0, 197, 2) := ⟨by decide, wi_6 _ (List.mem_of_getElem? (i := 108) rfl) rfl, wi_6 _ (List.mem_of_getElem? (i := 110) rfl) rfl, ma_tb_in (List.mem_append_left _ (List.mem_of_getElem? (i := 74) rfl)) rfl, by decide +kernel⟩
theorem mtP_8 : ∀ q ∈ mt_8, ma_lP 8 q := List.forall_mem_cons.mpr ⟨ml_8_102, List.forall_mem_cons.mpr ⟨ml_8_106, List.forall_mem_cons.mpr ⟨ml_8_110, List.forall_mem_cons.mpr ⟨ml_8_113, List.forall_mem_cons.mpr ⟨ml_8_116, List.forall_mem_cons.mpr ⟨ml_8_119, List.forall_mem_cons.mpr ⟨ml_8_122, List.forall_mem_cons.mpr ⟨ml_8_125, List.forall_mem_cons.mpr ⟨ml_8_129, List.forall_mem_cons.mpr ⟨ml_8_139, List.forall_mem_cons.mpr ⟨ml_8_142, List.forall_mem_cons.mpr ⟨ml_8_160, List.forall_mem_cons.mpr ⟨ml_8_164, List.forall_mem_cons.mpr ⟨ml_8_167, List.forall_mem_cons.mpr ⟨ml_8_170, List.forall_mem_cons.mpr ⟨ml_8_173, List.forall_mem_cons.mpr ⟨ml_8_177, List.forall_mem_cons.mpr ⟨ml_8_180, List.forall_mem_cons.mpr ⟨ml_8_183, List.forall_mem_cons.mpr ⟨ml_8_187, List.forall_mem_cons.mpr ⟨ml_8_191, List.forall_mem_cons.mpr ⟨ml_8_195, List.forall_mem_cons.mpr ⟨ml_8_198, List.forall_mem_cons.mpr ⟨ml_8_201, List.forall_mem_cons.mpr ⟨ml_8_204, List.forall_mem_cons.mpr ⟨ml_8_207, List.forall_mem_cons.mpr ⟨ml_8_210, List.forall_mem_cons.mpr ⟨ml_8_213, List.forall_mem_cons.mpr ⟨ml_8_216, List.forall_mem_cons.mpr ⟨ml_8_219, List.forall_mem_cons.mpr ⟨ml_8_222, List.forall_mem_cons.mpr ⟨ml_8_235, List.forall_mem_cons.mpr ⟨ml_8_249, List.forall_mem_cons.mpr ⟨ml_8_253, List.forall_mem_cons.mpr ⟨ml_8_256, List.forall_mem_cons.mpr ⟨ml_8_260, List.forall_mem_cons.mpr ⟨ml_8_266, List.forall_mem_cons.mpr ⟨ml_8_269, List.forall_mem_cons.mpr ⟨ml_8_272, List.forall_mem_cons.mpr ⟨ml_8_275, List.forall_mem_cons.mpr ⟨ml_8_278, List.forall_mem_cons.mpr ⟨ml_8_281, List.forall_mem_cons.mpr ⟨ml_8_284, List.forall_mem_cons.mpr ⟨ml_8_287, List.forall_mem_cons.mpr ⟨ml_8_290, List.forall_mem_cons.mpr ⟨ml_8_293, List.forall_mem_cons.mpr ⟨ml_8_296, List.forall_mem_cons.mpr ⟨ml_8_299, List.forall_mem_cons.mpr ⟨ml_8_304, List.forall_mem_cons.mpr ⟨ml_8_310, List.forall_mem_cons.mpr ⟨ml_8_313, List.forall_mem_cons.mpr ⟨ml_8_316, List.forall_mem_cons.mpr ⟨ml_8_319, fun _ h => absurd h List.not_mem_nil⟩⟩⟩⟩⟩⟩⟩⟩⟩⟩⟩⟩⟩⟩⟩⟩⟩⟩⟩⟩⟩⟩⟩⟩⟩⟩⟩⟩⟩⟩⟩⟩⟩⟩⟩⟩⟩⟩⟩⟩⟩⟩⟩⟩⟩⟩⟩⟩⟩⟩⟩⟩⟩
def mt_9 : List (Nat × Nat × Nat × Nat) := [(335, 0, 205, 0), (492, 0, 206, 0), (495, 1, 208, 2), (1059, 1, 209, 3)]
theorem ml_9_335 : ma_lP 9 (335, 0, 205, 0) := ⟨by decide, wi_2 _ (List.mem_of_getElem? (i := 219) rfl) rfl, wi_2 _ (List.mem_of_getElem? (i := 220) rfl) rfl, wi_2 _ (List.mem_of_getElem? (i := 221) rfl) rfl, by decide +kernel⟩
theorem ml_9_492 : ma_lP 9 (492, 0, 206, 0) := ⟨by decide, wi_2 _ (List.mem_of_getElem? (i := 233) rfl) rfl, wi_2 _ (List.mem_of_getElem? (i := 234) rfl) rfl, wi_2 _ (List.mem_of_getElem? (i := 235) rfl) rfl, by decide +kernel⟩
theorem ml_9_495 : ma_lP 9 (495, 1, 208, 2) := ⟨by decide, Or.inl (wi_2 _ (List.mem_of_getElem? (i := 237) rfl) rfl), wi_2 _ (List.mem_of_getElem? (i := 238) rfl) rfl, by decide +kernel⟩
theorem ml_9_1059 : ma_lP 9 (1059, 1, 209, 3) := ⟨by decide, Or.inl (wi_3 _ (List.mem_of_getElem? (i := 5) rfl) rfl), wi_3 _ (List.mem_of_getElem? (i := 6) rfl) rfl, by decide +kernel⟩
theorem mtP_9 : ∀ q ∈ mt_9, ma_lP 9 q := List.forall_mem_cons.mpr ⟨ml_9_335, List.forall_mem_cons.mpr ⟨ml_9_492, List.forall_mem_cons.mpr ⟨ml_9_495, List.forall_mem_cons.mpr ⟨ml_9_1059, fun _ h => absurd h List.not_mem_nil⟩⟩⟩⟩
def mt_10 : List (Nat × Nat × Nat × Nat) := [(9, 1, 207, 2)]
theorem ml_10_9 : ma_lP 10 (9, 1, 207, 2) := ⟨by decide, Or.inl (wi_3 _ (List.mem_of_getElem? (i := 0) rfl) rfl), wi_3 _ (List.mem_of_getElem? (i := 1) rfl) rfl, by decide +kernel⟩
theorem mtP_10 : ∀ q ∈ mt_10, ma_lP 10 q := List.forall_mem_cons.mpr ⟨ml_10_9, fun _ h => absurd h List.not_mem_nil⟩
theorem ma_mt_ok {c i : Nat} {x : Nat × Nat × Nat} (h : ma_mt c i = some x) : ma_lP c (i, x) := by
  unfold ma_mt at h
  split at h
  · exact mtP_0 _ (ma_lu_mem mt_0 _ _ h)
  · exact mtP_1 _ (ma_lu_mem mt_1 _ _ h)
  · exact mtP_2 _ (ma_lu_mem mt_2 _ _ h)
  · exact mtP_3 _ (ma_lu_mem mt_3 _ _ h)
  · exact mtP_4 _ (ma_lu_mem mt_4 _ _ h)
  · exact mtP_5 _ (ma_lu_mem mt_5 _ _ h)
  · exact mtP_7 _ (ma_lu_mem mt_7 _ _ h)
  · exact mtP_8 _ (ma_lu_mem mt_8 _ _ h)
  · exact mtP_9 _ (ma_lu_mem mt_9 _ _ h)
  · exact mtP_10 _ (ma_lu_mem mt_10 _ _ h)
  · cases h
def ma_wn (w : Nat) : String := ["rider", "top", "foot", "sledges", "minutes", "pennies", "hill", "move"].getD w ""
def ma_wi (w : Nat) : Nat := [112, 114, 115, 116, 118, 119, 120, 121].getD w 0
/-- what a constant says -/
def ma_cP (c : Nat) (q : Nat × ma_V) : Prop := match q.2 with
  | .inl v => Cond.constant (ma_cn c) q.1 v ∈ ma_tb
  | .inr (.inl _) => False
  | .inr (.inr (g, i, j)) => g = 41 ∧ i < 8 ∧ j = 0 ∧ ma_cn c = "OneSledgeForTwo$Reader" ∧ q.1 = ma_wi i
theorem cp_0_82 : ma_cP 0 (82, vI (1103515245)) := wi_4 _ (List.mem_of_getElem? (i := 41) rfl) rfl
def lc_0 : List (Nat × ma_V) := [(82, vI (1103515245))]
theorem lcP_0 : ∀ q ∈ lc_0, ma_cP 0 q := List.forall_mem_cons.mpr ⟨cp_0_82, fun _ h => absurd h List.not_mem_nil⟩
theorem cp_2_112 : ma_cP 2 (112, vR 41 0 0) := ⟨rfl, by decide, rfl, rfl, rfl⟩
theorem cp_2_114 : ma_cP 2 (114, vR 41 1 0) := ⟨rfl, by decide, rfl, rfl, rfl⟩
theorem cp_2_115 : ma_cP 2 (115, vR 41 2 0) := ⟨rfl, by decide, rfl, rfl, rfl⟩
theorem cp_2_116 : ma_cP 2 (116, vR 41 3 0) := ⟨rfl, by decide, rfl, rfl, rfl⟩
theorem cp_2_118 : ma_cP 2 (118, vR 41 4 0) := ⟨rfl, by decide, rfl, rfl, rfl⟩
theorem cp_2_119 : ma_cP 2 (119, vR 41 5 0) := ⟨rfl, by decide, rfl, rfl, rfl⟩
theorem cp_2_120 : ma_cP 2 (120, vR 41 6 0) := ⟨rfl, by decide, rfl, rfl, rfl⟩
theorem cp_2_121 : ma_cP 2 (121, vR 41 7 0) := ⟨rfl, by decide, rfl, rfl, rfl⟩
def lc_2 : List (Nat × ma_V) := [(112, vR 41 0 0), (114, vR 41 1 0), (115, vR 41 2 0), (116, vR 41 3 0), (118, vR 41 4 0), (119, vR 41 5 0), (120, vR 41 6 0), (121, vR 41 7 0)]
theorem lcP_2 : ∀ q ∈ lc_2, ma_cP 2 q := List.forall_mem_cons.mpr ⟨cp_2_112, List.forall_mem_cons.mpr ⟨cp_2_114, List.forall_mem_cons.mpr ⟨cp_2_115, List.forall_mem_cons.mpr ⟨cp_2_116, List.forall_mem_cons.mpr ⟨cp_2_118, List.forall_mem_cons.mpr ⟨cp_2_119, List.forall_mem_cons.mpr ⟨cp_2_120, List.forall_mem_cons.mpr ⟨cp_2_121, fun _ h => absurd h List.not_mem_nil⟩⟩⟩⟩⟩⟩⟩⟩
theorem cp_8_303 : ma_cP 8 (303, vI (1103515245)) := wi_6 _ (List.mem_of_getElem? (i := 83) rfl) rfl
def lc_8 : List (Nat × ma_V) := [(303, vI (1103515245))]
theorem lcP_8 : ∀ q ∈ lc_8, ma_cP 8 q := List.forall_mem_cons.mpr ⟨cp_8_303, fun _ h => absurd h List.not_mem_nil⟩
theorem ma_lc_ok {c i : Nat} {x : ma_V} (h : ma_lc c i = some x) : ma_cP c (i, x) := by
  unfold ma_lc at h
  split at h
  · exact lcP_0 _ (ma_lu_mem lc_0 _ _ h)
  · exact lcP_2 _ (ma_lu_mem lc_2 _ _ h)
  · exact lcP_8 _ (ma_lu_mem lc_8 _ _ h)
  · cases h
def ma_sn (i : Nat) : String := ["ABOVE", "RIDES_BODIES", "PULLS_BODIES", "WAITS_BODIES"].getD i ""
/-- what a static field link says -/
def ma_sP (c : Nat) (q : Nat × ma_V) : Prop := match q.2 with
  | .inl v => v = 1 ∧ Cond.fieldLink (ma_cn c) q.1 "java/lang/String" "COMPACT_STRINGS" "Z" ∈ ma_tb
  | .inr (.inl _) => False
  | .inr (.inr (g, i, j)) => (g = 40 ∧ i < 4 ∧ j = 0 ∧ (Cond.fieldLink (ma_cn c) q.1 "OneSledgeForTwo" (ma_sn i) "[I" ∈ ma_tb ∨ (c = 3 ∧ q.1 = 40 ∧ i = 0))) ∨ (g = 43 ∧ i = 0 ∧ j = 0 ∧ Cond.fieldLink (ma_cn c) q.1 "jdk/internal/util/Preconditions" "SIOOBE_FORMATTER" "Ljava/util/function/BiFunction;" ∈ ma_tb)
theorem sp_3_40 : ma_sP 3 (40, vR 40 0 0) := Or.inl ⟨rfl, by decide, rfl, Or.inr ⟨rfl, rfl, rfl⟩⟩
def gs_3 : List (Nat × ma_V) := [(40, vR 40 0 0)]
theorem gsP_3 : ∀ q ∈ gs_3, ma_sP 3 q := List.forall_mem_cons.mpr ⟨sp_3_40, fun _ h => absurd h List.not_mem_nil⟩
theorem sp_7_316 : ma_sP 7 (316, vR 40 1 0) := Or.inl ⟨rfl, by decide, rfl, Or.inl (wi_4 _ (List.mem_of_getElem? (i := 66) rfl) rfl)⟩
theorem sp_7_319 : ma_sP 7 (319, vR 40 2 0) := Or.inl ⟨rfl, by decide, rfl, Or.inl (wi_4 _ (List.mem_of_getElem? (i := 68) rfl) rfl)⟩
theorem sp_7_322 : ma_sP 7 (322, vR 40 3 0) := Or.inl ⟨rfl, by decide, rfl, Or.inl (wi_4 _ (List.mem_of_getElem? (i := 70) rfl) rfl)⟩
theorem sp_7_331 : ma_sP 7 (331, vR 40 0 0) := Or.inl ⟨rfl, by decide, rfl, Or.inl (wi_4 _ (List.mem_of_getElem? (i := 76) rfl) rfl)⟩
def gs_7 : List (Nat × ma_V) := [(316, vR 40 1 0), (319, vR 40 2 0), (322, vR 40 3 0), (331, vR 40 0 0)]
theorem gsP_7 : ∀ q ∈ gs_7, ma_sP 7 q := List.forall_mem_cons.mpr ⟨sp_7_316, List.forall_mem_cons.mpr ⟨sp_7_319, List.forall_mem_cons.mpr ⟨sp_7_322, List.forall_mem_cons.mpr ⟨sp_7_331, fun _ h => absurd h List.not_mem_nil⟩⟩⟩⟩
theorem sp_9_38 : ma_sP 9 (38, vI 1) := ⟨rfl, wi_2 _ (List.mem_of_getElem? (i := 223) rfl) rfl⟩
theorem sp_9_1053 : ma_sP 9 (1053, vR 43 0 0) := Or.inr ⟨rfl, rfl, rfl, wi_3 _ (List.mem_of_getElem? (i := 3) rfl) rfl⟩
def gs_9 : List (Nat × ma_V) := [(38, vI 1), (1053, vR 43 0 0)]
theorem gsP_9 : ∀ q ∈ gs_9, ma_sP 9 q := List.forall_mem_cons.mpr ⟨sp_9_38, List.forall_mem_cons.mpr ⟨sp_9_1053, fun _ h => absurd h List.not_mem_nil⟩⟩
theorem ma_gs_ok {c i : Nat} {x : ma_V} (h : ma_gs c i = some x) : ma_sP c (i, x) := by
  unfold ma_gs at h
  split at h
  · exact gsP_3 _ (ma_lu_mem gs_3 _ _ h)
  · exact gsP_7 _ (ma_lu_mem gs_7 _ _ h)
  · exact gsP_9 _ (ma_lu_mem gs_9 _ _ h)
  · cases h
theorem ma_wMax : Cond.static Lib.Math.max.name ∈ ma_tb := wi_3 _ (List.mem_of_getElem? (i := 28) rfl) rfl
theorem ma_wMin : Cond.static Lib.Math.min.name ∈ ma_tb := wi_3 _ (List.mem_of_getElem? (i := 70) rfl) rfl
theorem ma_wMath : Cond.initialized "java/lang/Math" ∈ ma_tb := wi_1 _ (List.mem_of_getElem? (i := 15) rfl) rfl
theorem ma_cMax : Cond.code Lib.Math.max.name Lib.Math.max.code 2 (some .int) ∈ ma_tb := wi_3 _ (List.mem_of_getElem? (i := 29) rfl) rfl
theorem ma_cMin : Cond.code Lib.Math.min.name Lib.Math.min.code 2 (some .int) ∈ ma_tb := wi_3 _ (List.mem_of_getElem? (i := 71) rfl) rfl
theorem ma_wCpN : Cond.native arraycopyName ∈ ma_tb := wi_2 _ (List.mem_of_getElem? (i := 85) rfl) rfl
theorem ma_wCpS : Cond.static arraycopyName ∈ ma_tb := wi_2 _ (List.mem_of_getElem? (i := 84) rfl) rfl
theorem ma_wSys : Cond.initialized "java/lang/System" ∈ ma_tb := wi_1 _ (List.mem_of_getElem? (i := 10) rfl) rfl
theorem ma_good : ∀ w ∈ ma_tb, (w.onTables && w.keeps) = true ∨ ∃ ty, w = .arrayClass ty := fun w h => good_of_word (ma_tb_of h).2
