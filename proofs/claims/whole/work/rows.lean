section
-- ===== PART A: goes FIRST, ahead of the names: the tables' words, and 'selects' of the private methods out of them =====
/-- a private method of a class that the tables say can be made, by its rows of tables_1 -/
def lw_okq (q : MethodName × Nat) : Prop := (q.1.cls ≠ "java/lang/invoke/MethodHandle" ∧ q.1.cls ≠ "java/lang/invoke/VarHandle") ∧ Cond.instantiable q.1.cls q.2 ∈ tables_1 ∧ Cond.privateMethod q.1 ∈ tables_1 ∧ Cond.instanceMethod q.1 ∈ tables_1
theorem lw_p0 : lw_okq (⟨"PotAndFine$Text", "wasFound", "(I)Z"⟩, 5) := ⟨⟨by decide +kernel, by decide +kernel⟩, List.mem_of_getElem? (i := 27) (by decide +kernel), List.mem_of_getElem? (i := 370) (by decide +kernel), List.mem_of_getElem? (i := 371) (by decide +kernel)⟩
theorem lw_p1 : lw_okq (⟨"PotAndFine$Text", "scanNumber", "(LPotAndFine$Grammar;III)I"⟩, 5) := ⟨⟨by decide +kernel, by decide +kernel⟩, List.mem_of_getElem? (i := 27) (by decide +kernel), List.mem_of_getElem? (i := 374) (by decide +kernel), List.mem_of_getElem? (i := 375) (by decide +kernel)⟩
theorem lw_p2 : lw_okq (⟨"PotAndFine", "isPerson", "(I)Z"⟩, 10) := ⟨⟨by decide +kernel, by decide +kernel⟩, List.mem_of_getElem? (i := 19) (by decide +kernel), List.mem_of_getElem? (i := 409) (by decide +kernel), List.mem_of_getElem? (i := 410) (by decide +kernel)⟩
theorem lw_p3 : lw_okq (⟨"PotAndFine", "ran", "()LPotAndFine$Course;"⟩, 10) := ⟨⟨by decide +kernel, by decide +kernel⟩, List.mem_of_getElem? (i := 19) (by decide +kernel), List.mem_of_getElem? (i := 450) (by decide +kernel), List.mem_of_getElem? (i := 451) (by decide +kernel)⟩
theorem lw_p4 : lw_okq (⟨"PotAndFine$Course", "putAll", "(I)V"⟩, 10) := ⟨⟨by decide +kernel, by decide +kernel⟩, List.mem_of_getElem? (i := 156) (by decide +kernel), List.mem_of_getElem? (i := 458) (by decide +kernel), List.mem_of_getElem? (i := 459) (by decide +kernel)⟩
theorem lw_p5 : lw_okq (⟨"PotAndFine$Course", "usualPut", "(II)I"⟩, 10) := ⟨⟨by decide +kernel, by decide +kernel⟩, List.mem_of_getElem? (i := 156) (by decide +kernel), List.mem_of_getElem? (i := 464) (by decide +kernel), List.mem_of_getElem? (i := 465) (by decide +kernel)⟩
theorem lw_p6 : lw_okq (⟨"PotAndFine$Course", "meanOfOthersBefore", "(II)I"⟩, 10) := ⟨⟨by decide +kernel, by decide +kernel⟩, List.mem_of_getElem? (i := 156) (by decide +kernel), List.mem_of_getElem? (i := 468) (by decide +kernel), List.mem_of_getElem? (i := 469) (by decide +kernel)⟩
theorem lw_p7 : lw_okq (⟨"PotAndFine$Course", "paidToFine", "(II)I"⟩, 10) := ⟨⟨by decide +kernel, by decide +kernel⟩, List.mem_of_getElem? (i := 156) (by decide +kernel), List.mem_of_getElem? (i := 475) (by decide +kernel), List.mem_of_getElem? (i := 476) (by decide +kernel)⟩
theorem lw_p8 : lw_okq (⟨"PotAndFine$Course", "lookAt", "(III)V"⟩, 10) := ⟨⟨by decide +kernel, by decide +kernel⟩, List.mem_of_getElem? (i := 156) (by decide +kernel), List.mem_of_getElem? (i := 484) (by decide +kernel), List.mem_of_getElem? (i := 485) (by decide +kernel)⟩
theorem lw_p9 : lw_okq (⟨"PotAndFine$Course", "payAll", "(I)V"⟩, 10) := ⟨⟨by decide +kernel, by decide +kernel⟩, List.mem_of_getElem? (i := 156) (by decide +kernel), List.mem_of_getElem? (i := 488) (by decide +kernel), List.mem_of_getElem? (i := 489) (by decide +kernel)⟩
theorem lw_p10 : lw_okq (⟨"PotAndFine$Course", "dueFrom", "(III)I"⟩, 10) := ⟨⟨by decide +kernel, by decide +kernel⟩, List.mem_of_getElem? (i := 156) (by decide +kernel), List.mem_of_getElem? (i := 492) (by decide +kernel), List.mem_of_getElem? (i := 493) (by decide +kernel)⟩
theorem lw_p11 : lw_okq (⟨"PotAndFine$Course", "byAnger", "(II)I"⟩, 10) := ⟨⟨by decide +kernel, by decide +kernel⟩, List.mem_of_getElem? (i := 156) (by decide +kernel), List.mem_of_getElem? (i := 496) (by decide +kernel), List.mem_of_getElem? (i := 497) (by decide +kernel)⟩
theorem lw_p12 : lw_okq (⟨"PotAndFine$Course", "greatestBeside", "(I)I"⟩, 10) := ⟨⟨by decide +kernel, by decide +kernel⟩, List.mem_of_getElem? (i := 156) (by decide +kernel), List.mem_of_getElem? (i := 500) (by decide +kernel), List.mem_of_getElem? (i := 501) (by decide +kernel)⟩
theorem lw_p13 : lw_okq (⟨"PotAndFine$Course", "settleAll", "(I)V"⟩, 10) := ⟨⟨by decide +kernel, by decide +kernel⟩, List.mem_of_getElem? (i := 156) (by decide +kernel), List.mem_of_getElem? (i := 504) (by decide +kernel), List.mem_of_getElem? (i := 505) (by decide +kernel)⟩
theorem lw_p14 : lw_okq (⟨"PotAndFine$Course", "paidBy", "(II)I"⟩, 10) := ⟨⟨by decide +kernel, by decide +kernel⟩, List.mem_of_getElem? (i := 156) (by decide +kernel), List.mem_of_getElem? (i := 508) (by decide +kernel), List.mem_of_getElem? (i := 509) (by decide +kernel)⟩
theorem lw_p15 : lw_okq (⟨"PotAndFine$Course", "lossBetween", "(II)I"⟩, 10) := ⟨⟨by decide +kernel, by decide +kernel⟩, List.mem_of_getElem? (i := 156) (by decide +kernel), List.mem_of_getElem? (i := 512) (by decide +kernel), List.mem_of_getElem? (i := 513) (by decide +kernel)⟩
def lw_privs_1 : List (MethodName × Nat) := [(⟨"PotAndFine$Text", "wasFound", "(I)Z"⟩, 5), (⟨"PotAndFine$Text", "scanNumber", "(LPotAndFine$Grammar;III)I"⟩, 5), (⟨"PotAndFine", "isPerson", "(I)Z"⟩, 10), (⟨"PotAndFine", "ran", "()LPotAndFine$Course;"⟩, 10), (⟨"PotAndFine$Course", "putAll", "(I)V"⟩, 10), (⟨"PotAndFine$Course", "usualPut", "(II)I"⟩, 10), (⟨"PotAndFine$Course", "meanOfOthersBefore", "(II)I"⟩, 10), (⟨"PotAndFine$Course", "paidToFine", "(II)I"⟩, 10), (⟨"PotAndFine$Course", "lookAt", "(III)V"⟩, 10), (⟨"PotAndFine$Course", "payAll", "(I)V"⟩, 10), (⟨"PotAndFine$Course", "dueFrom", "(III)I"⟩, 10), (⟨"PotAndFine$Course", "byAnger", "(II)I"⟩, 10), (⟨"PotAndFine$Course", "greatestBeside", "(I)I"⟩, 10), (⟨"PotAndFine$Course", "settleAll", "(I)V"⟩, 10), (⟨"PotAndFine$Course", "paidBy", "(II)I"⟩, 10), (⟨"PotAndFine$Course", "lossBetween", "(II)I"⟩, 10)]
theorem lw_r1 : ∀ q ∈ lw_privs_1, lw_okq q := List.forall_mem_cons.mpr ⟨lw_p0, List.forall_mem_cons.mpr ⟨lw_p1, List.forall_mem_cons.mpr ⟨lw_p2, List.forall_mem_cons.mpr ⟨lw_p3, List.forall_mem_cons.mpr ⟨lw_p4, List.forall_mem_cons.mpr ⟨lw_p5, List.forall_mem_cons.mpr ⟨lw_p6, List.forall_mem_cons.mpr ⟨lw_p7, List.forall_mem_cons.mpr ⟨lw_p8, List.forall_mem_cons.mpr ⟨lw_p9, List.forall_mem_cons.mpr ⟨lw_p10, List.forall_mem_cons.mpr ⟨lw_p11, List.forall_mem_cons.mpr ⟨lw_p12, List.forall_mem_cons.mpr ⟨lw_p13, List.forall_mem_cons.mpr ⟨lw_p14, List.forall_mem_cons.mpr ⟨lw_p15, fun _ h => absurd h List.not_mem_nil⟩⟩⟩⟩⟩⟩⟩⟩⟩⟩⟩⟩⟩⟩⟩⟩
theorem lw_p16 : lw_okq (⟨"PotAndFine$Course", "gotFromPot", "(I)J"⟩, 10) := ⟨⟨by decide +kernel, by decide +kernel⟩, List.mem_of_getElem? (i := 156) (by decide +kernel), List.mem_of_getElem? (i := 516) (by decide +kernel), List.mem_of_getElem? (i := 517) (by decide +kernel)⟩
theorem lw_p17 : lw_okq (⟨"PotAndFine", "ranWithFine", "(I)LPotAndFine$Course;"⟩, 10) := ⟨⟨by decide +kernel, by decide +kernel⟩, List.mem_of_getElem? (i := 19) (by decide +kernel), List.mem_of_getElem? (i := 545) (by decide +kernel), List.mem_of_getElem? (i := 546) (by decide +kernel)⟩
theorem lw_p18 : lw_okq (⟨"PotAndFine", "heldIfLedBy", "(I)J"⟩, 10) := ⟨⟨by decide +kernel, by decide +kernel⟩, List.mem_of_getElem? (i := 19) (by decide +kernel), List.mem_of_getElem? (i := 581) (by decide +kernel), List.mem_of_getElem? (i := 582) (by decide +kernel)⟩
theorem lw_p19 : lw_okq (⟨"PotAndFine", "heldIfOut", "(I)J"⟩, 10) := ⟨⟨by decide +kernel, by decide +kernel⟩, List.mem_of_getElem? (i := 19) (by decide +kernel), List.mem_of_getElem? (i := 596) (by decide +kernel), List.mem_of_getElem? (i := 597) (by decide +kernel)⟩
theorem lw_p20 : lw_okq (⟨"PotAndFine", "canBeHalved", "()Z"⟩, 10) := ⟨⟨by decide +kernel, by decide +kernel⟩, List.mem_of_getElem? (i := 19) (by decide +kernel), List.mem_of_getElem? (i := 609) (by decide +kernel), List.mem_of_getElem? (i := 610) (by decide +kernel)⟩
theorem lw_p21 : lw_okq (⟨"PotAndFine", "isHalf", "(I)Z"⟩, 10) := ⟨⟨by decide +kernel, by decide +kernel⟩, List.mem_of_getElem? (i := 19) (by decide +kernel), List.mem_of_getElem? (i := 613) (by decide +kernel), List.mem_of_getElem? (i := 614) (by decide +kernel)⟩
theorem lw_p22 : lw_okq (⟨"PotAndFine", "heldByHalves", "(I)J"⟩, 10) := ⟨⟨by decide +kernel, by decide +kernel⟩, List.mem_of_getElem? (i := 19) (by decide +kernel), List.mem_of_getElem? (i := 623) (by decide +kernel), List.mem_of_getElem? (i := 624) (by decide +kernel)⟩
theorem lw_p23 : lw_okq (⟨"PotAndFine$Book", "meanOfOthers", "(II)I"⟩, 1) := ⟨⟨by decide +kernel, by decide +kernel⟩, List.mem_of_getElem? (i := 199) (by decide +kernel), List.mem_of_getElem? (i := 689) (by decide +kernel), List.mem_of_getElem? (i := 690) (by decide +kernel)⟩
theorem lw_p24 : lw_okq (⟨"PotAndFineModel", "clear", "()V"⟩, 31) := ⟨⟨by decide +kernel, by decide +kernel⟩, List.mem_of_getElem? (i := 757) (by decide +kernel), List.mem_of_getElem? (i := 763) (by decide +kernel), List.mem_of_getElem? (i := 764) (by decide +kernel)⟩
theorem lw_p25 : lw_okq (⟨"PotAndFineModel", "readGroup", "()I"⟩, 31) := ⟨⟨by decide +kernel, by decide +kernel⟩, List.mem_of_getElem? (i := 757) (by decide +kernel), List.mem_of_getElem? (i := 878) (by decide +kernel), List.mem_of_getElem? (i := 879) (by decide +kernel)⟩
theorem lw_p26 : lw_okq (⟨"PotAndFineModel", "two", "(II)I"⟩, 31) := ⟨⟨by decide +kernel, by decide +kernel⟩, List.mem_of_getElem? (i := 757) (by decide +kernel), List.mem_of_getElem? (i := 885) (by decide +kernel), List.mem_of_getElem? (i := 886) (by decide +kernel)⟩
theorem lw_p27 : lw_okq (⟨"PotAndFineModel", "figure", "(II)I"⟩, 31) := ⟨⟨by decide +kernel, by decide +kernel⟩, List.mem_of_getElem? (i := 757) (by decide +kernel), List.mem_of_getElem? (i := 889) (by decide +kernel), List.mem_of_getElem? (i := 890) (by decide +kernel)⟩
theorem lw_p28 : lw_okq (⟨"PotAndFineModel", "readRule", "()I"⟩, 31) := ⟨⟨by decide +kernel, by decide +kernel⟩, List.mem_of_getElem? (i := 757) (by decide +kernel), List.mem_of_getElem? (i := 895) (by decide +kernel), List.mem_of_getElem? (i := 896) (by decide +kernel)⟩
theorem lw_p29 : lw_okq (⟨"PotAndFineModel", "noPerson", "(I)Z"⟩, 31) := ⟨⟨by decide +kernel, by decide +kernel⟩, List.mem_of_getElem? (i := 757) (by decide +kernel), List.mem_of_getElem? (i := 915) (by decide +kernel), List.mem_of_getElem? (i := 916) (by decide +kernel)⟩
theorem lw_p30 : lw_okq (⟨"PotAndFineModel", "staying", "()I"⟩, 31) := ⟨⟨by decide +kernel, by decide +kernel⟩, List.mem_of_getElem? (i := 757) (by decide +kernel), List.mem_of_getElem? (i := 933) (by decide +kernel), List.mem_of_getElem? (i := 934) (by decide +kernel)⟩
theorem lw_p31 : lw_okq (⟨"PotAndFineModel", "runAll", "()V"⟩, 31) := ⟨⟨by decide +kernel, by decide +kernel⟩, List.mem_of_getElem? (i := 757) (by decide +kernel), List.mem_of_getElem? (i := 946) (by decide +kernel), List.mem_of_getElem? (i := 947) (by decide +kernel)⟩
def lw_privs_2 : List (MethodName × Nat) := [(⟨"PotAndFine$Course", "gotFromPot", "(I)J"⟩, 10), (⟨"PotAndFine", "ranWithFine", "(I)LPotAndFine$Course;"⟩, 10), (⟨"PotAndFine", "heldIfLedBy", "(I)J"⟩, 10), (⟨"PotAndFine", "heldIfOut", "(I)J"⟩, 10), (⟨"PotAndFine", "canBeHalved", "()Z"⟩, 10), (⟨"PotAndFine", "isHalf", "(I)Z"⟩, 10), (⟨"PotAndFine", "heldByHalves", "(I)J"⟩, 10), (⟨"PotAndFine$Book", "meanOfOthers", "(II)I"⟩, 1), (⟨"PotAndFineModel", "clear", "()V"⟩, 31), (⟨"PotAndFineModel", "readGroup", "()I"⟩, 31), (⟨"PotAndFineModel", "two", "(II)I"⟩, 31), (⟨"PotAndFineModel", "figure", "(II)I"⟩, 31), (⟨"PotAndFineModel", "readRule", "()I"⟩, 31), (⟨"PotAndFineModel", "noPerson", "(I)Z"⟩, 31), (⟨"PotAndFineModel", "staying", "()I"⟩, 31), (⟨"PotAndFineModel", "runAll", "()V"⟩, 31)]
theorem lw_r2 : ∀ q ∈ lw_privs_2, lw_okq q := List.forall_mem_cons.mpr ⟨lw_p16, List.forall_mem_cons.mpr ⟨lw_p17, List.forall_mem_cons.mpr ⟨lw_p18, List.forall_mem_cons.mpr ⟨lw_p19, List.forall_mem_cons.mpr ⟨lw_p20, List.forall_mem_cons.mpr ⟨lw_p21, List.forall_mem_cons.mpr ⟨lw_p22, List.forall_mem_cons.mpr ⟨lw_p23, List.forall_mem_cons.mpr ⟨lw_p24, List.forall_mem_cons.mpr ⟨lw_p25, List.forall_mem_cons.mpr ⟨lw_p26, List.forall_mem_cons.mpr ⟨lw_p27, List.forall_mem_cons.mpr ⟨lw_p28, List.forall_mem_cons.mpr ⟨lw_p29, List.forall_mem_cons.mpr ⟨lw_p30, List.forall_mem_cons.mpr ⟨lw_p31, fun _ h => absurd h List.not_mem_nil⟩⟩⟩⟩⟩⟩⟩⟩⟩⟩⟩⟩⟩⟩⟩⟩
theorem lw_p32 : lw_okq (⟨"PotAndFineModel", "run", "()V"⟩, 31) := ⟨⟨by decide +kernel, by decide +kernel⟩, List.mem_of_getElem? (i := 757) (by decide +kernel), List.mem_of_getElem? (i := 950) (by decide +kernel), List.mem_of_getElem? (i := 951) (by decide +kernel)⟩
theorem lw_p33 : lw_okq (⟨"PotAndFineModel", "isIn", "(II)Z"⟩, 31) := ⟨⟨by decide +kernel, by decide +kernel⟩, List.mem_of_getElem? (i := 757) (by decide +kernel), List.mem_of_getElem? (i := 954) (by decide +kernel), List.mem_of_getElem? (i := 955) (by decide +kernel)⟩
theorem lw_p34 : lw_okq (⟨"PotAndFineModel", "putOf", "(II)I"⟩, 31) := ⟨⟨by decide +kernel, by decide +kernel⟩, List.mem_of_getElem? (i := 757) (by decide +kernel), List.mem_of_getElem? (i := 958) (by decide +kernel), List.mem_of_getElem? (i := 959) (by decide +kernel)⟩
theorem lw_p35 : lw_okq (⟨"PotAndFineModel", "bound", "(I)I"⟩, 31) := ⟨⟨by decide +kernel, by decide +kernel⟩, List.mem_of_getElem? (i := 757) (by decide +kernel), List.mem_of_getElem? (i := 962) (by decide +kernel), List.mem_of_getElem? (i := 963) (by decide +kernel)⟩
theorem lw_p36 : lw_okq (⟨"PotAndFineModel", "meanOf", "(II)I"⟩, 31) := ⟨⟨by decide +kernel, by decide +kernel⟩, List.mem_of_getElem? (i := 757) (by decide +kernel), List.mem_of_getElem? (i := 966) (by decide +kernel), List.mem_of_getElem? (i := 967) (by decide +kernel)⟩
theorem lw_p37 : lw_okq (⟨"PotAndFineModel", "taken", "(II)I"⟩, 31) := ⟨⟨by decide +kernel, by decide +kernel⟩, List.mem_of_getElem? (i := 757) (by decide +kernel), List.mem_of_getElem? (i := 970) (by decide +kernel), List.mem_of_getElem? (i := 971) (by decide +kernel)⟩
theorem lw_p38 : lw_okq (⟨"PotAndFineModel", "layFines", "(I)V"⟩, 31) := ⟨⟨by decide +kernel, by decide +kernel⟩, List.mem_of_getElem? (i := 757) (by decide +kernel), List.mem_of_getElem? (i := 974) (by decide +kernel), List.mem_of_getElem? (i := 975) (by decide +kernel)⟩
theorem lw_p39 : lw_okq (⟨"PotAndFineModel", "layBy", "(III)V"⟩, 31) := ⟨⟨by decide +kernel, by decide +kernel⟩, List.mem_of_getElem? (i := 757) (by decide +kernel), List.mem_of_getElem? (i := 978) (by decide +kernel), List.mem_of_getElem? (i := 979) (by decide +kernel)⟩
theorem lw_p40 : lw_okq (⟨"PotAndFineModel", "gets", "(II)J"⟩, 31) := ⟨⟨by decide +kernel, by decide +kernel⟩, List.mem_of_getElem? (i := 757) (by decide +kernel), List.mem_of_getElem? (i := 985) (by decide +kernel), List.mem_of_getElem? (i := 986) (by decide +kernel)⟩
theorem lw_p41 : lw_okq (⟨"PotAndFineModel", "inMany", "(I)I"⟩, 31) := ⟨⟨by decide +kernel, by decide +kernel⟩, List.mem_of_getElem? (i := 757) (by decide +kernel), List.mem_of_getElem? (i := 990) (by decide +kernel), List.mem_of_getElem? (i := 991) (by decide +kernel)⟩
theorem lw_p42 : lw_okq (⟨"PotAndFineModel", "potOf", "(I)I"⟩, 31) := ⟨⟨by decide +kernel, by decide +kernel⟩, List.mem_of_getElem? (i := 757) (by decide +kernel), List.mem_of_getElem? (i := 1003) (by decide +kernel), List.mem_of_getElem? (i := 1004) (by decide +kernel)⟩
theorem lw_p43 : lw_okq (⟨"PotAndFineModel", "runBoth", "()V"⟩, 31) := ⟨⟨by decide +kernel, by decide +kernel⟩, List.mem_of_getElem? (i := 757) (by decide +kernel), List.mem_of_getElem? (i := 1021) (by decide +kernel), List.mem_of_getElem? (i := 1022) (by decide +kernel)⟩
theorem lw_p44 : lw_okq (⟨"PotAndFineModel", "otherAt", "(I)J"⟩, 31) := ⟨⟨by decide +kernel, by decide +kernel⟩, List.mem_of_getElem? (i := 757) (by decide +kernel), List.mem_of_getElem? (i := 1025) (by decide +kernel), List.mem_of_getElem? (i := 1026) (by decide +kernel)⟩
theorem lw_p45 : lw_okq (⟨"PotAndFineModel", "sumAt", "(I)J"⟩, 31) := ⟨⟨by decide +kernel, by decide +kernel⟩, List.mem_of_getElem? (i := 757) (by decide +kernel), List.mem_of_getElem? (i := 1029) (by decide +kernel), List.mem_of_getElem? (i := 1030) (by decide +kernel)⟩
theorem lw_p46 : lw_okq (⟨"PotAndFineModel", "findLeader", "()I"⟩, 31) := ⟨⟨by decide +kernel, by decide +kernel⟩, List.mem_of_getElem? (i := 757) (by decide +kernel), List.mem_of_getElem? (i := 1057) (by decide +kernel), List.mem_of_getElem? (i := 1058) (by decide +kernel)⟩
theorem lw_p47 : lw_okq (⟨"PotAndFineModel", "leadBy", "(I)J"⟩, 31) := ⟨⟨by decide +kernel, by decide +kernel⟩, List.mem_of_getElem? (i := 757) (by decide +kernel), List.mem_of_getElem? (i := 1061) (by decide +kernel), List.mem_of_getElem? (i := 1062) (by decide +kernel)⟩
def lw_privs_3 : List (MethodName × Nat) := [(⟨"PotAndFineModel", "run", "()V"⟩, 31), (⟨"PotAndFineModel", "isIn", "(II)Z"⟩, 31), (⟨"PotAndFineModel", "putOf", "(II)I"⟩, 31), (⟨"PotAndFineModel", "bound", "(I)I"⟩, 31), (⟨"PotAndFineModel", "meanOf", "(II)I"⟩, 31), (⟨"PotAndFineModel", "taken", "(II)I"⟩, 31), (⟨"PotAndFineModel", "layFines", "(I)V"⟩, 31), (⟨"PotAndFineModel", "layBy", "(III)V"⟩, 31), (⟨"PotAndFineModel", "gets", "(II)J"⟩, 31), (⟨"PotAndFineModel", "inMany", "(I)I"⟩, 31), (⟨"PotAndFineModel", "potOf", "(I)I"⟩, 31), (⟨"PotAndFineModel", "runBoth", "()V"⟩, 31), (⟨"PotAndFineModel", "otherAt", "(I)J"⟩, 31), (⟨"PotAndFineModel", "sumAt", "(I)J"⟩, 31), (⟨"PotAndFineModel", "findLeader", "()I"⟩, 31), (⟨"PotAndFineModel", "leadBy", "(I)J"⟩, 31)]
theorem lw_r3 : ∀ q ∈ lw_privs_3, lw_okq q := List.forall_mem_cons.mpr ⟨lw_p32, List.forall_mem_cons.mpr ⟨lw_p33, List.forall_mem_cons.mpr ⟨lw_p34, List.forall_mem_cons.mpr ⟨lw_p35, List.forall_mem_cons.mpr ⟨lw_p36, List.forall_mem_cons.mpr ⟨lw_p37, List.forall_mem_cons.mpr ⟨lw_p38, List.forall_mem_cons.mpr ⟨lw_p39, List.forall_mem_cons.mpr ⟨lw_p40, List.forall_mem_cons.mpr ⟨lw_p41, List.forall_mem_cons.mpr ⟨lw_p42, List.forall_mem_cons.mpr ⟨lw_p43, List.forall_mem_cons.mpr ⟨lw_p44, List.forall_mem_cons.mpr ⟨lw_p45, List.forall_mem_cons.mpr ⟨lw_p46, List.forall_mem_cons.mpr ⟨lw_p47, fun _ h => absurd h List.not_mem_nil⟩⟩⟩⟩⟩⟩⟩⟩⟩⟩⟩⟩⟩⟩⟩⟩
theorem lw_p48 : lw_okq (⟨"PotAndFineModel", "isFew", "(I)Z"⟩, 31) := ⟨⟨by decide +kernel, by decide +kernel⟩, List.mem_of_getElem? (i := 757) (by decide +kernel), List.mem_of_getElem? (i := 1073) (by decide +kernel), List.mem_of_getElem? (i := 1074) (by decide +kernel)⟩
theorem lw_p49 : lw_okq (⟨"PotAndFineModel", "withoutOne", "(I)J"⟩, 31) := ⟨⟨by decide +kernel, by decide +kernel⟩, List.mem_of_getElem? (i := 757) (by decide +kernel), List.mem_of_getElem? (i := 1077) (by decide +kernel), List.mem_of_getElem? (i := 1078) (by decide +kernel)⟩
theorem lw_p50 : lw_okq (⟨"PotAndFineModel", "noHalves", "()Z"⟩, 31) := ⟨⟨by decide +kernel, by decide +kernel⟩, List.mem_of_getElem? (i := 757) (by decide +kernel), List.mem_of_getElem? (i := 1090) (by decide +kernel), List.mem_of_getElem? (i := 1091) (by decide +kernel)⟩
theorem lw_p51 : lw_okq (⟨"PotAndFineModel", "findPart", "()I"⟩, 31) := ⟨⟨by decide +kernel, by decide +kernel⟩, List.mem_of_getElem? (i := 757) (by decide +kernel), List.mem_of_getElem? (i := 1094) (by decide +kernel), List.mem_of_getElem? (i := 1095) (by decide +kernel)⟩
theorem lw_p52 : lw_okq (⟨"PotAndFineModel", "partBy", "(I)J"⟩, 31) := ⟨⟨by decide +kernel, by decide +kernel⟩, List.mem_of_getElem? (i := 757) (by decide +kernel), List.mem_of_getElem? (i := 1101) (by decide +kernel), List.mem_of_getElem? (i := 1102) (by decide +kernel)⟩
theorem lw_p53 : lw_okq (⟨"PotAndFineModel", "halfBy", "(I)J"⟩, 31) := ⟨⟨by decide +kernel, by decide +kernel⟩, List.mem_of_getElem? (i := 757) (by decide +kernel), List.mem_of_getElem? (i := 1105) (by decide +kernel), List.mem_of_getElem? (i := 1106) (by decide +kernel)⟩
theorem lw_p54 : lw_okq (⟨"PotAndFineModel", "replyOf", "(II)I"⟩, 31) := ⟨⟨by decide +kernel, by decide +kernel⟩, List.mem_of_getElem? (i := 757) (by decide +kernel), List.mem_of_getElem? (i := 1117) (by decide +kernel), List.mem_of_getElem? (i := 1118) (by decide +kernel)⟩
theorem lw_p55 : lw_okq (⟨"PotAndFineModel", "gainBy", "(III)J"⟩, 31) := ⟨⟨by decide +kernel, by decide +kernel⟩, List.mem_of_getElem? (i := 757) (by decide +kernel), List.mem_of_getElem? (i := 1121) (by decide +kernel), List.mem_of_getElem? (i := 1122) (by decide +kernel)⟩
theorem lw_p56 : lw_okq (⟨"PotAndFineModel", "wouldBe", "(III)I"⟩, 31) := ⟨⟨by decide +kernel, by decide +kernel⟩, List.mem_of_getElem? (i := 757) (by decide +kernel), List.mem_of_getElem? (i := 1155) (by decide +kernel), List.mem_of_getElem? (i := 1156) (by decide +kernel)⟩
theorem lw_p57 : lw_okq (⟨"PotAndFineModel", "slipsOf", "(II)I"⟩, 31) := ⟨⟨by decide +kernel, by decide +kernel⟩, List.mem_of_getElem? (i := 757) (by decide +kernel), List.mem_of_getElem? (i := 1163) (by decide +kernel), List.mem_of_getElem? (i := 1164) (by decide +kernel)⟩
theorem lw_p58 : lw_okq (⟨"PotAndFineModel", "toldMany", "()I"⟩, 31) := ⟨⟨by decide +kernel, by decide +kernel⟩, List.mem_of_getElem? (i := 757) (by decide +kernel), List.mem_of_getElem? (i := 1183) (by decide +kernel), List.mem_of_getElem? (i := 1184) (by decide +kernel)⟩
def lw_privs_4 : List (MethodName × Nat) := [(⟨"PotAndFineModel", "isFew", "(I)Z"⟩, 31), (⟨"PotAndFineModel", "withoutOne", "(I)J"⟩, 31), (⟨"PotAndFineModel", "noHalves", "()Z"⟩, 31), (⟨"PotAndFineModel", "findPart", "()I"⟩, 31), (⟨"PotAndFineModel", "partBy", "(I)J"⟩, 31), (⟨"PotAndFineModel", "halfBy", "(I)J"⟩, 31), (⟨"PotAndFineModel", "replyOf", "(II)I"⟩, 31), (⟨"PotAndFineModel", "gainBy", "(III)J"⟩, 31), (⟨"PotAndFineModel", "wouldBe", "(III)I"⟩, 31), (⟨"PotAndFineModel", "slipsOf", "(II)I"⟩, 31), (⟨"PotAndFineModel", "toldMany", "()I"⟩, 31)]
theorem lw_r4 : ∀ q ∈ lw_privs_4, lw_okq q := List.forall_mem_cons.mpr ⟨lw_p48, List.forall_mem_cons.mpr ⟨lw_p49, List.forall_mem_cons.mpr ⟨lw_p50, List.forall_mem_cons.mpr ⟨lw_p51, List.forall_mem_cons.mpr ⟨lw_p52, List.forall_mem_cons.mpr ⟨lw_p53, List.forall_mem_cons.mpr ⟨lw_p54, List.forall_mem_cons.mpr ⟨lw_p55, List.forall_mem_cons.mpr ⟨lw_p56, List.forall_mem_cons.mpr ⟨lw_p57, List.forall_mem_cons.mpr ⟨lw_p58, fun _ h => absurd h List.not_mem_nil⟩⟩⟩⟩⟩⟩⟩⟩⟩⟩⟩
def lw_privs : List (MethodName × Nat) := lw_privs_1 ++ (lw_privs_2 ++ (lw_privs_3 ++ (lw_privs_4)))
def lw_tbl : List Cond := k2_sels lw_privs ++ tables_1
theorem lw_privs_ok : ∀ q ∈ lw_privs, lw_okq q := by
  show ∀ q ∈ lw_privs_1 ++ (lw_privs_2 ++ (lw_privs_3 ++ (lw_privs_4))), lw_okq q
  exact List.forall_mem_append.mpr ⟨lw_r1, List.forall_mem_append.mpr ⟨lw_r2, List.forall_mem_append.mpr ⟨lw_r3, lw_r4⟩⟩⟩
end
section
/-! THE SMALL MACHINE: a pure picture of bytecode over a heap by places -/
/-- code, a, b, an int, a long, whether it is a cut, erased locals (or a switch's targets) -/
abbrev mOp : Type := Nat × Nat × Nat × Int32 × Int64 × Nat × List Nat
/-- kind, class or length, references -/
abbrev mSC : Type := Nat × Nat × List Nat
abbrev mMI : Type := Nat → Nat → Int32
abbrev mMJ : Type := Nat → Nat → Int64
/-- shape, ints, longs, cells made, slots made -/
abbrev mHp : Type := List mSC × mMI × mMJ × Nat × Nat
/-- method, place in its code, locals, stack, heap -/
abbrev mCf : Type := Nat × Nat × List (Option Value) × List Value × mHp
abbrev mRs : Type := Option Value × mHp
abbrev mDc : Type := (q : Prop) ×' Decidable q
/-- what one step says: an end; cases with a rest; a call that answers int, long, nothing or a known reference; a maker's call -/
abbrev mSh : Type := Option mRs ⊕ (List (mDc × mCf) × Option mCf) ⊕ (mCf × (Int32 → mMI → mMJ → mCf)) ⊕ (mCf × (Int64 → mMI → mMJ → mCf)) ⊕ (mCf × Nat × (mMI → mMJ → mCf)) ⊕ (mCf × (mHp → mCf))
def mBI (o : Option mRs) (k : Int32 → mMI → mMJ → Option mRs) : Option mRs := match o with
  | some (some (.int v), h) => k v h.2.1 h.2.2.1
  | _ => none
def mBJ (o : Option mRs) (k : Int64 → mMI → mMJ → Option mRs) : Option mRs := match o with
  | some (some (.long v), h) => k v h.2.1 h.2.2.1
  | _ => none
/-- an answer that is nothing (w = 0) or the reference of place w - 1 -/
def mBR (o : Option mRs) (w : Nat) (k : mMI → mMJ → Option mRs) : Option mRs := match o with
  | some (none, h) => if w = 0 then k h.2.1 h.2.2.1 else none
  | some (some (.ref a), h) => if w = a + 1 then k h.2.1 h.2.2.1 else none
  | _ => none
def mBC (o : Option mRs) (k : mHp → Option mRs) : Option mRs := match o with
  | some (none, h) => k h
  | _ => none
def mIf (l : List (mDc × mCf)) (K : mCf → Option mRs) (z : Option mRs) : Option mRs := match l with
  | [] => z
  | q :: l => @ite _ q.1.1 q.1.2 (K q.2) (mIf l K z)
def mTo (d : Option mCf) (K : mCf → Option mRs) : Option mRs := match d with
  | none => none
  | some c => K c
def mApp (s : mSh) (K : mCf → Option mRs) : Option mRs := match s with
  | .inl o => o
  | .inr (.inl (l, d)) => mIf l K (mTo d K)
  | .inr (.inr (.inl (c, k))) => mBI (K c) (fun v M J => K (k v M J))
  | .inr (.inr (.inr (.inl (c, k)))) => mBJ (K c) (fun v M J => K (k v M J))
  | .inr (.inr (.inr (.inr (.inl (c, w, k))))) => mBR (K c) w (fun M J => K (k M J))
  | .inr (.inr (.inr (.inr (.inr (c, k))))) => mBC (K c) (fun h => K (k h))
def mNth {α : Type} (d : α) : List α → Nat → α
  | [], _ => d
  | x :: _, 0 => x
  | _ :: l, n + 1 => mNth d l n
def mPut {α : Type} : List α → Nat → α → List α
  | [], _, _ => []
  | _ :: l, 0, v => v :: l
  | x :: l, n + 1, v => x :: mPut l n v
def mUp (M : mMI) (k i : Nat) (v : Int32) : mMI := fun j => if j = k then upd (M k) i v else M j
def mUpJ (M : mMJ) (k i : Nat) (v : Int64) : mMJ := fun j => if j = k then vp_updL (M k) i v else M j
def mSet (M : mMI) (k : Nat) (f : Nat → Int32) : mMI := fun j => if j = k then f else M j
def mSetJ (M : mMJ) (k : Nat) (f : Nat → Int64) : mMJ := fun j => if j = k then f else M j
abbrev mIn (i : Int32) (n : Nat) : Prop := ¬ (i < 0 ∨ n ≤ i.toNatClampNeg)
def mDec (q : Prop) [d : Decidable q] : mDc := ⟨q, d⟩
def mErs : List Nat → List (Option Value) → List (Option Value)
  | [], L => L
  | a :: l, L => mErs l (mPut L a none)
def mCat2 (o : Option Value) : Bool := match o with
  | some (.long _) => true
  | some (.double _) => true
  | _ => false
/-- a local is stored: a long takes two places, what it breaks is forgotten -/
def mSto (L : List (Option Value)) (a : Nat) (v : Value) : List (Option Value) :=
  let L1 := match a with
    | 0 => L
    | b + 1 => match mCat2 (mNth none L b) with
      | true => mPut L b none
      | false => L
  match mCat2 (some v) with
    | true => mPut (mPut L1 a (some v)) (a + 1) none
    | false => mPut L1 a (some v)
def mArgs : List Value → List (Option Value)
  | [] => []
  | v :: l => match mCat2 (some v) with
    | true => some v :: none :: mArgs l
    | false => some v :: mArgs l
def mPad : Nat → List (Option Value) → List (Option Value)
  | 0, _ => []
  | n + 1, [] => none :: mPad n []
  | n + 1, x :: l => x :: mPad n l
/-- what lies at a place: of the world, or of what was there before -/
def mAt (cs sh : List mSC) (a : Nat) : mSC := if a < 999 then mNth (9, 0, []) sh a else mNth (9, 0, []) cs (a - 1000)
/-- the length of an array; of the script by a number of its own -/
def mLen (c : mSC) (M : mMI) : Nat := if c.2.1 = 0 then (M 999 0).toNatClampNeg else c.2.1
def mRef (n : Nat) : Value := match n with
  | 0 => .null
  | a + 1 => .ref a
def mBin (b : Nat) (x y : Int32) : Int32 := match b with
  | 0 => x + y
  | 1 => x - y
  | 2 => x * y
  | 3 => x &&& y
  | 4 => x ||| y
  | 5 => x ^^^ y
  | 6 => x <<< (y &&& 31)
  | 7 => x >>> (y &&& 31)
  | _ => (x.toUInt32 >>> (y.toUInt32 &&& Int32.toUInt32 31)).toInt32
def mBinJ (b : Nat) (x y : Int64) : Int64 := match b with
  | 0 => x + y
  | 1 => x - y
  | 2 => x * y
  | 3 => x &&& y
  | 4 => x ||| y
  | _ => x ^^^ y
def mShJ (b : Nat) (x : Int64) (y : Int32) : Int64 := match b with
  | 0 => x <<< (y.toInt64 &&& 63)
  | 1 => x >>> (y.toInt64 &&& 63)
  | _ => (x.toUInt64 >>> (y.toInt64.toUInt64 &&& Int64.toUInt64 63)).toInt64
def mCv (b : Nat) (v : Value) : Value := match b, v with
  | 0, .int x => .long x.toInt64
  | 1, .long x => .int x.toInt32
  | 2, .int x => .int (x.toUInt32 % 65536).toInt32
  | 3, .int x => .int x.toInt8.toInt32
  | _, _ => .null
def mCc (b : Nat) (x y : Int32) : mDc := match b with
  | 0 => mDec (x = y)
  | 1 => mDec (¬ x = y)
  | 2 => mDec (x < y)
  | 3 => mDec (y ≤ x)
  | 4 => mDec (y < x)
  | _ => mDec (x ≤ y)
/-- of a method: locals, answer (0 none, 1 int, 2 long, 3 reference, 4 boolean), plain, rank, receiver's class (9: none), cells, slots, the place that it answers + 1 -/
abbrev mInf : Type := Nat × Nat × Nat × Nat × Nat × Nat × Nat × Nat
/-- the program: a method's code by pieces of 32, what is said of it, what was there before -/
abbrev mPg : Type := (Nat → List (List mOp)) × (Nat → mInf) × List mSC
def mFe (P : mPg) (y i : Nat) : mOp := mNth (99, 0, 0, 0, 0, 0, []) (mNth [] (P.1 y) (i / 32)) (i % 32)
def mNo : mSh := .inl none
def mGo (y i : Nat) (L : List (Option Value)) (S : List Value) (h : mHp) : mSh := .inr (.inl ([], some (y, i, L, S, h)))
def mCk (q : mDc) (y i : Nat) (L : List (Option Value)) (S : List Value) (h : mHp) : mSh := .inr (.inl ([(q, (y, i, L, S, h))], none))
/-- a switch's cases -/
def mSw (x k : Int32) (y : Nat) (L : List (Option Value)) (S : List Value) (h : mHp) : List Nat → List (mDc × mCf)
  | [] => []
  | t :: l => (mDec (x = k), (y, t, L, S, h)) :: mSw x (k + 1) y L S h l
/-- a row of references: the cases of its index -/
def mRw (x k : Int32) (y i : Nat) (L : List (Option Value)) (S : List Value) (h : mHp) : List Nat → List (mDc × mCf)
  | [] => []
  | r :: l => (mDec (x = k), (y, i, L, mRef r :: S, h)) :: mRw x (k + 1) y i L S h l
def mGetf (cs : List mSC) (a b o y i : Nat) (L : List (Option Value)) (S : List Value) (h : mHp) : mSh :=
  match mAt cs h.1 o with
  | (0, _, rs) => match b with
    | 0 => mGo y (i + 1) L (.int (h.2.1 o a) :: S) h
    | _ => match mNth 0 rs a with
      | 0 => mNo
      | r + 1 => mGo y (i + 1) L (.ref r :: S) h
  | (7, _, rs) => match b with
    | 0 => mGo y (i + 1) L (.int 0 :: S) h
    | _ => match mNth 0 rs a with
      | 0 => mNo
      | r + 1 => mGo y (i + 1) L (.ref r :: S) h
  | _ => mNo
def mAld (cs : List mSC) (a : Nat) (x : Int32) (y i : Nat) (L : List (Option Value)) (S : List Value) (h : mHp) : mSh :=
  match mAt cs h.1 a with
  | (1, n, _) => mCk (mDec (mIn x n)) y (i + 1) L (.int (h.2.1 a x.toNatClampNeg) :: S) h
  | (3, n, _) => mCk (mDec (mIn x n)) y (i + 1) L (.int (h.2.1 a x.toNatClampNeg) :: S) h
  | (5, n, z) => mCk (mDec (mIn x (mLen (5, n, z) h.2.1))) y (i + 1) L (.int (h.2.1 a x.toNatClampNeg) :: S) h
  | (6, n, _) => mCk (mDec (mIn x n)) y (i + 1) L (.int (h.2.1 a x.toNatClampNeg) :: S) h
  | _ => mNo
def mLn (cs : List mSC) (a y i : Nat) (L : List (Option Value)) (S : List Value) (h : mHp) : mSh :=
  match mAt cs h.1 a with
  | (1, n, _) => mGo y (i + 1) L (.int (Int32.ofNat n) :: S) h
  | (5, n, _) => match n with
    | 0 => mGo y (i + 1) L (.int (h.2.1 999 0) :: S) h
    | n + 1 => mGo y (i + 1) L (.int (Int32.ofNat (n + 1)) :: S) h
  | (6, n, _) => mGo y (i + 1) L (.int (Int32.ofNat n) :: S) h
  | _ => mNo
def mIsK (cs sh : List mSC) (k a : Nat) : Bool := (mAt cs sh a).1 == k
/-- whether a call's receiver is of the method's class -/
def mRcv (cs sh : List mSC) (c : Nat) (args : List Value) : Bool := match c with
  | 9 => true
  | 8 => match args with
    | .ref a :: _ => (mAt cs sh a).1 == 7
    | _ => false
  | c => match args with
    | .ref a :: _ => (mAt cs sh a).1 == 0 && ((mAt cs sh a).2.1 == c && decide (a < 999))
    | _ => false
def mEnt (P : mPg) (y : Nat) (args : List Value) (h : mHp) : mCf := (y, 0, mPad (P.2.1 y).1 (mArgs args), [], h.1, h.2.1, h.2.2.1, 0, 0)
def mCall (P : mPg) (z n y i : Nat) (L : List (Option Value)) (S : List Value) (h : mHp) : mSh :=
  match (decide ((P.2.1 z).2.2.2.1 < (P.2.1 y).2.2.2.1) && (decide ((S.drop n).length ≤ 4) && (decide ((S.take n).length = n) && mRcv P.2.2 h.1 (P.2.1 z).2.2.2.2.1 (S.take n).reverse))) with
  | false => mNo
  | true => match (P.2.1 z).2.2.1 with
    | 0 => match (P.2.1 y).2.2.1, decide (h.2.2.2.1 + (P.2.1 z).2.2.2.2.2.1 ≤ (P.2.1 y).2.2.2.2.2.1 ∧ h.2.2.2.2 + (P.2.1 z).2.2.2.2.2.2.1 ≤ (P.2.1 y).2.2.2.2.2.2.1) with
      | 0, true => .inr (.inr (.inr (.inr (.inr (mEnt P z (S.take n).reverse h, fun g => (y, i + 1, L, S.drop n, g.1, g.2.1, g.2.2.1, h.2.2.2.1 + (P.2.1 z).2.2.2.2.2.1, h.2.2.2.2 + (P.2.1 z).2.2.2.2.2.2.1))))))
      | _, _ => mNo
    | _ => match (P.2.1 z).2.1 with
      | 0 => .inr (.inr (.inr (.inr (.inl (mEnt P z (S.take n).reverse h, 0, fun M J => (y, i + 1, L, S.drop n, h.1, M, J, h.2.2.2))))))
      | 2 => .inr (.inr (.inr (.inl (mEnt P z (S.take n).reverse h, fun v M J => (y, i + 1, L, .long v :: S.drop n, h.1, M, J, h.2.2.2)))))
      | 3 => .inr (.inr (.inr (.inr (.inl (mEnt P z (S.take n).reverse h, (P.2.1 z).2.2.2.2.2.2.2, fun M J => (y, i + 1, L, mRef (P.2.1 z).2.2.2.2.2.2.2 :: S.drop n, h.1, M, J, h.2.2.2))))))
      | _ => .inr (.inr (.inl (mEnt P z (S.take n).reverse h, fun v M J => (y, i + 1, L, .int v :: S.drop n, h.1, M, J, h.2.2.2))))
def mZ (v : Int32) (h : mHp) : Option mRs := if v = 0 then some (some (.int 0), h) else if v = 1 then some (some (.int 1), h) else none
def mRet (r : Nat) (S : List Value) (h : mHp) : Option mRs := match r, S with
  | 0, [] => some (none, h)
  | 1, [.int v] => some (some (.int v), h)
  | 2, [.long v] => some (some (.long v), h)
  | 3, [.ref v] => some (some (.ref v), h)
  | 4, [.int v] => mZ v h
  | _, _ => none
/-- arrays of a kind (1 ints, 2 longs, 3 booleans) are made -/
def mNewa (y i k : Nat) (L : List (Option Value)) (n : Nat) (S : List Value) (h : mHp) (mc ms : Nat) : mSh :=
  match decide (h.1.length < 900 ∧ 0 < n ∧ n < 65536 ∧ h.2.2.2.1 + 1 ≤ mc ∧ h.2.2.2.2 + n ≤ ms) with
  | true => mGo y (i + 1) L (.ref h.1.length :: S) (h.1 ++ [(k, n, [])], mSet h.2.1 h.1.length (fun _ => 0), mSetJ h.2.2.1 h.1.length (fun _ => 0), h.2.2.2.1 + 1, h.2.2.2.2 + n)
  | false => mNo
def mZeros : Nat → List Nat
  | 0 => []
  | n + 1 => 0 :: mZeros n
/-- rows of references (k = 4, n long) and objects (k = 0, class w, n fields) are made -/
def mNewo (y i k w n : Nat) (L : List (Option Value)) (S : List Value) (h : mHp) (mc ms : Nat) : mSh :=
  match decide (h.1.length < 900 ∧ n < 65536 ∧ h.2.2.2.1 + 1 ≤ mc ∧ h.2.2.2.2 + n ≤ ms) with
  | true => mGo y (i + 1) L (.ref h.1.length :: S) (h.1 ++ [(k, w, mZeros n)], mSet h.2.1 h.1.length (fun _ => 0), h.2.2.1, h.2.2.2.1 + 1, h.2.2.2.2 + n)
  | false => mNo
def mPlace (v : Value) : Nat := match v with
  | .ref a => a + 1
  | _ => 0
/-- a reference is put into an object or a row -/
def mLink (y i o k : Nat) (v : Value) (L : List (Option Value)) (S : List Value) (h : mHp) : mSh :=
  match mPlace v, mNth (9, 0, []) h.1 o with
  | 0, _ => mNo
  | r + 1, (d, w, rs) => mGo y (i + 1) L S (mPut h.1 o (d, w, mPut rs k (r + 1)), h.2)
/-- one instruction of a plain kind -/
def mExec (P : mPg) (o : mOp) (y i : Nat) (L : List (Option Value)) (S : List Value) (h : mHp) : mSh := match o.1 with
  | 0 => mGo y (i + 1) L (.int o.2.2.2.1 :: S) h
  | 1 => mGo y (i + 1) L (.long o.2.2.2.2.1 :: S) h
  | 2 => match mNth none L o.2.1 with
    | some v => mGo y (i + 1) L (v :: S) h
    | none => mNo
  | 3 => match S with
    | v :: S => mGo y (i + 1) (mSto L o.2.1 v) S h
    | _ => mNo
  | 4 => match mNth none L o.2.1 with
    | some (.int x) => mGo y (i + 1) (mPut L o.2.1 (some (.int (x + o.2.2.2.1)))) S h
    | _ => mNo
  | 5 => match S with
    | .int v :: .int x :: S => mGo y (i + 1) L (.int (mBin o.2.2.1 x v) :: S) h
    | _ => mNo
  | 6 => match S with
    | .int v :: .int x :: S => mCk (mDec (¬ v = 0)) y (i + 1) L (.int (x / v) :: S) h
    | _ => mNo
  | 7 => match S with
    | .int v :: .int x :: S => mCk (mDec (¬ v = 0)) y (i + 1) L (.int (x - x / v * v) :: S) h
    | _ => mNo
  | 8 => match S with
    | .int x :: S => mGo y (i + 1) L (.int (-x) :: S) h
    | _ => mNo
  | 9 => match S with
    | .long v :: .long x :: S => mGo y (i + 1) L (.long (mBinJ o.2.2.1 x v) :: S) h
    | _ => mNo
  | 10 => match S with
    | .long v :: .long x :: S => mCk (mDec (¬ v = 0)) y (i + 1) L (.long (x / v) :: S) h
    | _ => mNo
  | 11 => match S with
    | .int v :: .long x :: S => mGo y (i + 1) L (.long (mShJ o.2.2.1 x v) :: S) h
    | _ => mNo
  | 12 => match S with
    | v :: S => match mCv o.2.2.1 v with
      | .null => mNo
      | w => mGo y (i + 1) L (w :: S) h
    | _ => mNo
  | 13 => match S with
    | .long v :: .long x :: S => mGo y (i + 1) L (.int (lg_cmp x v) :: S) h
    | _ => mNo
  | 14 => match S with
    | v :: S => match mCat2 (some v) with
      | false => mGo y (i + 1) L (v :: v :: S) h
      | true => mNo
    | _ => mNo
  | 15 => match S with
    | v :: S => match mCat2 (some v) with
      | false => mGo y (i + 1) L S h
      | true => mNo
    | _ => mNo
  | 16 => mGo y o.2.1 L S h
  | 17 => match S with
    | .int x :: S => .inr (.inl ([(mCc o.2.2.1 x 0, (y, o.2.1, L, S, h))], some (y, i + 1, L, S, h)))
    | _ => mNo
  | 18 => match S with
    | .int v :: .int x :: S => .inr (.inl ([(mCc o.2.2.1 x v, (y, o.2.1, L, S, h))], some (y, i + 1, L, S, h)))
    | _ => mNo
  | 19 => match S with
    | .int x :: S => .inr (.inl (mSw x o.2.2.2.1 y L S h o.2.2.2.2.2.2, some (y, o.2.1, L, S, h)))
    | _ => mNo
  | 20 => match S with
    | .ref a :: S => mGetf P.2.2 o.2.1 o.2.2.1 a y i L S h
    | _ => mNo
  | 21 => match S with
    | .int v :: .ref a :: S => match decide (a < 999) && mIsK P.2.2 h.1 0 a with
      | true => mGo y (i + 1) L S (h.1, mUp h.2.1 a o.2.1 v, h.2.2)
      | false => mNo
    | _ => mNo
  | 22 => mGo y (i + 1) L (.ref o.2.1 :: S) h
  | 23 => match S with
    | .int x :: .ref a :: S => mAld P.2.2 a x y i L S h
    | _ => mNo
  | 24 => match S with
    | .int x :: .ref a :: S => match mAt P.2.2 h.1 a with
      | (2, n, _) => mCk (mDec (mIn x n)) y (i + 1) L (.long (h.2.2.1 a x.toNatClampNeg) :: S) h
      | _ => mNo
    | _ => mNo
  | 25 => match S with
    | .int x :: .ref a :: S => match mAt P.2.2 h.1 a with
      | (4, _, rs) => .inr (.inl (mRw x 0 y (i + 1) L S h rs, none))
      | _ => mNo
    | _ => mNo
  | 26 => match S with
    | .int v :: .int x :: .ref a :: S => match mAt P.2.2 h.1 a with
      | (1, n, _) => mCk (mDec (mIn x n)) y (i + 1) L S (h.1, mUp h.2.1 a x.toNatClampNeg v, h.2.2)
      | _ => mNo
    | _ => mNo
  | 27 => match S with
    | .long v :: .int x :: .ref a :: S => match mAt P.2.2 h.1 a with
      | (2, n, _) => mCk (mDec (mIn x n)) y (i + 1) L S (h.1, h.2.1, mUpJ h.2.2.1 a x.toNatClampNeg v, h.2.2.2)
      | _ => mNo
    | _ => mNo
  | 29 => match S with
    | .ref a :: S => mLn P.2.2 a y i L S h
    | _ => mNo
  | 33 => mCall P o.2.1 o.2.2.1 y i L S h
  | 34 => .inl (mRet (P.2.1 y).2.1 S h)
  | 35 => match S with
    | .int n :: .int dp :: .ref d :: .int sp :: .ref a :: S => match mAt P.2.2 h.1 a, mAt P.2.2 h.1 d with
      | (_, n1, _), (1, n2, _) => mCk (mDec ((dp = 0 ∧ sp = 0 ∧ mIn n (min n1 n2 + 1)) ∧ (mIsK P.2.2 h.1 1 a = true ∨ mIsK P.2.2 h.1 5 a = true) ∧ ¬ a = d)) y (i + 1) L S (h.1, mSet h.2.1 d (va_cpy (h.2.1 a) (h.2.1 d) 0 0 n.toNatClampNeg), h.2.2)
      | _, _ => mNo
    | _ => mNo
  | 37 => match S with
    | .ref _ :: S => mGo y (i + 1) L S h
    | _ => mNo
  | 39 => match S with
    | .ref a :: S => match decide (a < 999) && mIsK P.2.2 h.1 0 a with
      | true => mGo y (i + 1) L S (h.1, mUp h.2.1 a o.2.1 o.2.2.2.1, h.2.2)
      | false => mNo
    | _ => mNo
  | 40 => match S with
    | .int x :: .ref a :: S => match mAt P.2.2 h.1 a with
      | (3, n, _) => mCk (mDec (mIn x n)) y (i + 1) L S (h.1, mUp h.2.1 a x.toNatClampNeg o.2.2.2.1, h.2.2)
      | _ => mNo
    | _ => mNo
  | _ => mNo
/-- one instruction of a maker: what it makes and links beside the plain ones -/
def mMake (P : mPg) (o : mOp) (y i : Nat) (L : List (Option Value)) (S : List Value) (h : mHp) : mSh := match o.1 with
  | 28 => match S with
    | v :: .int x :: .ref a :: S => match decide (0 ≤ x ∧ x.toNatClampNeg < 65536) && (decide (a < 999) && mIsK P.2.2 h.1 4 a) with
      | true => mLink y i a x.toNatClampNeg v L S h
      | false => mNo
    | _ => mNo
  | 30 => mNewo y i 0 o.2.1 o.2.2.1 L S h (P.2.1 y).2.2.2.2.2.1 (P.2.1 y).2.2.2.2.2.2.1
  | 31 => match S with
    | .int n :: S => match decide (0 ≤ n) with
      | true => mNewa y i o.2.1 L n.toNatClampNeg S h (P.2.1 y).2.2.2.2.2.1 (P.2.1 y).2.2.2.2.2.2.1
      | false => mNo
    | _ => mNo
  | 32 => match S with
    | .int n :: S => match decide (0 ≤ n) with
      | true => mNewo y i 4 n.toNatClampNeg n.toNatClampNeg L S h (P.2.1 y).2.2.2.2.2.1 (P.2.1 y).2.2.2.2.2.2.1
      | false => mNo
    | _ => mNo
  | 36 => match S with
    | v :: .ref a :: S => match decide (a < 999) && mIsK P.2.2 h.1 0 a with
      | true => mLink y i a o.2.1 v L S h
      | false => mNo
    | _ => mNo
  | 38 => match S with
    | .int v :: .ref a :: S => match decide (a < 999) && mIsK P.2.2 h.1 0 a with
      | true => mCk (mDec (v = 0 ∨ v = 1)) y (i + 1) L S (h.1, mUp h.2.1 a o.2.1 v, h.2.2)
      | false => mNo
    | _ => mNo
  | _ => mExec P o y i L S h
def mErL (o : mOp) (L : List (Option Value)) : List (Option Value) := match o.1 with
  | 19 => L
  | _ => mErs o.2.2.2.2.2.2 L
def mStep (P : mPg) (c : mCf) : mSh := match (P.2.1 c.1).2.2.1 with
  | 0 => mMake P (mFe P c.1 c.2.1) c.1 c.2.1 (mErL (mFe P c.1 c.2.1) c.2.2.1) c.2.2.2.1 c.2.2.2.2
  | _ => mExec P (mFe P c.1 c.2.1) c.1 c.2.1 (mErL (mFe P c.1 c.2.1) c.2.2.1) c.2.2.2.1 c.2.2.2.2
def mEv (P : mPg) : Nat → mCf → Option mRs
  | 0, _ => none
  | n + 1, c => mApp (mStep P c) (mEv P n)
noncomputable def mOut (P : mPg) (c : mCf) : Option mRs := @dite (Option mRs) (∃ n r, mEv P n c = some r) (Classical.propDecidable _) (fun h => mEv P (Classical.choose h) c) (fun _ => none)
/-- whether a place of the code is a cut -/
def mCut (P : mPg) (c : mCf) : Bool := (mFe P c.1 c.2.1).2.2.2.2.2.1 == 1
noncomputable def mDen (P : mPg) : Nat → mCf → Option mRs
  | 0, c => mOut P c
  | n + 1, c => mApp (mStep P c) (fun c => cond (mCut P c) (mOut P c) (mDen P n c))
end
section
/-! the small machine's answer is a fixed point -/
theorem mBI_some {o : Option mRs} {k : Int32 → mMI → mMJ → Option mRs} {r : mRs} (h : mBI o k = some r) : ∃ v g, o = some (some (.int v), g) ∧ k v g.2.1 g.2.2.1 = some r := by
  unfold mBI at h
  split at h
  · exact ⟨_, _, rfl, h⟩
  · cases h
theorem mBJ_some {o : Option mRs} {k : Int64 → mMI → mMJ → Option mRs} {r : mRs} (h : mBJ o k = some r) : ∃ v g, o = some (some (.long v), g) ∧ k v g.2.1 g.2.2.1 = some r := by
  unfold mBJ at h
  split at h
  · exact ⟨_, _, rfl, h⟩
  · cases h
theorem mBR_some {o : Option mRs} {w : Nat} {k : mMI → mMJ → Option mRs} {r : mRs} (h : mBR o w k = some r) : ∃ v g, o = some (v, g) ∧ ((v = none ∧ w = 0) ∨ ∃ a, v = some (.ref a) ∧ w = a + 1) ∧ k g.2.1 g.2.2.1 = some r := by
  unfold mBR at h
  split at h
  · split at h
    · exact ⟨_, _, rfl, Or.inl ⟨rfl, by assumption⟩, h⟩
    · cases h
  · split at h
    · exact ⟨_, _, rfl, Or.inr ⟨_, rfl, by assumption⟩, h⟩
    · cases h
  · cases h
theorem mBC_some {o : Option mRs} {k : mHp → Option mRs} {r : mRs} (h : mBC o k = some r) : ∃ g, o = some (none, g) ∧ k g = some r := by
  unfold mBC at h
  split at h
  · exact ⟨_, rfl, h⟩
  · cases h
theorem mApp_I (c : mCf) (k : Int32 → mMI → mMJ → mCf) (K : mCf → Option mRs) : mApp (.inr (.inr (.inl (c, k)))) K = mBI (K c) (fun v M J => K (k v M J)) := rfl
theorem mApp_J (c : mCf) (k : Int64 → mMI → mMJ → mCf) (K : mCf → Option mRs) : mApp (.inr (.inr (.inr (.inl (c, k))))) K = mBJ (K c) (fun v M J => K (k v M J)) := rfl
theorem mApp_R (c : mCf) (w : Nat) (k : mMI → mMJ → mCf) (K : mCf → Option mRs) : mApp (.inr (.inr (.inr (.inr (.inl (c, w, k)))))) K = mBR (K c) w (fun M J => K (k M J)) := rfl
theorem mApp_C (c : mCf) (k : mHp → mCf) (K : mCf → Option mRs) : mApp (.inr (.inr (.inr (.inr (.inr (c, k)))))) K = mBC (K c) (fun h => K (k h)) := rfl
theorem mBR_of {o : Option mRs} {w : Nat} {k : mMI → mMJ → Option mRs} {v : Option Value} {g : mHp} (h : o = some (v, g)) (hv : (v = none ∧ w = 0) ∨ ∃ a, v = some (.ref a) ∧ w = a + 1) : mBR o w k = k g.2.1 g.2.2.1 := by
  subst h
  rcases hv with ⟨rfl, rfl⟩ | ⟨a, rfl, rfl⟩
  · rfl
  · exact if_pos rfl
theorem mIf_le {K K2 : mCf → Option mRs} (hK : ∀ c r, K c = some r → K2 c = some r) {z z2 : Option mRs} {r : mRs} (hz : z = some r → z2 = some r) : ∀ (l : List (mDc × mCf)), mIf l K z = some r → mIf l K2 z2 = some r
  | [], h => hz h
  | q :: l, h => by
    by_cases hq : q.1.1
    · have e1 : mIf (q :: l) K z = K q.2 := @if_pos _ q.1.2 hq _ _ _
      have e2 : mIf (q :: l) K2 z2 = K2 q.2 := @if_pos _ q.1.2 hq _ _ _
      rw [e1] at h
      rw [e2]
      exact hK _ _ h
    · have e1 : mIf (q :: l) K z = mIf l K z := @if_neg _ q.1.2 hq _ _ _
      have e2 : mIf (q :: l) K2 z2 = mIf l K2 z2 := @if_neg _ q.1.2 hq _ _ _
      rw [e1] at h
      rw [e2]
      exact mIf_le hK hz l h
theorem mTo_le {K K2 : mCf → Option mRs} (hK : ∀ c r, K c = some r → K2 c = some r) {r : mRs} : ∀ {d : Option mCf}, mTo d K = some r → mTo d K2 = some r
  | none, h => h
  | some c, h => hK c r h
theorem mApp_le {K K2 : mCf → Option mRs} (hK : ∀ c r, K c = some r → K2 c = some r) (s : mSh) {r : mRs} (h : mApp s K = some r) : mApp s K2 = some r := by
  match s, h with
  | .inl o, h => exact h
  | .inr (.inl (l, d)), h => exact mIf_le hK (mTo_le hK) l h
  | .inr (.inr (.inl (c, k))), h =>
    rw [mApp_I] at h
    obtain ⟨v, g, h1, h2⟩ := mBI_some h
    rw [mApp_I]
    rw [hK _ _ h1]
    exact hK _ _ h2
  | .inr (.inr (.inr (.inl (c, k)))), h =>
    rw [mApp_J] at h
    obtain ⟨v, g, h1, h2⟩ := mBJ_some h
    rw [mApp_J]
    rw [hK _ _ h1]
    exact hK _ _ h2
  | .inr (.inr (.inr (.inr (.inl (c, w, k))))), h =>
    rw [mApp_R] at h
    obtain ⟨v, g, h1, hv, h2⟩ := mBR_some h
    rw [mApp_R]
    rw [mBR_of (hK _ _ h1) hv]
    exact hK _ _ h2
  | .inr (.inr (.inr (.inr (.inr (c, k))))), h =>
    rw [mApp_C] at h
    obtain ⟨g, h1, h2⟩ := mBC_some h
    rw [mApp_C]
    rw [hK _ _ h1]
    exact hK _ _ h2
theorem mEv_up (P : mPg) : ∀ (n : Nat) (c : mCf) (r : mRs), mEv P n c = some r → mEv P (n + 1) c = some r
  | 0, c, r, h => by cases h
  | n + 1, c, r, h => mApp_le (mEv_up P n) _ h
theorem mEv_add (P : mPg) (n : Nat) (c : mCf) (r : mRs) (h : mEv P n c = some r) : ∀ k, mEv P (n + k) c = some r
  | 0 => h
  | k + 1 => mEv_up P (n + k) c r (mEv_add P n c r h k)
theorem mEv_max (P : mPg) {n m : Nat} {c : mCf} {r : mRs} (h : mEv P n c = some r) (hm : n ≤ m) : mEv P m c = some r := by
  have := mEv_add P n c r h (m - n)
  rwa [Nat.add_sub_of_le hm] at this
theorem mEv_one (P : mPg) {n m : Nat} {c : mCf} {r q : mRs} (h : mEv P n c = some r) (h2 : mEv P m c = some q) : r = q := by
  have a := mEv_max P h (Nat.le_max_left n m)
  have b := mEv_max P h2 (Nat.le_max_right n m)
  rw [a] at b
  exact Option.some.inj b
theorem mOut_of (P : mPg) {n : Nat} {c : mCf} {r : mRs} (h : mEv P n c = some r) : mOut P c = some r := by
  have hx : ∃ n r, mEv P n c = some r := ⟨n, r, h⟩
  have e : mOut P c = mEv P (Classical.choose hx) c := @dif_pos _ (Classical.propDecidable _) hx _ _ _
  rw [e]
  obtain ⟨q, hq⟩ := Classical.choose_spec hx
  rw [hq, mEv_one P hq h]
theorem mOut_ex (P : mPg) {c : mCf} {r : mRs} (h : mOut P c = some r) : ∃ n, mEv P n c = some r := by
  by_cases hx : ∃ n r, mEv P n c = some r
  · obtain ⟨n, q, hq⟩ := hx
    have := mOut_of P hq
    rw [h] at this
    cases this
    exact ⟨n, hq⟩
  · have e : mOut P c = none := @dif_neg _ (Classical.propDecidable _) hx _ _ _
    rw [e] at h
    cases h
theorem mApp_out (P : mPg) (s : mSh) {r : mRs} (h : mApp s (mOut P) = some r) : ∃ n, mApp s (mEv P n) = some r := by
  match s, h with
  | .inl o, h => exact ⟨0, h⟩
  | .inr (.inl (l, d)), h =>
    have key : ∀ (l : List (mDc × mCf)), mIf l (mOut P) (mTo d (mOut P)) = some r → ∃ n, mIf l (mEv P n) (mTo d (mEv P n)) = some r := by
      intro l
      induction l with
      | nil =>
        intro h
        cases d with
        | none => cases h
        | some c => exact mOut_ex P h
      | cons q l ih =>
        intro h
        by_cases hq : q.1.1
        · have e1 : mIf (q :: l) (mOut P) (mTo d (mOut P)) = mOut P q.2 := @if_pos _ q.1.2 hq _ _ _
          rw [e1] at h
          obtain ⟨n, hn⟩ := mOut_ex P h
          exact ⟨n, (show mIf (q :: l) (mEv P n) _ = _ from @if_pos _ q.1.2 hq _ _ _).trans hn⟩
        · have e1 : mIf (q :: l) (mOut P) (mTo d (mOut P)) = mIf l (mOut P) (mTo d (mOut P)) := @if_neg _ q.1.2 hq _ _ _
          rw [e1] at h
          obtain ⟨n, hn⟩ := ih h
          exact ⟨n, (show mIf (q :: l) (mEv P n) _ = _ from @if_neg _ q.1.2 hq _ _ _).trans hn⟩
    exact key l h
  | .inr (.inr (.inl (c, k))), h =>
    rw [mApp_I] at h
    obtain ⟨v, g, h1, h2⟩ := mBI_some h
    obtain ⟨n1, h1⟩ := mOut_ex P h1
    obtain ⟨n2, h2⟩ := mOut_ex P h2
    refine ⟨max n1 n2, ?_⟩
    rw [mApp_I]
    rw [mEv_max P h1 (Nat.le_max_left _ _)]
    exact mEv_max P h2 (Nat.le_max_right _ _)
  | .inr (.inr (.inr (.inl (c, k)))), h =>
    rw [mApp_J] at h
    obtain ⟨v, g, h1, h2⟩ := mBJ_some h
    obtain ⟨n1, h1⟩ := mOut_ex P h1
    obtain ⟨n2, h2⟩ := mOut_ex P h2
    refine ⟨max n1 n2, ?_⟩
    rw [mApp_J]
    rw [mEv_max P h1 (Nat.le_max_left _ _)]
    exact mEv_max P h2 (Nat.le_max_right _ _)
  | .inr (.inr (.inr (.inr (.inl (c, w, k))))), h =>
    rw [mApp_R] at h
    obtain ⟨v, g, h1, hv, h2⟩ := mBR_some h
    obtain ⟨n1, h1⟩ := mOut_ex P h1
    obtain ⟨n2, h2⟩ := mOut_ex P h2
    refine ⟨max n1 n2, ?_⟩
    rw [mApp_R]
    rw [mBR_of (mEv_max P h1 (Nat.le_max_left _ _)) hv]
    exact mEv_max P h2 (Nat.le_max_right _ _)
  | .inr (.inr (.inr (.inr (.inr (c, k))))), h =>
    rw [mApp_C] at h
    obtain ⟨g, h1, h2⟩ := mBC_some h
    obtain ⟨n1, h1⟩ := mOut_ex P h1
    obtain ⟨n2, h2⟩ := mOut_ex P h2
    refine ⟨max n1 n2, ?_⟩
    rw [mApp_C]
    rw [mEv_max P h1 (Nat.le_max_left _ _)]
    exact mEv_max P h2 (Nat.le_max_right _ _)
theorem mOut_fix (P : mPg) (c : mCf) : mOut P c = mApp (mStep P c) (mOut P) := by
  cases h : mApp (mStep P c) (mOut P) with
  | some r =>
    obtain ⟨n, hn⟩ := mApp_out P _ h
    exact mOut_of P (n := n + 1) hn
  | none =>
    cases h2 : mOut P c with
    | none => rfl
    | some r =>
      obtain ⟨n, hn⟩ := mOut_ex P h2
      cases n with
      | zero => cases hn
      | succ n =>
        have := mApp_le (K2 := mOut P) (fun c r q => mOut_of P q) _ (show mApp (mStep P c) (mEv P n) = some r from hn)
        rw [h] at this
        cases this
theorem mDen_eq (P : mPg) : ∀ (n : Nat) (c : mCf), mDen P n c = mOut P c
  | 0, c => rfl
  | n + 1, c => by
    have e : (fun c => cond (mCut P c) (mOut P c) (mDen P n c)) = mOut P := by
      funext c
      cases mCut P c with
      | true => rfl
      | false => exact mDen_eq P n c
    have e2 : mDen P (n + 1) c = mApp (mStep P c) (fun c => cond (mCut P c) (mOut P c) (mDen P n c)) := rfl
    rw [e2, e]
    exact (mOut_fix P c).symm
end
section
theorem zz_trivial : True := trivial
end
