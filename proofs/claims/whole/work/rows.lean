section
-- ===== PART A: goes FIRST, ahead of the names: the tables' words, and 'selects' of the private methods out of them =====
/-- a private method of a class that the tables say can be made, by its rows of tables_1 -/
def lw_okq (q : MethodName × Nat) : Prop := (q.1.cls ≠ "java/lang/invoke/MethodHandle" ∧ q.1.cls ≠ "java/lang/invoke/VarHandle") ∧ Cond.instantiable q.1.cls q.2 ∈ tables_1 ∧ Cond.privateMethod q.1 ∈ tables_1 ∧ Cond.instanceMethod q.1 ∈ tables_1
theorem lw_p0 : lw_okq (⟨"PotAndFine$Text", "wasFound", "(I)Z"⟩, 5) := ⟨⟨by decide +kernel, by decide +kernel⟩, List.mem_of_getElem? (i := 27) (by decide +kernel), List.mem_of_getElem? (i := 370) (by decide +kernel), List.mem_of_getElem? (i := 371) (by decide +kernel)⟩
theorem lw_p1 : lw_okq (⟨"PotAndFine$Text", "scanNumber", "(LPotAndFine$Grammar;III)I"⟩, 5) := ⟨⟨by decide +kernel, by decide +kernel⟩, List.mem_of_getElem? (i := 27) (by decide +kernel), List.mem_of_getElem? (i := 374) (by decide +kernel), List.mem_of_getElem? (i := 375) (by decide +kernel)⟩
theorem lw_p2 : lw_okq (⟨"PotAndFine", "isPerson", "(I)Z"⟩, 10) := ⟨⟨by decide +kernel, by decide +kernel⟩, List.mem_of_getElem? (i := 19) (by decide +kernel), List.mem_of_getElem? (i := 409) (by decide +kernel), List.mem_of_getElem? (i := 410) (by decide +kernel)⟩
theorem lw_p3 : lw_okq (⟨"PotAndFine", "ran", "()LPotAndFine$Course;"⟩, 10) := ⟨⟨by decide +kernel, by decide +kernel⟩, List.mem_of_getElem? (i := 19) (by decide +kernel), List.mem_of_getElem? (i := 450) (by decide +kernel), List.mem_of_getElem? (i := 451) (by decide +kernel)⟩
theorem lw_p4 : lw_okq (⟨"PotAndFine$Course", "putAll", "(I)V"⟩, 10) := ⟨⟨by decide +kernel, by decide +kernel⟩, List.mem_of_getElem? (i := 156) (by decide +kernel), List.mem_of_getElem? (i := 458) (by decide +kernel), List.mem_of_getElem? (i := 459) (by decide +kernel)⟩
theorem lw_p5 : lw_okq (⟨"PotAndFine$Course", "usualPut", "(II)I"⟩, 10) := ⟨⟨by decide +kernel, by decide +kernel⟩, List.mem_of_getElem? (i := 156) (by decide +kernel), List.mem_of_getElem? (i := 464) (by decide +kernel), List.mem_of_getElem? (i := 465) (by decide +kernel)⟩
theorem lw_p6 : lw_okq (⟨"PotAndFine$Course", "meanOfOthersBefore", "(II)I"⟩, 10) := ⟨⟨by decide +kernel, by decide +kernel⟩, List.mem_of_getElem? (i := 156) (by decide +kernel), List.mem_of_getElem? (i := 468) (by decide +kernel), List.mem_of_getElem? (i := 469) (by decide +kernel)⟩
theorem lw_p7 : lw_okq (⟨"PotAndFine$Course", "paidToFine", "(II)I"⟩, 10) := ⟨⟨by decide +kernel, by decide +kernel⟩, List.mem_of_getElem? (i := 156) (by decide +kernel), List.mem_of_getElem? (i := 475) (by decide +kernel), List.mem_of_getElem? (i := 476) (by decide +kernel)⟩
theorem lw_p8 : lw_okq (⟨"PotAndFine$Course", "lookAt", "(III)V"⟩, 10) := ⟨⟨by decide +kernel, by decide +kernel⟩, List.mem_of_getElem? (i := 156) (by decide +kernel), List.mem_of_getElem? (i := 484) (by decide +kernel), List.mem_of_getElem? (i := 485) (by decide +kernel)⟩
theorem lw_p9 : lw_okq (⟨"PotAndFine$Course", "payAll", "(I)V"⟩, 10) := ⟨⟨by decide +kernel, by decide +kernel⟩, List.mem_of_getElem? (i := 156) (by decide +kernel), List.mem_of_getElem? (i := 488) (by decide +kernel), List.mem_of_getElem? (i := 489) (by decide +kernel)⟩
theorem lw_p10 : lw_okq (⟨"PotAndFine$Course", "dueFrom", "(III)I"⟩, 10) := ⟨⟨by decide +kernel, by decide +kernel⟩, List.mem_of_getElem? (i := 156) (by decide +kernel), List.mem_of_getElem? (i := 492) (by decide +kernel), List.mem_of_getElem? (i := 493) (by decide +kernel)⟩
theorem lw_p11 : lw_okq (⟨"PotAndFine$Course", "byAnger", "(II)I"⟩, 10) := ⟨⟨by decide +kernel, by decide +kernel⟩, List.mem_of_getElem? (i := 156) (by decide +kernel), List.mem_of_getElem? (i := 496) (by decide +kernel), List.mem_of_getElem? (i := 497) (by decide +kernel)⟩
theorem lw_p12 : lw_okq (⟨"PotAndFine$Course", "greatestBeside", "(I)I"⟩, 10) := ⟨⟨by decide +kernel, by decide +kernel⟩, List.mem_of_getElem? (i := 156) (by decide +kernel), List.mem_of_getElem? (i := 500) (by decide +kernel), List.mem_of_getElem? (i := 501) (by decide +kernel)⟩
theorem lw_p13 : lw_okq (⟨"PotAndFine$Course", "settleAll", "(I)V"⟩, 10) := ⟨⟨by decide +kernel, by decide +kernel⟩, List.mem_of_getElem? (i := 156) (by decide +kernel), List.mem_of_getElem? (i := 504) (by decide +kernel), List.mem_of_getElem? (i := 505) (by decide +kernel)⟩
theorem lw_p14 : lw_okq (⟨"PotAndFine$Course", "paidBy", "(II)I"⟩, 10) := ⟨⟨by decide +kernel, by decide +kernel⟩, List.mem_of_getElem? (i := 156) (by decide +kernel), List.mem_of_getElem? (i := 508) (by decide +kernel), List.mem_of_getElem? (i := 509) (by decide +kernel)⟩
theorem lw_p15 : lw_okq (⟨"PotAndFine$Course", "lossBetween", "(II)I"⟩, 10) := ⟨⟨by decide +kernel, by decide +kernel⟩, List.mem_of_getElem? (i := 156) (by decide +kernel), List.mem_of_getElem? (i := 512) (by decide +kernel), List.mem_of_getElem? (i := 513) (by decide +kernel)⟩
def lw_privs_1 : List (MethodName × Nat) := [(⟨"PotAndFine$Text", "wasFound", "(I)Z"⟩, 5), (⟨"PotAndFine$Text", "scanNumber", "(LPotAndFine$Grammar;III)I"⟩, 5), (⟨"PotAndFine", "isPerson", "(I)Z"⟩, 10), (⟨"PotAndFine", "ran", "()LPotAndFine$Course;"⟩, 10), (⟨"PotAndFine$Course", "putAll", "(I)V"⟩, 10), (⟨"PotAndFine$Course", "usualPut", "(II)I"⟩, 10), (⟨"PotAndFine$Course", "meanOfOthersBefore", "(II)I"⟩, 10), (⟨"PotAndFine$Course", "paidToFine", "(II)I"⟩, 10), (⟨"PotAndFine$Course", "lookAt", "(III)V"⟩, 10), (⟨"PotAndFine$Course", "payAll", "(I)V"⟩, 10), (⟨"PotAndFine$Course", "dueFrom", "(III)I"⟩, 10), (⟨"PotAndFine$Course", "byAnger", "(II)I"⟩, 10), (⟨"PotAndFine$Course", "greatestBeside", "(I)I"⟩, 10), (⟨"PotAndFine$Course", "settleAll", "(I)V"⟩, 10), (⟨"PotAndFine$Course", "paidBy", "(II)I"⟩, 10), (⟨"PotAndFine$Course", "lossBetween", "(II)I"⟩, 10)]
theorem lw_r1 : ∀ q ∈ lw_privs_1, lw_okq q := List.forall_mem_cons.mpr ⟨lw_p0, List.forall_mem_cons.mpr ⟨lw_p1, List.forall_mem_cons.mpr ⟨lw_p2, List.forall_mem_cons.mpr ⟨lw_p3, List.forall_mem_cons.mpr ⟨lw_p4, List.forall_mem_cons.mpr ⟨lw_p5, List.forall_mem_cons.mpr ⟨lw_p6, List.forall_mem_cons.mpr ⟨lw_p7, List.forall_mem_cons.mpr ⟨lw_p8, List.forall_mem_cons.mpr ⟨lw_p9, List.forall_mem_cons.mpr ⟨lw_p10, List.forall_mem_cons.mpr ⟨lw_p11, List.forall_mem_cons.mpr ⟨lw_p12, List.forall_mem_cons.mpr ⟨lw_p13, List.forall_mem_cons.mpr ⟨lw_p14, List.forall_mem_cons.mpr ⟨lw_p15, fun _ h => absurd h List.not_mem_nil⟩⟩⟩⟩⟩⟩⟩⟩⟩⟩⟩⟩⟩⟩⟩⟩
theorem lw_p16 : lw_okq (⟨"PotAndFine$Course", "gotFromPot", "(I)J"⟩, 10) := ⟨⟨by decide +kernel, by decide +kernel⟩, List.mem_of_getElem? (i := 156) (by decide +kernel), List.mem_of_getElem? (i := 516) (by decide +kernel), List.mem_of_getElem? (i := 517) (by decide +kernel)⟩
theorem lw_p17 : lw_okq (⟨"PotAndFine", "ranWithFine", "(I)LPotAndFine$Course;"⟩, 10) := ⟨⟨by decide +kernel, by decide +kernel⟩, List.mem_of_getElem? (i := 19) (by decide +kernel), List.mem_of_getElem? (i := 545) (by decide +kernel), List.mem_of_getElem? (i := 546) (by decide +kernel)⟩
theorem lw_p18 : lw_okq (⟨"PotAndFine", "heldIfLedBy", "(I)J"⟩, 10) := ⟨⟨by decide +kernel, by decide +kernel⟩, List.mem_of_getElem? (i := 19) (by decide +kernel), List.mem_of_getElem? (i := 581) (by decide +kernel), List.mem_of_getElem? (i := 582) (by decide +kernel)⟩
theorem lw_p19 : lw_okq (⟨"PotAndFine", "heldIfOut", "(I)J"⟩, 10) := ⟨⟨by decide +kernel, by decide +kernel⟩, List.mem_of_getElem? (i := 19) (by decide +kernel), List.mem_of_getElem? (i := 596) (by decide +kernel), List.mem_of_getElem? (i := 597) (by decide +kernel)⟩
theorem lw_p20 : lw_okq (⟨"PotAndFine", "canBeHalved", "()Z"⟩, 10) := ⟨⟨by decide +kernel, by decide +kernel⟩, List.mem_of_getElem? (i := 19) (by decide +kernel), List.mem_of_getElem? (i := 609) (by decide +kernel), List.mem_of_getElem? (i := 610) (by decide +kernel)⟩
theorem lw_p21 : lw_okq (⟨"PotAndFine", "isHalf", "(I)Z"⟩, 10) := ⟨⟨by decide +kernel, by decide +kernel⟩, List.mem_of_getElem? (i := 19) (by decide +kernel), List.mem_of_getElem? (i := 613) (by decide +kernel), List.mem_of_getElem? (i := 614) (by decide +kernel)⟩
theorem lw_p22 : lw_okq (⟨"PotAndFine", "heldByHalves", "(I)J"⟩, 10) := ⟨⟨by decide +kernel, by decide +kernel⟩, List.mem_of_getElem? (i := 19) (by decide +kernel), List.mem_of_getElem? (i := 623) (by decide +kernel), List.mem_of_getElem? (i := 624) (by decide +kernel)⟩
theorem lw_p23 : lw_okq (⟨"PotAndFine$Book", "meanOfOthers", "(II)I"⟩, 1) := ⟨⟨by decide +kernel, by decide +kernel⟩, List.mem_of_getElem? (i := 199) (by decide +kernel), List.mem_of_getElem? (i := 689) (by decide +kernel), List.mem_of_getElem? (i := 690) (by decide +kernel)⟩
theorem lw_p24 : lw_okq (⟨"PotAndFineModel", "clear", "()V"⟩, 31) := ⟨⟨by decide +kernel, by decide +kernel⟩, List.mem_of_getElem? (i := 757) (by decide +kernel), List.mem_of_getElem? (i := 763) (by decide +kernel), List.mem_of_getElem? (i := 764) (by decide +kernel)⟩
theorem lw_p25 : lw_okq (⟨"PotAndFineModel", "readGroup", "()I"⟩, 31) := ⟨⟨by decide +kernel, by decide +kernel⟩, List.mem_of_getElem? (i := 757) (by decide +kernel), List.mem_of_getElem? (i := 878) (by decide +kernel), List.mem_of_getElem? (i := 879) (by decide +kernel)⟩
theorem lw_p26 : lw_okq (⟨"PotAndFineModel", "two", "(II)I"⟩, 31) := ⟨⟨by decide +kernel, by decide +kernel⟩, List.mem_of_getElem? (i := 757) (by decide +kernel), List.mem_of_getElem? (i := 885) (by decide +kernel), List.mem_of_getElem? (i := 886) (by decide +kernel)⟩
theorem lw_p27 : lw_okq (⟨"PotAndFineModel", "figure", "(II)I"⟩, 31) := ⟨⟨by decide +kernel, by decide +kernel⟩, List.mem_of_getElem? (i := 757) (by decide +kernel), List.mem_of_getElem? (i := 889) (by decide +kernel), List.mem_of_getElem? (i := 890) (by decide +kernel)⟩
theorem lw_p28 : lw_okq (⟨"PotAndFineModel", "readRule", "()I"⟩, 31) := ⟨⟨by decide +kernel, by decide +kernel⟩, List.mem_of_getElem? (i := 757) (by decide +kernel), List.mem_of_getElem? (i := 895) (by decide +kernel), List.mem_of_getElem? (i := 896) (by decide +kernel)⟩
theorem lw_p29 : lw_okq (⟨"PotAndFineModel", "noPerson", "(I)Z"⟩, 31) := ⟨⟨by decide +kernel, by decide +kernel⟩, List.mem_of_getElem? (i := 757) (by decide +kernel), List.mem_of_getElem? (i := 915) (by decide +kernel), List.mem_of_getElem? (i := 916) (by decide +kernel)⟩
theorem lw_p30 : lw_okq (⟨"PotAndFineModel", "staying", "()I"⟩, 31) := ⟨⟨by decide +kernel, by decide +kernel⟩, List.mem_of_getElem? (i := 757) (by decide +kernel), List.mem_of_getElem? (i := 933) (by decide +kernel), List.mem_of_getElem? (i := 934) (by decide +kernel)⟩
theorem lw_p31 : lw_okq (⟨"PotAndFineModel", "runAll", "()V"⟩, 31) := ⟨⟨by decide +kernel, by decide +kernel⟩, List.mem_of_getElem? (i := 757) (by decide +kernel), List.mem_of_getElem? (i := 946) (by decide +kernel), List.mem_of_getElem? (i := 947) (by decide +kernel)⟩
def lw_privs_2 : List (MethodName × Nat) := [(⟨"PotAndFine$Course", "gotFromPot", "(I)J"⟩, 10), (⟨"PotAndFine", "ranWithFine", "(I)LPotAndFine$Course;"⟩, 10), (⟨"PotAndFine", "heldIfLedBy", "(I)J"⟩, 10), (⟨"PotAndFine", "heldIfOut", "(I)J"⟩, 10), (⟨"PotAndFine", "canBeHalved", "()Z"⟩, 10), (⟨"PotAndFine", "isHalf", "(I)Z"⟩, 10), (⟨"PotAndFine", "heldByHalves", "(I)J"⟩, 10), (⟨"PotAndFine$Book", "meanOfOthers", "(II)I"⟩, 1), (⟨"PotAndFineModel", "clear", "()V"⟩, 31), (⟨"PotAndFineModel", "readGroup", "()I"⟩, 31), (⟨"PotAndFineModel", "two", "(II)I"⟩, 31), (⟨"PotAndFineModel", "figure", "(II)I"⟩, 31), (⟨"PotAndFineModel", "readRule", "()I"⟩, 31), (⟨"PotAndFineModel", "noPerson", "(I)Z"⟩, 31), (⟨"PotAndFineModel", "staying", "()I"⟩, 31), (⟨"PotAndFineModel", "runAll", "()V"⟩, 31)]
theorem lw_r2 : ∀ q ∈ lw_privs_2, lw_okq q := List.forall_mem_cons.mpr ⟨lw_p16, List.forall_mem_cons.mpr ⟨lw_p17, List.forall_mem_cons.mpr ⟨lw_p18, List.forall_mem_cons.mpr ⟨lw_p19, List.forall_mem_cons.mpr ⟨lw_p20, List.forall_mem_cons.mpr ⟨lw_p21, List.forall_mem_cons.mpr ⟨lw_p22, List.forall_mem_cons.mpr ⟨lw_p23, List.forall_mem_cons.mpr ⟨lw_p24, List.forall_mem_cons.mpr ⟨lw_p25, List.forall_mem_cons.mpr ⟨lw_p26, List.forall_mem_cons.mpr ⟨lw_p27, List.forall_mem_cons.mpr ⟨lw_p28, List.forall_mem_cons.mpr ⟨lw_p29, List.forall_mem_cons.mpr ⟨lw_p30, List.forall_mem_cons.mpr ⟨lw_p31, fun _ h => absurd h List.not_mem_nil⟩⟩⟩⟩⟩⟩⟩⟩⟩⟩⟩⟩⟩⟩⟩⟩
theorem lw_p32 : lw_okq (⟨"PotAndFineModel", "run", "()V"⟩, 31) := ⟨⟨by decide +kernel, by decide +kernel⟩, List.mem_of_getElem? (i := 757) (by decide +kernel), List.mem_of_getElem? (i := 950) (by decide +kernel), List.mem_of_getElem? (i := 951) (by decide +kernel)⟩
theorem lw_p33 : lw_okq (⟨"PotAndFineModel", "isIn", "(II)Z"⟩, 31) := ⟨⟨by decide +kernel, by decide +kernel⟩, List.mem_of_getElem? (i := 757) (by decide +kernel), List.mem_of_getElem? (i := 954) (by decide +kernel), List.mem_of_getElem? (i := 955) (by decide +kernel)⟩
theorem lw_p34 : lw_okq (⟨"PotAndFineModel", "putOf", "(II)I"⟩, 31) := ⟨⟨by decide +kernel, by decide +kernel⟩, List.mem_of_getElem? (i := 757) (by decide +kernel), List.mem_of_getElem? (i := 958) (by decide +kernel), List.mem_of_getElem? (i := 959) (by decide +kernel)⟩
theorem lw_p35 : lw_okq (⟨"PotAndFineModel", "bound", "(I)I"⟩, 31) := ⟨⟨by decide +kernel, by decide +kernel⟩, List.mem_of_getElem? (i := 757) (by decide +kernel), List.mem_of_getElem? (i := 962) (by decide +kernel), List.mem_of_getElem? (i := 963) (by decide +kernel)⟩
theorem lw_p36 : lw_okq (⟨"PotAndFineModel", "meanOf", "(II)I"⟩, 31) := ⟨⟨by decide +kernel, by decide +kernel⟩, List.mem_of_getElem? (i := 757) (by decide +kernel), List.mem_of_getElem? (i := 966) (by decide +kernel), List.mem_of_getElem? (i := 967) (by decide +kernel)⟩
theorem lw_p37 : lw_okq (⟨"PotAndFineModel", "taken", "(II)I"⟩, 31) := ⟨⟨by decide +kernel, by decide +kernel⟩, List.mem_of_getElem? (i := 757) (by decide +kernel), List.mem_of_getElem? (i := 970) (by decide +kernel), List.mem_of_getElem? (i := 971) (by decide +kernel)⟩
theorem lw_p38 : lw_okq (⟨"PotAndFineModel", "layFines", "(I)V"⟩, 31) := ⟨⟨by decide +kernel, by decide +kernel⟩, List.mem_of_getElem? (i := 757) (by decide +kernel), List.mem_of_getElem? (i := 974) (by decide +kernel), List.mem_of_getElem? (i := 975) (by decide +kernel)⟩
theorem lw_p39 : lw_okq (⟨"PotAndFineModel", "layBy", "(III)V"⟩, 31) := ⟨⟨by decide +kernel, by decide +kernel⟩, List.mem_of_getElem? (i := 757) (by decide +kernel), List.mem_of_getElem? (i := 978) (by decide +kernel), List.mem_of_getElem? (i := 979) (by decide +kernel)⟩
theorem lw_p40 : lw_okq (⟨"PotAndFineModel", "gets", "(II)J"⟩, 31) := ⟨⟨by decide +kernel, by decide +kernel⟩, List.mem_of_getElem? (i := 757) (by decide +kernel), List.mem_of_getElem? (i := 985) (by decide +kernel), List.mem_of_getElem? (i := 986) (by decide +kernel)⟩
theorem lw_p41 : lw_okq (⟨"PotAndFineModel", "inMany", "(I)I"⟩, 31) := ⟨⟨by decide +kernel, by decide +kernel⟩, List.mem_of_getElem? (i := 757) (by decide +kernel), List.mem_of_getElem? (i := 990) (by decide +kernel), List.mem_of_getElem? (i := 991) (by decide +kernel)⟩
theorem lw_p42 : lw_okq (⟨"PotAndFineModel", "potOf", "(I)I"⟩, 31) := ⟨⟨by decide +kernel, by decide +kernel⟩, List.mem_of_getElem? (i := 757) (by decide +kernel), List.mem_of_getElem? (i := 1003) (by decide +kernel), List.mem_of_getElem? (i := 1004) (by decide +kernel)⟩
theorem lw_p43 : lw_okq (⟨"PotAndFineModel", "runBoth", "()V"⟩, 31) := ⟨⟨by decide +kernel, by decide +kernel⟩, List.mem_of_getElem? (i := 757) (by decide +kernel), List.mem_of_getElem? (i := 1021) (by decide +kernel), List.mem_of_getElem? (i := 1022) (by decide +kernel)⟩
theorem lw_p44 : lw_okq (⟨"PotAndFineModel", "otherAt", "(I)J"⟩, 31) := ⟨⟨by decide +kernel, by decide +kernel⟩, List.mem_of_getElem? (i := 757) (by decide +kernel), List.mem_of_getElem? (i := 1025) (by decide +kernel), List.mem_of_getElem? (i := 1026) (by decide +kernel)⟩
theorem lw_p45 : lw_okq (⟨"PotAndFineModel", "sumAt", "(I)J"⟩, 31) := ⟨⟨by decide +kernel, by decide +kernel⟩, List.mem_of_getElem? (i := 757) (by decide +kernel), List.mem_of_getElem? (i := 1029) (by decide +kernel), List.mem_of_getElem? (i := 1030) (by decide +kernel)⟩
theorem lw_p46 : lw_okq (⟨"PotAndFineModel", "findLeader", "()I"⟩, 31) := ⟨⟨by decide +kernel, by decide +kernel⟩, List.mem_of_getElem? (i := 757) (by decide +kernel), List.mem_of_getElem? (i := 1057) (by decide +kernel), List.mem_of_getElem? (i := 1058) (by decide +kernel)⟩
theorem lw_p47 : lw_okq (⟨"PotAndFineModel", "leadBy", "(I)J"⟩, 31) := ⟨⟨by decide +kernel, by decide +kernel⟩, List.mem_of_getElem? (i := 757) (by decide +kernel), List.mem_of_getElem? (i := 1061) (by decide +kernel), List.mem_of_getElem? (i := 1062) (by decide +kernel)⟩
def lw_privs_3 : List (MethodName × Nat) := [(⟨"PotAndFineModel", "run", "()V"⟩, 31), (⟨"PotAndFineModel", "isIn", "(II)Z"⟩, 31), (⟨"PotAndFineModel", "putOf", "(II)I"⟩, 31), (⟨"PotAndFineModel", "bound", "(I)I"⟩, 31), (⟨"PotAndFineModel", "meanOf", "(II)I"⟩, 31), (⟨"PotAndFineModel", "taken", "(II)I"⟩, 31), (⟨"PotAndFineModel", "layFines", "(I)V"⟩, 31), (⟨"PotAndFineModel", "layBy", "(III)V"⟩, 31), (⟨"PotAndFineModel", "gets", "(II)J"⟩, 31), (⟨"PotAndFineModel", "inMany", "(I)I"⟩, 31), (⟨"PotAndFineModel", "potOf", "(I)I"⟩, 31), (⟨"PotAndFineModel", "runBoth", "()V"⟩, 31), (⟨"PotAndFineModel", "otherAt", "(I)J"⟩, 31), (⟨"PotAndFineModel", "sumAt", "(I)J"⟩, 31), (⟨"PotAndFineModel", "findLeader", "()I"⟩, 31), (⟨"PotAndFineModel", "leadBy", "(I)J"⟩, 31)]
theorem lw_r3 : ∀ q ∈ lw_privs_3, lw_okq q := List.forall_mem_cons.mpr ⟨lw_p32, List.forall_mem_cons.mpr ⟨lw_p33, List.forall_mem_cons.mpr ⟨lw_p34, List.forall_mem_cons.mpr ⟨lw_p35, List.forall_mem_cons.mpr ⟨lw_p36, List.forall_mem_cons.mpr ⟨lw_p37, List.forall_mem_cons.mpr ⟨lw_p38, List.forall_mem_cons.mpr ⟨lw_p39, List.forall_mem_cons.mpr ⟨lw_p40, List.forall_mem_cons.mpr ⟨lw_p41, List.forall_mem_cons.mpr ⟨lw_p42, List.forall_mem_cons.mpr ⟨lw_p43, List.forall_mem_cons.mpr ⟨lw_p44, List.forall_mem_cons.mpr ⟨lw_p45, List.forall_mem_cons.mpr ⟨lw_p46, List.forall_mem_cons.mpr ⟨lw_p47, fun _ h => absurd h List.not_mem_nil⟩⟩⟩⟩⟩⟩⟩⟩⟩⟩⟩⟩⟩⟩⟩⟩
theorem lw_p48 : lw_okq (⟨"PotAndFineModel", "isFew", "(I)Z"⟩, 31) := ⟨⟨by decide +kernel, by decide +kernel⟩, List.mem_of_getElem? (i := 757) (by decide +kernel), List.mem_of_getElem? (i := 1073) (by decide +kernel), List.mem_of_getElem? (i := 1074) (by decide +kernel)⟩
theorem lw_p49 : lw_okq (⟨"PotAndFineModel", "withoutOne", "(I)J"⟩, 31) := ⟨⟨by decide +kernel, by decide +kernel⟩, List.mem_of_getElem? (i := 757) (by decide +kernel), List.mem_of_getElem? (i := 1077) (by decide +kernel), List.mem_of_getElem? (i := 1078) (by decide +kernel)⟩
theorem lw_p50 : lw_okq (⟨"PotAndFineModel", "noHalves", "()Z"⟩, 31) := ⟨⟨by decide +kernel, by decide +kernel⟩, List.mem_of_getElem? (i := 757) (by decide +kernel), List.mem_of_getElem? (i := 1090) (by decide +kernel), List.mem_of_getElem? (i := 1091) (by decide +kernel)⟩
theorem lw_p51 : lw_okq (⟨"PotAndFineModel", "findPart", "()I"⟩, 31) := ⟨⟨by decide +kernel, by decide +kernel⟩, List.mem_of_getElem? (i := 757) (by decide +kernel), List.mem_of_getElem? (i := 1094) (by decide +kernel), List.mem_of_getElem? (i := 1095) (by decide +kernel)⟩
theorem lw_p52 : lw_okq (⟨"PotAndFineModel", "partBy", "(I)J"⟩, 31) := ⟨⟨by decide +kernel, by decide +kernel⟩, List.mem_of_getElem? (i := 757) (by decide +kernel), List.mem_of_getElem? (i := 1101) (by decide +kernel), List.mem_of_getElem? (i := 1102) (by decide +kernel)⟩
theorem lw_p53 : lw_okq (⟨"PotAndFineModel", "halfBy", "(I)J"⟩, 31) := ⟨⟨by decide +kernel, by decide +kernel⟩, List.mem_of_getElem? (i := 757) (by decide +kernel), List.mem_of_getElem? (i := 1105) (by decide +kernel), List.mem_of_getElem? (i := 1106) (by decide +kernel)⟩
theorem lw_p54 : lw_okq (⟨"PotAndFineModel", "replyOf", "(II)I"⟩, 31) := ⟨⟨by decide +kernel, by decide +kernel⟩, List.mem_of_getElem? (i := 757) (by decide +kernel), List.mem_of_getElem? (i := 1117) (by decide +kernel), List.mem_of_getElem? (i := 1118) (by decide +kernel)⟩
theorem lw_p55 : lw_okq (⟨"PotAndFineModel", "gainBy", "(III)J"⟩, 31) := ⟨⟨by decide +kernel, by decide +kernel⟩, List.mem_of_getElem? (i := 757) (by decide +kernel), List.mem_of_getElem? (i := 1121) (by decide +kernel), List.mem_of_getElem? (i := 1122) (by decide +kernel)⟩
theorem lw_p56 : lw_okq (⟨"PotAndFineModel", "wouldBe", "(III)I"⟩, 31) := ⟨⟨by decide +kernel, by decide +kernel⟩, List.mem_of_getElem? (i := 757) (by decide +kernel), List.mem_of_getElem? (i := 1155) (by decide +kernel), List.mem_of_getElem? (i := 1156) (by decide +kernel)⟩
theorem lw_p57 : lw_okq (⟨"PotAndFineModel", "slipsOf", "(II)I"⟩, 31) := ⟨⟨by decide +kernel, by decide +kernel⟩, List.mem_of_getElem? (i := 757) (by decide +kernel), List.mem_of_getElem? (i := 1163) (by decide +kernel), List.mem_of_getElem? (i := 1164) (by decide +kernel)⟩
theorem lw_p58 : lw_okq (⟨"PotAndFineModel", "toldMany", "()I"⟩, 31) := ⟨⟨by decide +kernel, by decide +kernel⟩, List.mem_of_getElem? (i := 757) (by decide +kernel), List.mem_of_getElem? (i := 1183) (by decide +kernel), List.mem_of_getElem? (i := 1184) (by decide +kernel)⟩
def lw_privs_4 : List (MethodName × Nat) := [(⟨"PotAndFineModel", "isFew", "(I)Z"⟩, 31), (⟨"PotAndFineModel", "withoutOne", "(I)J"⟩, 31), (⟨"PotAndFineModel", "noHalves", "()Z"⟩, 31), (⟨"PotAndFineModel", "findPart", "()I"⟩, 31), (⟨"PotAndFineModel", "partBy", "(I)J"⟩, 31), (⟨"PotAndFineModel", "halfBy", "(I)J"⟩, 31), (⟨"PotAndFineModel", "replyOf", "(II)I"⟩, 31), (⟨"PotAndFineModel", "gainBy", "(III)J"⟩, 31), (⟨"PotAndFineModel", "wouldBe", "(III)I"⟩, 31), (⟨"PotAndFineModel", "slipsOf", "(II)I"⟩, 31), (⟨"PotAndFineModel", "toldMany", "()I"⟩, 31)]
theorem lw_r4 : ∀ q ∈ lw_privs_4, lw_okq q := List.forall_mem_cons.mpr ⟨lw_p48, List.forall_mem_cons.mpr ⟨lw_p49, List.forall_mem_cons.mpr ⟨lw_p50, List.forall_mem_cons.mpr ⟨lw_p51, List.forall_mem_cons.mpr ⟨lw_p52, List.forall_mem_cons.mpr ⟨lw_p53, List.forall_mem_cons.mpr ⟨lw_p54, List.forall_mem_cons.mpr ⟨lw_p55, List.forall_mem_cons.mpr ⟨lw_p56, List.forall_mem_cons.mpr ⟨lw_p57, List.forall_mem_cons.mpr ⟨lw_p58, fun _ h => absurd h List.not_mem_nil⟩⟩⟩⟩⟩⟩⟩⟩⟩⟩⟩
def lw_privs : List (MethodName × Nat) := lw_privs_1 ++ (lw_privs_2 ++ (lw_privs_3 ++ (lw_privs_4)))
def lw_tbl : List Cond := k2_sels lw_privs ++ tables_1
theorem lw_privs_ok : ∀ q ∈ lw_privs, lw_okq q := by
  show ∀ q ∈ lw_privs_1 ++ (lw_privs_2 ++ (lw_privs_3 ++ (lw_privs_4))), lw_okq q
  exact List.forall_mem_append.mpr ⟨lw_r1, List.forall_mem_append.mpr ⟨lw_r2, List.forall_mem_append.mpr ⟨lw_r3, lw_r4⟩⟩⟩
end
section
/-! THE SMALL MACHINE: a pure picture of bytecode over a heap by places -/
/-- code, a, b, an int, a long, whether it is a cut, the next place, a switch's targets, erased locals -/
abbrev mOp : Type := Nat × Nat × Nat × Int32 × Int64 × Nat × Nat × List Nat × List Nat
/-- kind, class or length, references -/
abbrev mSC : Type := Nat × Nat × List Nat
abbrev mMI : Type := Nat → Nat → Int32
abbrev mMJ : Type := Nat → Nat → Int64
/-- shape, ints, longs, cells made, slots made -/
abbrev mHp : Type := List mSC × mMI × mMJ × Nat × Nat
/-- method, place in its code, locals, stack, heap -/
abbrev mCf : Type := Nat × Nat × List (Option Value) × List Value × mHp
abbrev mRs : Type := Option Value × mHp
abbrev mDc : Type := (q : Prop) ×' Decidable q
/-- what one step says: an end; cases with a rest; a call that answers int, long, nothing or a known reference; a maker's call -/
abbrev mSh : Type := Option mRs ⊕ (List (mDc × mCf) × Option mCf) ⊕ (mCf × (Int32 → mMI → mMJ → mCf)) ⊕ (mCf × (Int64 → mMI → mMJ → mCf)) ⊕ (mCf × Nat × (mMI → mMJ → mCf)) ⊕ (mCf × (mHp → mCf))
def mBI (o : Option mRs) (k : Int32 → mMI → mMJ → Option mRs) : Option mRs := match o with
  | some (some (.int v), h) => k v h.2.1 h.2.2.1
  | _ => none
def mBJ (o : Option mRs) (k : Int64 → mMI → mMJ → Option mRs) : Option mRs := match o with
  | some (some (.long v), h) => k v h.2.1 h.2.2.1
  | _ => none
/-- an answer that is nothing (w = 0) or the reference of place w - 1 -/
def mBR (o : Option mRs) (w : Nat) (k : mMI → mMJ → Option mRs) : Option mRs := match o with
  | some (none, h) => if w = 0 then k h.2.1 h.2.2.1 else none
  | some (some (.ref a), h) => if w = a + 1 then k h.2.1 h.2.2.1 else none
  | _ => none
def mBC (o : Option mRs) (k : mHp → Option mRs) : Option mRs := match o with
  | some (none, h) => k h
  | _ => none
def mIf (l : List (mDc × mCf)) (K : mCf → Option mRs) (z : Option mRs) : Option mRs := match l with
  | [] => z
  | q :: l => @ite _ q.1.1 q.1.2 (K q.2) (mIf l K z)
def mTo (d : Option mCf) (K : mCf → Option mRs) : Option mRs := match d with
  | none => none
  | some c => K c
def mApp (s : mSh) (K : mCf → Option mRs) : Option mRs := match s with
  | .inl o => o
  | .inr (.inl (l, d)) => mIf l K (mTo d K)
  | .inr (.inr (.inl (c, k))) => mBI (K c) (fun v M J => K (k v M J))
  | .inr (.inr (.inr (.inl (c, k)))) => mBJ (K c) (fun v M J => K (k v M J))
  | .inr (.inr (.inr (.inr (.inl (c, w, k))))) => mBR (K c) w (fun M J => K (k M J))
  | .inr (.inr (.inr (.inr (.inr (c, k))))) => mBC (K c) (fun h => K (k h))
def mNth {α : Type} (d : α) : List α → Nat → α
  | [], _ => d
  | x :: _, 0 => x
  | _ :: l, n + 1 => mNth d l n
def mPut {α : Type} : List α → Nat → α → List α
  | [], _, _ => []
  | _ :: l, 0, v => v :: l
  | x :: l, n + 1, v => x :: mPut l n v
def mUp (M : mMI) (k i : Nat) (v : Int32) : mMI := fun j => if j = k then upd (M k) i v else M j
def mUpJ (M : mMJ) (k i : Nat) (v : Int64) : mMJ := fun j => if j = k then vp_updL (M k) i v else M j
def mSet (M : mMI) (k : Nat) (f : Nat → Int32) : mMI := fun j => if j = k then f else M j
def mSetJ (M : mMJ) (k : Nat) (f : Nat → Int64) : mMJ := fun j => if j = k then f else M j
abbrev mIn (i : Int32) (n : Nat) : Prop := ¬ (i < 0 ∨ n ≤ i.toNatClampNeg)
def mDec (q : Prop) [d : Decidable q] : mDc := ⟨q, d⟩
def mErs : List Nat → List (Option Value) → List (Option Value)
  | [], L => L
  | a :: l, L => mErs l (mPut L a none)
def mCat2 (o : Option Value) : Bool := match o with
  | some (.long _) => true
  | some (.double _) => true
  | _ => false
/-- what a store into a place breaks is forgotten -/
def mBrk (L : List (Option Value)) (a : Nat) : List (Option Value) := match a with
  | 0 => L
  | b + 1 => match mCat2 (mNth none L b) with
    | true => mPut L b none
    | false => L
/-- a local is stored: a long takes two places -/
def mSto (L : List (Option Value)) (a : Nat) (v : Value) : List (Option Value) := match mCat2 (some v) with
  | true => mPut (mPut (mBrk L a) a (some v)) (a + 1) none
  | false => mPut (mBrk L a) a (some v)
def mArgs : List Value → List (Option Value)
  | [] => []
  | v :: l => match mCat2 (some v) with
    | true => some v :: none :: mArgs l
    | false => some v :: mArgs l
def mPad : Nat → List (Option Value) → List (Option Value)
  | 0, _ => []
  | n + 1, [] => none :: mPad n []
  | n + 1, x :: l => x :: mPad n l
/-- a list, its cells laid open -/
def mF {α : Type} {β : Type} : List α → (List α → β) → β
  | [], k => k []
  | x :: l, k => mF l (fun l => k (x :: l))
/-- the topmost n of a stack, the lowest of them first, and the rest -/
def mPop : Nat → List Value → List Value → Option (List Value × List Value)
  | 0, a, S => some (a, S)
  | n + 1, a, v :: S => mPop n (v :: a) S
  | _ + 1, _, [] => none
/-- at most n words -/
def mShort : List Value → Nat → Bool
  | [], _ => true
  | v :: l, n => match mCat2 (some v), n with
    | true, n + 2 => mShort l n
    | false, n + 1 => mShort l n
    | _, _ => false
/-- what lies at a place: of the world, or of what was there before -/
def mAt (cs sh : List mSC) (a : Nat) : mSC := if a < 1000 then mNth (9, 0, []) sh a else mNth (9, 0, []) cs (a - 1000)
def mRef (n : Nat) : Value := match n with
  | 0 => .null
  | a + 1 => .ref a
def mBin (b : Nat) (x y : Int32) : Int32 := match b with
  | 0 => x + y
  | 1 => x - y
  | 2 => x * y
  | 3 => x &&& y
  | 4 => x ||| y
  | 5 => x ^^^ y
  | 6 => x <<< (y &&& 31)
  | 7 => x >>> (y &&& 31)
  | _ => (x.toUInt32 >>> (y.toUInt32 &&& Int32.toUInt32 31)).toInt32
def mBinJ (b : Nat) (x y : Int64) : Int64 := match b with
  | 0 => x + y
  | 1 => x - y
  | 2 => x * y
  | 3 => x &&& y
  | 4 => x ||| y
  | _ => x ^^^ y
def mShJ (b : Nat) (x : Int64) (y : Int32) : Int64 := match b with
  | 0 => x <<< (y.toInt64 &&& 63)
  | 1 => x >>> (y.toInt64 &&& 63)
  | _ => (x.toUInt64 >>> (y.toInt64.toUInt64 &&& Int64.toUInt64 63)).toInt64
def mCv (b : Nat) (v : Value) : Option Value := match b, v with
  | 0, .int x => some (.long x.toInt64)
  | 1, .long x => some (.int x.toInt32)
  | 2, .int x => some (.int (x.toUInt32 % 65536).toInt32)
  | 3, .int x => some (.int x.toInt8.toInt32)
  | _, _ => none
def mCc (b : Nat) (x y : Int32) : mDc := match b with
  | 0 => mDec (x = y)
  | 1 => mDec (¬ x = y)
  | 2 => mDec (x < y)
  | 3 => mDec (y ≤ x)
  | 4 => mDec (y < x)
  | _ => mDec (x ≤ y)
/-- of a method: locals, answer (0 none, 1 int, 2 long, 3 reference, 4 boolean), plain, rank, receiver's class (9: none), cells, slots, the place that it answers + 1 -/
abbrev mInf : Type := Nat × Nat × Nat × Nat × Nat × Nat × Nat × Nat
/-- the program: a method's code by pieces of 32, what is said of it, what was there before -/
abbrev mPg : Type := (Nat → List (List mOp)) × (Nat → mInf) × List mSC
def mFe (P : mPg) (y i : Nat) : mOp := mNth (99, 0, 0, 0, 0, 0, 0, [], []) (mNth [] (P.1 y) (i / 32)) (i % 32)
def mNo : mSh := .inl none
def mGo (c : mCf) : mSh := .inr (.inl ([], some c))
def mCk (q : mDc) (c : mCf) : mSh := .inr (.inl ([(q, c)], none))
/-- a switch's cases -/
def mSw (x : Int32) (k y : Nat) (L : List (Option Value)) (S : List Value) (h : mHp) : List Nat → List (mDc × mCf)
  | [] => []
  | t :: l => (mDec (x = nI k), (y, t, L, S, h)) :: mSw x (k + 1) y L S h l
/-- a row of references: the cases of its index -/
def mRw (x : Int32) (k y i : Nat) (L : List (Option Value)) (S : List Value) (h : mHp) : List Nat → List (mDc × mCf)
  | [] => []
  | r :: l => (mDec (x = nI k), (y, i, L, mRef r :: S, h)) :: mRw x (k + 1) y i L S h l
/-- the same, when one is put there -/
def mRwS (x : Int32) (j : Nat) (c : Nat → mCf) : List Nat → List (mDc × mCf)
  | [] => []
  | _ :: l => (mDec (x = nI j), c j) :: mRwS x (j + 1) c l
def mGetf (c : mSC) (ci a b o y n : Nat) (L : List (Option Value)) (S : List Value) (sh : List mSC) (M : mMI) (J : mMJ) (nc ns : Nat) : mSh :=
  match c.1 with
  | 0 => match c.2.1 == ci with
    | true => match b with
      | 0 => mGo (y, n, L, .int (M o a) :: S, sh, M, J, nc, ns)
      | _ => match mNth 0 c.2.2 a with
        | 0 => mNo
        | r + 1 => mGo (y, n, L, .ref r :: S, sh, M, J, nc, ns)
    | false => mNo
  | 7 => match ci == 8 with
    | true => match b with
      | 0 => mGo (y, n, L, .int 0 :: S, sh, M, J, nc, ns)
      | _ => match mNth 0 c.2.2 a with
        | 0 => mNo
        | r + 1 => mGo (y, n, L, .ref r :: S, sh, M, J, nc, ns)
    | false => mNo
  | _ => mNo
/-- the length of a row of ints (b = 0), of booleans or bytes; of the script by a number of its own -/
def mLenI (b : Nat) (c : mSC) (M : mMI) : Option Nat := match b with
  | 0 => match c.1 with
    | 1 => some c.2.1
    | 5 => match c.2.1 with
      | 0 => some (M 999 0).toNatClampNeg
      | n + 1 => some (n + 1)
    | _ => none
  | _ => match c.1 with
    | 3 => some c.2.1
    | 6 => some c.2.1
    | _ => none
def mLn (c : mSC) (M : mMI) : Option Int32 := match c.1 with
  | 1 => some (Int32.ofNat c.2.1)
  | 6 => some (Int32.ofNat c.2.1)
  | 5 => match c.2.1 with
    | 0 => some (M 999 0)
    | n + 1 => some (Int32.ofNat (n + 1))
  | _ => none
/-- whether a call's receiver is of the method's class -/
def mRcv (cs sh : List mSC) (c : Nat) (args : List Value) : Bool := match c with
  | 9 => true
  | 8 => match args with
    | .ref a :: _ => (mAt cs sh a).1 == 7
    | _ => false
  | c => match args with
    | .ref a :: _ => (mAt cs sh a).1 == 0 && ((mAt cs sh a).2.1 == c && Nat.blt a 999)
    | _ => false
def mEnt (P : mPg) (y : Nat) (args : List Value) (sh : List mSC) (M : mMI) (J : mMJ) : mCf := (y, 0, mPad (P.2.1 y).1 (mArgs args), [], sh, M, J, 0, 0)
/-- all references are below n, or were there before -/
def mNrO (n : Nat) : List (Option Value) → Bool
  | [] => true
  | some (.ref k) :: l => (Nat.blt k n || Nat.ble 999 k) && mNrO n l
  | _ :: l => mNrO n l
def mNrS (n : Nat) : List Value → Bool
  | [] => true
  | .ref k :: l => (Nat.blt k n || Nat.ble 999 k) && mNrS n l
  | _ :: l => mNrS n l
def mNrR (n : Nat) : List Nat → Bool
  | [] => true
  | r :: l => (Nat.ble r n || Nat.ble 1000 r) && mNrR n l
def mNrH (n : Nat) : List mSC → Bool
  | [] => true
  | c :: l => mNrR n c.2.2 && mNrH n l
def mCallK (P : mPg) (z y n : Nat) (L : List (Option Value)) (A S : List Value) (sh : List mSC) (M : mMI) (J : mMJ) (nc ns : Nat) : mSh :=
  match (P.2.1 z).2.2.1 with
    | 0 => match (P.2.1 y).2.2.1, (Nat.ble (nc + (P.2.1 z).2.2.2.2.2.1) (P.2.1 y).2.2.2.2.2.1 && Nat.ble (ns + (P.2.1 z).2.2.2.2.2.2.1) (P.2.1 y).2.2.2.2.2.2.1) && (mNrO sh.length L && mNrS sh.length S) with
      | 0, true => .inr (.inr (.inr (.inr (.inr (mEnt P z A sh M J, fun g => (y, n, L, S, g.1, g.2.1, g.2.2.1, nc + (P.2.1 z).2.2.2.2.2.1, ns + (P.2.1 z).2.2.2.2.2.2.1))))))
      | _, _ => mNo
    | _ => match (P.2.1 z).2.1 with
      | 0 => .inr (.inr (.inr (.inr (.inl (mEnt P z A sh M J, 0, fun M J => (y, n, L, S, sh, M, J, nc, ns))))))
      | 2 => .inr (.inr (.inr (.inl (mEnt P z A sh M J, fun v M J => (y, n, L, .long v :: S, sh, M, J, nc, ns)))))
      | 3 => .inr (.inr (.inr (.inr (.inl (mEnt P z A sh M J, (P.2.1 z).2.2.2.2.2.2.2, fun M J => (y, n, L, mRef (P.2.1 z).2.2.2.2.2.2.2 :: S, sh, M, J, nc, ns))))))
      | _ => .inr (.inr (.inl (mEnt P z A sh M J, fun v M J => (y, n, L, .int v :: S, sh, M, J, nc, ns))))
def mCall (P : mPg) (z w y n : Nat) (L : List (Option Value)) (S : List Value) (sh : List mSC) (M : mMI) (J : mMJ) (nc ns : Nat) : mSh :=
  match Nat.blt (P.2.1 z).2.2.2.1 (P.2.1 y).2.2.2.1, mPop w [] S with
  | true, some (A, S) => match mShort S 8 && (mRcv P.2.2 sh (P.2.1 z).2.2.2.2.1 A && Nat.ble (mArgs A).length (P.2.1 z).1) with
    | true => mCallK P z y n L A S sh M J nc ns
    | false => mNo
  | _, _ => mNo
def mZ (v : Int32) (h : mHp) : Option mRs := if v = 0 then some (some (.int 0), h) else if v = 1 then some (some (.int 1), h) else none
def mRet (r : Nat) (S : List Value) (h : mHp) : Option mRs := match r, S with
  | 0, [] => some (none, h)
  | 1, [.int v] => some (some (.int v), h)
  | 2, [.long v] => some (some (.long v), h)
  | 3, [.ref v] => some (some (.ref v), h)
  | 4, [.int v] => mZ v h
  | 5, [.int v] => if v = 0 then some (some (.int 0), h) else none
  | _, _ => none
def mZeros : Nat → List Nat
  | 0 => []
  | n + 1 => 0 :: mZeros n
/-- a cell is made: arrays (kinds 1 ints, 2 longs, 3 booleans, w long), rows of references (4, w long), objects (0, class w), with m slots -/
def mNew (P : mPg) (y n k w m : Nat) (rs : List Nat) (L : List (Option Value)) (S : List Value) (sh : List mSC) (M : mMI) (J : mMJ) (nc ns : Nat) : mSh :=
  match (Nat.blt sh.length 900 && (Nat.ble (nc + 1) (P.2.1 y).2.2.2.2.2.1 && Nat.ble (ns + m) (P.2.1 y).2.2.2.2.2.2.1)) && (mNrO sh.length L && (mNrS sh.length S && mNrH sh.length sh)) with
  | true => mGo (y, n, L, .ref sh.length :: S, sh ++ [(k, w, rs)], mSet M sh.length (fun _ => 0), mSetJ J sh.length (fun _ => 0), nc + 1, ns + m)
  | false => mNo
def mLinkO (r : Nat) (c : mSC) (k : Nat) : mSC := (c.1, c.2.1, mPut c.2.2 k (r + 1))
/-- an object of the world -/
def mObj (cs sh : List mSC) (a ci : Nat) : Bool := Nat.blt a 999 && ((mAt cs sh a).1 == 0 && (mAt cs sh a).2.1 == ci)
/-- a row of references -/
def mRowR (c : mSC) : Bool := c.1 == 4 && (c.2.2.length == c.2.1 && Nat.blt c.2.1 65536)
def mTop (on y : Nat) (L : List (Option Value)) (v : Value) (S : List Value) (sh : List mSC) (M : mMI) (J : mMJ) (nc ns : Nat) : mSh := mGo (y, on, L, v :: S, sh, M, J, nc, ns)
def mMx (b : Nat) (x y : Int32) : Int32 := match b with
  | 0 => if x < y then y else x
  | _ => if y < x then y else x
def mMxJ (x y : Int64) : Int64 := if y < x then x else y
/-- whether a value is an int (0), a long (1), a reference (2) -/
def mTyp (b : Nat) (v : Value) : Bool := match b, v with
  | 0, .int _ => true
  | 1, .long _ => true
  | 2, .ref _ => true
  | _, _ => false
/-- one instruction of a plain kind -/
def mExec (P : mPg) (ok oa ob : Nat) (oc : Int32) (od : Int64) (on : Nat) (ol : List Nat) (y : Nat) (L : List (Option Value)) (S : List Value) (sh : List mSC) (M : mMI) (J : mMJ) (nc ns : Nat) : mSh := match ok with
  | 0 => mTop on y L (.int oc) S sh M J nc ns
  | 1 => mTop on y L (.long od) S sh M J nc ns
  | 2 => match mNth none L oa with
    | some v => match mTyp ob v with
      | true => mTop on y L v S sh M J nc ns
      | false => mNo
    | none => mNo
  | 3 => match S with
    | v :: S => match mTyp ob v with
      | true => mF (mSto L oa v) (fun L => mGo (y, on, L, S, sh, M, J, nc, ns))
      | false => mNo
    | _ => mNo
  | 4 => match mNth none L oa with
    | some (.int x) => mF (mPut L oa (some (.int (x + oc)))) (fun L => mGo (y, on, L, S, sh, M, J, nc, ns))
    | _ => mNo
  | 5 => match S with
    | .int v :: .int x :: S => mTop on y L (.int (mBin ob x v)) S sh M J nc ns
    | _ => mNo
  | 6 => match S with
    | .int v :: .int x :: S => mCk (mDec (¬ v = 0)) (y, on, L, .int (x / v) :: S, sh, M, J, nc, ns)
    | _ => mNo
  | 7 => match S with
    | .int v :: .int x :: S => mCk (mDec (¬ v = 0)) (y, on, L, .int (x - x / v * v) :: S, sh, M, J, nc, ns)
    | _ => mNo
  | 8 => match S with
    | .int x :: S => mTop on y L (.int (-x)) S sh M J nc ns
    | _ => mNo
  | 9 => match S with
    | .long v :: .long x :: S => mTop on y L (.long (mBinJ ob x v)) S sh M J nc ns
    | _ => mNo
  | 10 => match S with
    | .long v :: .long x :: S => mCk (mDec (¬ v = 0)) (y, on, L, .long (x / v) :: S, sh, M, J, nc, ns)
    | _ => mNo
  | 11 => match S with
    | .int v :: .long x :: S => mTop on y L (.long (mShJ ob x v)) S sh M J nc ns
    | _ => mNo
  | 12 => match S with
    | v :: S => match mCv ob v with
      | some w => mTop on y L w S sh M J nc ns
      | none => mNo
    | _ => mNo
  | 13 => match S with
    | .long v :: .long x :: S => mTop on y L (.int (lg_cmp x v)) S sh M J nc ns
    | _ => mNo
  | 14 => match S with
    | v :: S => match mCat2 (some v) with
      | false => mTop on y L v (v :: S) sh M J nc ns
      | true => mNo
    | _ => mNo
  | 15 => match S with
    | v :: S => match mCat2 (some v) with
      | false => mGo (y, on, L, S, sh, M, J, nc, ns)
      | true => mNo
    | _ => mNo
  | 16 => mGo (y, oa, L, S, sh, M, J, nc, ns)
  | 17 => match S with
    | .int x :: S => .inr (.inl ([(mCc ob x 0, (y, oa, L, S, sh, M, J, nc, ns))], some (y, on, L, S, sh, M, J, nc, ns)))
    | _ => mNo
  | 18 => match S with
    | .int v :: .int x :: S => .inr (.inl ([(mCc ob x v, (y, oa, L, S, sh, M, J, nc, ns))], some (y, on, L, S, sh, M, J, nc, ns)))
    | _ => mNo
  | 19 => match S with
    | .int x :: S => .inr (.inl (mSw x ob y L S (sh, M, J, nc, ns) ol, some (y, oa, L, S, sh, M, J, nc, ns)))
    | _ => mNo
  | 20 => match S with
    | .ref a :: S => mGetf (mAt P.2.2 sh a) (mNth 9 ol 0) oa ob a y on L S sh M J nc ns
    | _ => mNo
  | 21 => match S with
    | .int v :: .ref a :: S => match mObj P.2.2 sh a (mNth 9 ol 0) with
      | true => mGo (y, on, L, S, sh, mUp M a oa v, J, nc, ns)
      | false => mNo
    | _ => mNo
  | 22 => mTop on y L (.ref oa) S sh M J nc ns
  | 23 => match S with
    | .int x :: .ref a :: S => match mLenI ob (mAt P.2.2 sh a) M with
      | some n => mCk (mDec (mIn x n)) (y, on, L, .int (M a x.toNatClampNeg) :: S, sh, M, J, nc, ns)
      | none => mNo
    | _ => mNo
  | 24 => match S with
    | .int x :: .ref a :: S => match (mAt P.2.2 sh a).1 with
      | 2 => mCk (mDec (mIn x (mAt P.2.2 sh a).2.1)) (y, on, L, .long (J a x.toNatClampNeg) :: S, sh, M, J, nc, ns)
      | _ => mNo
    | _ => mNo
  | 25 => match S with
    | .int x :: .ref a :: S => match mRowR (mAt P.2.2 sh a) with
      | true => .inr (.inl (mRw x 0 y on L S (sh, M, J, nc, ns) (mAt P.2.2 sh a).2.2, none))
      | false => mNo
    | _ => mNo
  | 26 => match S with
    | .int v :: .int x :: .ref a :: S => match (mAt P.2.2 sh a).1 with
      | 1 => mCk (mDec (mIn x (mAt P.2.2 sh a).2.1)) (y, on, L, S, sh, mUp M a x.toNatClampNeg v, J, nc, ns)
      | _ => mNo
    | _ => mNo
  | 27 => match S with
    | .long v :: .int x :: .ref a :: S => match (mAt P.2.2 sh a).1 with
      | 2 => mCk (mDec (mIn x (mAt P.2.2 sh a).2.1)) (y, on, L, S, sh, M, mUpJ J a x.toNatClampNeg v, nc, ns)
      | _ => mNo
    | _ => mNo
  | 29 => match S with
    | .ref a :: S => match mLn (mAt P.2.2 sh a) M with
      | some n => mTop on y L (.int n) S sh M J nc ns
      | none => mNo
    | _ => mNo
  | 33 => mCall P oa ob y on L S sh M J nc ns
  | 34 => .inl (mRet (P.2.1 y).2.1 S (sh, M, J, nc, ns))
  | 35 => match S with
    | .int n :: .int dp :: .ref d :: .int sp :: .ref a :: S => match (((mAt P.2.2 sh a).1 == 1 || ((mAt P.2.2 sh a).1 == 5 && Nat.blt 0 (mAt P.2.2 sh a).2.1)) && ((mAt P.2.2 sh d).1 == 1 && !(a == d))) && mShort S 8 with
      | true => mCk (mDec ((dp = 0 ∧ sp = 0) ∧ mIn n ((mAt P.2.2 sh a).2.1 + 1) ∧ mIn n ((mAt P.2.2 sh d).2.1 + 1))) (y, on, L, S, sh, mSet M d (va_cpy (M a) (M d) 0 0 n.toNatClampNeg), J, nc, ns)
      | false => mNo
    | _ => mNo
  | 37 => match S with
    | .ref _ :: S => match mShort S 8 with
      | true => mGo (y, on, L, S, sh, M, J, nc, ns)
      | false => mNo
    | _ => mNo
  | 39 => match S with
    | .ref a :: S => match mObj P.2.2 sh a (mNth 9 ol 0) with
      | true => mGo (y, on, L, S, sh, mUp M a oa oc, J, nc, ns)
      | false => mNo
    | _ => mNo
  | 40 => match S with
    | .int x :: .ref a :: S => match (mAt P.2.2 sh a).1 with
      | 3 => mCk (mDec (mIn x (mAt P.2.2 sh a).2.1)) (y, on, L, S, sh, mUp M a x.toNatClampNeg oc, J, nc, ns)
      | _ => mNo
    | _ => mNo
  | 41 => match S with
    | .int v :: .int x :: S => match ob, mShort S 8 with
      | 0, true => mTop on y L (.int (mMx 0 x v)) S sh M J nc ns
      | 1, true => mTop on y L (.int (mMx 1 x v)) S sh M J nc ns
      | _, _ => mNo
    | .long v :: .long x :: S => match ob, mShort S 8 with
      | 2, true => mTop on y L (.long (mMxJ x v)) S sh M J nc ns
      | _, _ => mNo
    | _ => mNo
  | _ => mNo
/-- one instruction of a maker: what it makes and links beside the plain ones -/
def mMake (P : mPg) (ok oa ob : Nat) (oc : Int32) (od : Int64) (on : Nat) (ol : List Nat) (y : Nat) (L : List (Option Value)) (S : List Value) (sh : List mSC) (M : mMI) (J : mMJ) (nc ns : Nat) : mSh := match ok with
  | 28 => match S with
    | .ref r :: .int x :: .ref a :: S => match mRowR (mAt P.2.2 sh a) && mObj P.2.2 sh r 3 with
      | true => .inr (.inl (mRwS x 0 (fun j => (y, on, L, S, mPut sh a (mLinkO r (mAt P.2.2 sh a) j), M, J, nc, ns)) (mAt P.2.2 sh a).2.2, none))
      | false => mNo
    | _ => mNo
  | 30 => mNew P y on 0 oa ob (mZeros ob) L S sh M J nc ns
  | 31 => match S with
    | .int n :: S => match decide (n = oc) with
      | true => mNew P y on oa ob ob [] L S sh M J nc ns
      | false => mNo
    | _ => mNo
  | 32 => match S with
    | .int n :: S => match decide (n = oc) with
      | true => mNew P y on 4 ob ob (mZeros ob) L S sh M J nc ns
      | false => mNo
    | _ => mNo
  | 36 => match S with
    | .ref r :: .ref a :: S => match mObj P.2.2 sh a (mNth 9 ol 0) && Nat.blt oa (mAt P.2.2 sh a).2.2.length with
      | true => mGo (y, on, L, S, mPut sh a (mLinkO r (mAt P.2.2 sh a) oa), M, J, nc, ns)
      | false => mNo
    | _ => mNo
  | 38 => match S with
    | .int v :: .ref a :: S => match mObj P.2.2 sh a (mNth 9 ol 0) with
      | true => mCk (mDec (v = 0 ∨ v = 1)) (y, on, L, S, sh, mUp M a oa v, J, nc, ns)
      | false => mNo
    | _ => mNo
  | _ => mExec P ok oa ob oc od on ol y L S sh M J nc ns
def mDo (P : mPg) (ok oa ob : Nat) (oc : Int32) (od : Int64) (on : Nat) (ol : List Nat) (y : Nat) (L : List (Option Value)) (S : List Value) (sh : List mSC) (M : mMI) (J : mMJ) (nc ns : Nat) : mSh := match (P.2.1 y).2.2.1 with
  | 0 => mMake P ok oa ob oc od on ol y L S sh M J nc ns
  | _ => mExec P ok oa ob oc od on ol y L S sh M J nc ns
def mStep (P : mPg) (c : mCf) : mSh := match c with
  | (y, i, L, S, sh, M, J, nc, ns) => match mFe P y i with
    | (ok, oa, ob, oc, od, _, on, ol, oe) => match oe with
      | [] => mDo P ok oa ob oc od on ol y L S sh M J nc ns
      | a :: l => mDo P ok oa ob oc od on ol y (mErs l (mPut L a none)) S sh M J nc ns
/-- what is dead at a cut is forgotten -/
def mClean (P : mPg) (c : mCf) : mCf := match c with
  | (y, i, L, h) => (y, i, mErs (mFe P y i).2.2.2.2.2.2.2.2 L, h)
def mEv (P : mPg) : Nat → mCf → Option mRs
  | 0, _ => none
  | n + 1, c => mApp (mStep P c) (mEv P n)
noncomputable def mOut (P : mPg) (c : mCf) : Option mRs := @dite (Option mRs) (∃ n r, mEv P n c = some r) (Classical.propDecidable _) (fun h => mEv P (Classical.choose h) c) (fun _ => none)
/-- whether a place of the code is a cut -/
def mCut (P : mPg) (c : mCf) : Bool := match c with
  | (y, i, _) => (mFe P y i).2.2.2.2.2.1 == 1
noncomputable def mDen (P : mPg) : Nat → mCf → Option mRs
  | 0, c => mOut P c
  | n + 1, c => mApp (mStep P c) (fun c => cond (mCut P c) (mOut P (mClean P c)) (mDen P n c))
end
section
/-! the small machine's answer is a fixed point -/
theorem mBI_some {o : Option mRs} {k : Int32 → mMI → mMJ → Option mRs} {r : mRs} (h : mBI o k = some r) : ∃ v g, o = some (some (.int v), g) ∧ k v g.2.1 g.2.2.1 = some r := by
  unfold mBI at h
  split at h
  · exact ⟨_, _, rfl, h⟩
  · cases h
theorem mBJ_some {o : Option mRs} {k : Int64 → mMI → mMJ → Option mRs} {r : mRs} (h : mBJ o k = some r) : ∃ v g, o = some (some (.long v), g) ∧ k v g.2.1 g.2.2.1 = some r := by
  unfold mBJ at h
  split at h
  · exact ⟨_, _, rfl, h⟩
  · cases h
theorem mBR_some {o : Option mRs} {w : Nat} {k : mMI → mMJ → Option mRs} {r : mRs} (h : mBR o w k = some r) : ∃ v g, o = some (v, g) ∧ ((v = none ∧ w = 0) ∨ ∃ a, v = some (.ref a) ∧ w = a + 1) ∧ k g.2.1 g.2.2.1 = some r := by
  unfold mBR at h
  split at h
  · split at h
    · exact ⟨_, _, rfl, Or.inl ⟨rfl, by assumption⟩, h⟩
    · cases h
  · split at h
    · exact ⟨_, _, rfl, Or.inr ⟨_, rfl, by assumption⟩, h⟩
    · cases h
  · cases h
theorem mBC_some {o : Option mRs} {k : mHp → Option mRs} {r : mRs} (h : mBC o k = some r) : ∃ g, o = some (none, g) ∧ k g = some r := by
  unfold mBC at h
  split at h
  · exact ⟨_, rfl, h⟩
  · cases h
theorem mApp_I (c : mCf) (k : Int32 → mMI → mMJ → mCf) (K : mCf → Option mRs) : mApp (.inr (.inr (.inl (c, k)))) K = mBI (K c) (fun v M J => K (k v M J)) := rfl
theorem mApp_J (c : mCf) (k : Int64 → mMI → mMJ → mCf) (K : mCf → Option mRs) : mApp (.inr (.inr (.inr (.inl (c, k))))) K = mBJ (K c) (fun v M J => K (k v M J)) := rfl
theorem mApp_R (c : mCf) (w : Nat) (k : mMI → mMJ → mCf) (K : mCf → Option mRs) : mApp (.inr (.inr (.inr (.inr (.inl (c, w, k)))))) K = mBR (K c) w (fun M J => K (k M J)) := rfl
theorem mApp_C (c : mCf) (k : mHp → mCf) (K : mCf → Option mRs) : mApp (.inr (.inr (.inr (.inr (.inr (c, k)))))) K = mBC (K c) (fun h => K (k h)) := rfl
theorem mBR_of {o : Option mRs} {w : Nat} {k : mMI → mMJ → Option mRs} {v : Option Value} {g : mHp} (h : o = some (v, g)) (hv : (v = none ∧ w = 0) ∨ ∃ a, v = some (.ref a) ∧ w = a + 1) : mBR o w k = k g.2.1 g.2.2.1 := by
  subst h
  rcases hv with ⟨rfl, rfl⟩ | ⟨a, rfl, rfl⟩
  · rfl
  · exact if_pos rfl
theorem mIf_le {K K2 : mCf → Option mRs} (hK : ∀ c r, K c = some r → K2 c = some r) {z z2 : Option mRs} {r : mRs} (hz : z = some r → z2 = some r) : ∀ (l : List (mDc × mCf)), mIf l K z = some r → mIf l K2 z2 = some r
  | [], h => hz h
  | q :: l, h => by
    by_cases hq : q.1.1
    · have e1 : mIf (q :: l) K z = K q.2 := @if_pos _ q.1.2 hq _ _ _
      have e2 : mIf (q :: l) K2 z2 = K2 q.2 := @if_pos _ q.1.2 hq _ _ _
      rw [e1] at h
      rw [e2]
      exact hK _ _ h
    · have e1 : mIf (q :: l) K z = mIf l K z := @if_neg _ q.1.2 hq _ _ _
      have e2 : mIf (q :: l) K2 z2 = mIf l K2 z2 := @if_neg _ q.1.2 hq _ _ _
      rw [e1] at h
      rw [e2]
      exact mIf_le hK hz l h
theorem mTo_le {K K2 : mCf → Option mRs} (hK : ∀ c r, K c = some r → K2 c = some r) {r : mRs} : ∀ {d : Option mCf}, mTo d K = some r → mTo d K2 = some r
  | none, h => h
  | some c, h => hK c r h
theorem mApp_le {K K2 : mCf → Option mRs} (hK : ∀ c r, K c = some r → K2 c = some r) (s : mSh) {r : mRs} (h : mApp s K = some r) : mApp s K2 = some r := by
  match s, h with
  | .inl o, h => exact h
  | .inr (.inl (l, d)), h => exact mIf_le hK (mTo_le hK) l h
  | .inr (.inr (.inl (c, k))), h =>
    rw [mApp_I] at h
    obtain ⟨v, g, h1, h2⟩ := mBI_some h
    rw [mApp_I]
    rw [hK _ _ h1]
    exact hK _ _ h2
  | .inr (.inr (.inr (.inl (c, k)))), h =>
    rw [mApp_J] at h
    obtain ⟨v, g, h1, h2⟩ := mBJ_some h
    rw [mApp_J]
    rw [hK _ _ h1]
    exact hK _ _ h2
  | .inr (.inr (.inr (.inr (.inl (c, w, k))))), h =>
    rw [mApp_R] at h
    obtain ⟨v, g, h1, hv, h2⟩ := mBR_some h
    rw [mApp_R]
    rw [mBR_of (hK _ _ h1) hv]
    exact hK _ _ h2
  | .inr (.inr (.inr (.inr (.inr (c, k))))), h =>
    rw [mApp_C] at h
    obtain ⟨g, h1, h2⟩ := mBC_some h
    rw [mApp_C]
    rw [hK _ _ h1]
    exact hK _ _ h2
theorem mEv_up (P : mPg) : ∀ (n : Nat) (c : mCf) (r : mRs), mEv P n c = some r → mEv P (n + 1) c = some r
  | 0, c, r, h => by cases h
  | n + 1, c, r, h => mApp_le (mEv_up P n) _ h
theorem mEv_add (P : mPg) (n : Nat) (c : mCf) (r : mRs) (h : mEv P n c = some r) : ∀ k, mEv P (n + k) c = some r
  | 0 => h
  | k + 1 => mEv_up P (n + k) c r (mEv_add P n c r h k)
theorem mEv_max (P : mPg) {n m : Nat} {c : mCf} {r : mRs} (h : mEv P n c = some r) (hm : n ≤ m) : mEv P m c = some r := by
  have := mEv_add P n c r h (m - n)
  rwa [Nat.add_sub_of_le hm] at this
theorem mEv_one (P : mPg) {n m : Nat} {c : mCf} {r q : mRs} (h : mEv P n c = some r) (h2 : mEv P m c = some q) : r = q := by
  have a := mEv_max P h (Nat.le_max_left n m)
  have b := mEv_max P h2 (Nat.le_max_right n m)
  rw [a] at b
  exact Option.some.inj b
theorem mOut_of (P : mPg) {n : Nat} {c : mCf} {r : mRs} (h : mEv P n c = some r) : mOut P c = some r := by
  have hx : ∃ n r, mEv P n c = some r := ⟨n, r, h⟩
  have e : mOut P c = mEv P (Classical.choose hx) c := @dif_pos _ (Classical.propDecidable _) hx _ _ _
  rw [e]
  obtain ⟨q, hq⟩ := Classical.choose_spec hx
  rw [hq, mEv_one P hq h]
theorem mOut_ex (P : mPg) {c : mCf} {r : mRs} (h : mOut P c = some r) : ∃ n, mEv P n c = some r := by
  by_cases hx : ∃ n r, mEv P n c = some r
  · obtain ⟨n, q, hq⟩ := hx
    have := mOut_of P hq
    rw [h] at this
    cases this
    exact ⟨n, hq⟩
  · have e : mOut P c = none := @dif_neg _ (Classical.propDecidable _) hx _ _ _
    rw [e] at h
    cases h
theorem mApp_out (P : mPg) (s : mSh) {r : mRs} (h : mApp s (mOut P) = some r) : ∃ n, mApp s (mEv P n) = some r := by
  match s, h with
  | .inl o, h => exact ⟨0, h⟩
  | .inr (.inl (l, d)), h =>
    have key : ∀ (l : List (mDc × mCf)), mIf l (mOut P) (mTo d (mOut P)) = some r → ∃ n, mIf l (mEv P n) (mTo d (mEv P n)) = some r := by
      intro l
      induction l with
      | nil =>
        intro h
        cases d with
        | none => cases h
        | some c => exact mOut_ex P h
      | cons q l ih =>
        intro h
        by_cases hq : q.1.1
        · have e1 : mIf (q :: l) (mOut P) (mTo d (mOut P)) = mOut P q.2 := @if_pos _ q.1.2 hq _ _ _
          rw [e1] at h
          obtain ⟨n, hn⟩ := mOut_ex P h
          exact ⟨n, (show mIf (q :: l) (mEv P n) _ = _ from @if_pos _ q.1.2 hq _ _ _).trans hn⟩
        · have e1 : mIf (q :: l) (mOut P) (mTo d (mOut P)) = mIf l (mOut P) (mTo d (mOut P)) := @if_neg _ q.1.2 hq _ _ _
          rw [e1] at h
          obtain ⟨n, hn⟩ := ih h
          exact ⟨n, (show mIf (q :: l) (mEv P n) _ = _ from @if_neg _ q.1.2 hq _ _ _).trans hn⟩
    exact key l h
  | .inr (.inr (.inl (c, k))), h =>
    rw [mApp_I] at h
    obtain ⟨v, g, h1, h2⟩ := mBI_some h
    obtain ⟨n1, h1⟩ := mOut_ex P h1
    obtain ⟨n2, h2⟩ := mOut_ex P h2
    refine ⟨max n1 n2, ?_⟩
    rw [mApp_I]
    rw [mEv_max P h1 (Nat.le_max_left _ _)]
    exact mEv_max P h2 (Nat.le_max_right _ _)
  | .inr (.inr (.inr (.inl (c, k)))), h =>
    rw [mApp_J] at h
    obtain ⟨v, g, h1, h2⟩ := mBJ_some h
    obtain ⟨n1, h1⟩ := mOut_ex P h1
    obtain ⟨n2, h2⟩ := mOut_ex P h2
    refine ⟨max n1 n2, ?_⟩
    rw [mApp_J]
    rw [mEv_max P h1 (Nat.le_max_left _ _)]
    exact mEv_max P h2 (Nat.le_max_right _ _)
  | .inr (.inr (.inr (.inr (.inl (c, w, k))))), h =>
    rw [mApp_R] at h
    obtain ⟨v, g, h1, hv, h2⟩ := mBR_some h
    obtain ⟨n1, h1⟩ := mOut_ex P h1
    obtain ⟨n2, h2⟩ := mOut_ex P h2
    refine ⟨max n1 n2, ?_⟩
    rw [mApp_R]
    rw [mBR_of (mEv_max P h1 (Nat.le_max_left _ _)) hv]
    exact mEv_max P h2 (Nat.le_max_right _ _)
  | .inr (.inr (.inr (.inr (.inr (c, k))))), h =>
    rw [mApp_C] at h
    obtain ⟨g, h1, h2⟩ := mBC_some h
    obtain ⟨n1, h1⟩ := mOut_ex P h1
    obtain ⟨n2, h2⟩ := mOut_ex P h2
    refine ⟨max n1 n2, ?_⟩
    rw [mApp_C]
    rw [mEv_max P h1 (Nat.le_max_left _ _)]
    exact mEv_max P h2 (Nat.le_max_right _ _)
theorem mOut_fix (P : mPg) (c : mCf) : mOut P c = mApp (mStep P c) (mOut P) := by
  cases h : mApp (mStep P c) (mOut P) with
  | some r =>
    obtain ⟨n, hn⟩ := mApp_out P _ h
    exact mOut_of P (n := n + 1) hn
  | none =>
    cases h2 : mOut P c with
    | none => rfl
    | some r =>
      obtain ⟨n, hn⟩ := mOut_ex P h2
      cases n with
      | zero => cases hn
      | succ n =>
        have := mApp_le (K2 := mOut P) (fun c r q => mOut_of P q) _ (show mApp (mStep P c) (mEv P n) = some r from hn)
        rw [h] at this
        cases this
theorem mPut_get {α : Type} (v : α) : ∀ (L : List α) (a j : Nat), (mPut L a v)[j]? = if j = a ∧ j < L.length then some v else L[j]?
  | [], a, j => by simp [mPut]
  | x :: l, 0, 0 => by simp [mPut]
  | x :: l, 0, j + 1 => by simp [mPut]
  | x :: l, a + 1, 0 => by simp [mPut]
  | x :: l, a + 1, j + 1 => by
    have h := mPut_get v l a j
    simp [mPut, h]
theorem mPut_len {α : Type} (v : α) : ∀ (L : List α) (a : Nat), (mPut L a v).length = L.length
  | [], a => rfl
  | x :: l, 0 => rfl
  | x :: l, a + 1 => by simp [mPut, mPut_len v l a]
theorem mErs_len : ∀ (l : List Nat) (L : List (Option Value)), (mErs l L).length = L.length
  | [], L => rfl
  | a :: l, L => by rw [mErs, mErs_len l, mPut_len]
theorem mErs_get : ∀ (l : List Nat) (L : List (Option Value)) (j : Nat), (mErs l L)[j]? = if j ∈ l ∧ j < L.length then some none else L[j]?
  | [], L, j => by simp [mErs]
  | a :: l, L, j => by
    rw [mErs, mErs_get l, mPut_get, mPut_len]
    by_cases h1 : j ∈ l <;> by_cases h2 : j < L.length <;> by_cases h3 : j = a <;> simp [h1, h2, h3] <;> (intro _ q1 q2; omega)
theorem mErs_twice (l : List Nat) (L : List (Option Value)) : mErs l (mErs l L) = mErs l L := by
  apply List.ext_getElem?
  intro j
  rw [mErs_get, mErs_get, mErs_len]
  by_cases h1 : j ∈ l ∧ j < L.length <;> simp [h1]
theorem mF_eq {α : Type} {β : Type} : ∀ (l : List α) (k : List α → β), mF l k = k l
  | [], k => rfl
  | x :: l, k => mF_eq l (fun l => k (x :: l))
theorem mStep_eq (P : mPg) (y i : Nat) (L : List (Option Value)) (S : List Value) (sh : List mSC) (M : mMI) (J : mMJ) (nc ns : Nat) : mStep P (y, i, L, S, sh, M, J, nc, ns) = mDo P (mFe P y i).1 (mFe P y i).2.1 (mFe P y i).2.2.1 (mFe P y i).2.2.2.1 (mFe P y i).2.2.2.2.1 (mFe P y i).2.2.2.2.2.2.1 (mFe P y i).2.2.2.2.2.2.2.1 y (mErs (mFe P y i).2.2.2.2.2.2.2.2 L) S sh M J nc ns := by
  simp only [mStep]
  generalize mFe P y i = o
  obtain ⟨ok, oa, ob, oc, od, q, on, ol, oe⟩ := o
  cases oe with
  | nil => rfl
  | cons a l => rfl
theorem mClean_step (P : mPg) (c : mCf) : mStep P (mClean P c) = mStep P c := by
  obtain ⟨y, i, L, S, sh, M, J, nc, ns⟩ := c
  show mStep P (y, i, mErs (mFe P y i).2.2.2.2.2.2.2.2 L, S, sh, M, J, nc, ns) = _
  rw [mStep_eq, mStep_eq, mErs_twice]
theorem mClean_out (P : mPg) (c : mCf) : mOut P (mClean P c) = mOut P c := by
  rw [mOut_fix P c, mOut_fix P (mClean P c), mClean_step]
theorem mDen_eq (P : mPg) : ∀ (n : Nat) (c : mCf), mDen P n c = mOut P c
  | 0, c => rfl
  | n + 1, c => by
    have e : (fun c => cond (mCut P c) (mOut P (mClean P c)) (mDen P n c)) = mOut P := by
      funext c
      cases mCut P c with
      | true => exact mClean_out P c
      | false => exact mDen_eq P n c
    have e2 : mDen P (n + 1) c = mApp (mStep P c) (fun c => cond (mCut P c) (mOut P (mClean P c)) (mDen P n c)) := rfl
    rw [e2, e]
    exact (mOut_fix P c).symm
end
section
/-! THE PROGRAM in the small machine: written by wip/whole/tables.py -/
/-- 0: PotAndFine$Book.<init>()V -/
noncomputable def pc_0_0 : List mOp := [(2, 0, 2, 0, 0, 1, 1, [], []), (37, 0, 0, 0, 0, 0, 2, [], []), (2, 0, 2, 0, 0, 0, 3, [], []), (0, 0, 0, 48, 0, 0, 4, [], []), (31, 1, 48, 48, 0, 0, 5, [], []), (36, 0, 0, 0, 0, 0, 6, [0], []), (2, 0, 2, 0, 0, 0, 7, [], []), (20, 0, 1, 0, 0, 0, 8, [0], []), (0, 0, 0, (-9), 0, 0, 9, [], []), (33, 195, 2, 0, 0, 0, 10, [], []), (34, 0, 0, 0, 0, 0, 11, [], [])]
noncomputable def pc_0 : List (List mOp) := [pc_0_0]
/-- 1: PotAndFine$Book.toldBy(III)I -/
noncomputable def pc_1_0 : List mOp := [(2, 1, 0, 0, 0, 1, 1, [], []), (0, 0, 0, 100, 0, 0, 2, [], []), (6, 0, 0, 0, 0, 0, 3, [], []), (3, 4, 0, 0, 0, 0, 4, [], []), (2, 1, 0, 0, 0, 0, 5, [], []), (0, 0, 0, 100, 0, 0, 6, [], []), (7, 0, 0, 0, 0, 0, 7, [], []), (3, 5, 0, 0, 0, 0, 8, [], []), (2, 4, 0, 0, 0, 0, 9, [], []), (0, 0, 0, 2, 0, 0, 10, [], []), (18, 13, 3, 0, 0, 0, 11, [], []), (2, 5, 0, 0, 0, 0, 12, [], []), (34, 0, 1, 0, 0, 0, 13, [], []), (2, 3, 0, 0, 0, 0, 14, [], []), (0, 0, 0, 1, 0, 0, 15, [], []), (18, 18, 3, 0, 0, 0, 16, [], []), (0, 0, 0, (-9), 0, 0, 17, [], []), (34, 0, 1, 0, 0, 0, 18, [], []), (2, 4, 0, 0, 0, 0, 19, [], []), (0, 0, 0, 2, 0, 0, 20, [], []), (18, 28, 1, 0, 0, 0, 21, [], []), (2, 0, 2, 0, 0, 0, 22, [], []), (2, 2, 0, 0, 0, 0, 23, [], []), (2, 3, 0, 0, 0, 0, 24, [], []), (0, 0, 0, 1, 0, 0, 25, [], []), (5, 0, 1, 0, 0, 0, 26, [], []), (33, 6, 3, 0, 0, 0, 27, [], []), (16, 36, 0, 0, 0, 0, 28, [], []), (2, 0, 2, 0, 0, 0, 29, [], []), (20, 0, 1, 0, 0, 0, 30, [0], []), (2, 2, 0, 0, 0, 0, 31, [], []), (2, 3, 0, 0, 0, 0, 32, [], [])]
noncomputable def pc_1_1 : List mOp := [(0, 0, 0, 1, 0, 0, 33, [], []), (5, 0, 1, 0, 0, 0, 34, [], []), (33, 94, 2, 0, 0, 0, 35, [], []), (23, 0, 0, 0, 0, 0, 36, [], []), (3, 6, 0, 0, 0, 0, 37, [], []), (2, 6, 0, 0, 0, 0, 38, [], []), (0, 0, 0, (-9), 0, 0, 39, [], []), (18, 42, 1, 0, 0, 0, 40, [], []), (0, 0, 0, (-9), 0, 0, 41, [], []), (16, 47, 0, 0, 0, 0, 42, [], []), (0, 0, 0, 0, 0, 0, 43, [], []), (2, 6, 0, 0, 0, 0, 44, [], []), (2, 5, 0, 0, 0, 0, 45, [], []), (5, 0, 1, 0, 0, 0, 46, [], []), (41, 0, 0, 0, 0, 0, 47, [], []), (34, 0, 1, 0, 0, 0, 48, [], [])]
noncomputable def pc_1 : List (List mOp) := [pc_1_0, pc_1_1]
/-- 2: PotAndFine$Book.countSlips(II)I -/
noncomputable def pc_2_0 : List mOp := [(0, 0, 0, 0, 0, 1, 1, [], []), (3, 3, 0, 0, 0, 0, 2, [], []), (0, 0, 0, 0, 0, 0, 3, [], []), (3, 4, 0, 0, 0, 0, 4, [], []), (2, 4, 0, 0, 0, 1, 5, [], [5, 6]), (0, 0, 0, 8, 0, 0, 6, [], []), (18, 32, 3, 0, 0, 0, 7, [], []), (2, 0, 2, 0, 0, 0, 8, [], []), (20, 0, 1, 0, 0, 0, 9, [0], []), (2, 2, 0, 0, 0, 0, 10, [], []), (2, 4, 0, 0, 0, 0, 11, [], []), (33, 94, 2, 0, 0, 0, 12, [], []), (23, 0, 0, 0, 0, 0, 13, [], []), (3, 5, 0, 0, 0, 0, 14, [], []), (2, 0, 2, 0, 0, 0, 15, [], []), (2, 1, 0, 0, 0, 0, 16, [], []), (2, 2, 0, 0, 0, 0, 17, [], []), (2, 4, 0, 0, 0, 0, 18, [], []), (33, 1, 4, 0, 0, 0, 19, [], []), (3, 6, 0, 0, 0, 0, 20, [], []), (2, 5, 0, 0, 0, 0, 21, [], []), (0, 0, 0, (-9), 0, 0, 22, [], []), (18, 30, 0, 0, 0, 0, 23, [], []), (2, 6, 0, 0, 0, 0, 24, [], []), (0, 0, 0, (-9), 0, 0, 25, [], []), (18, 30, 0, 0, 0, 0, 26, [], []), (2, 5, 0, 0, 0, 0, 27, [], []), (2, 6, 0, 0, 0, 0, 28, [], []), (18, 30, 0, 0, 0, 0, 29, [], []), (4, 3, 0, 1, 0, 0, 30, [], []), (4, 4, 0, 1, 0, 0, 31, [], []), (16, 4, 0, 0, 0, 0, 32, [], [])]
noncomputable def pc_2_1 : List mOp := [(2, 3, 0, 0, 0, 0, 33, [], []), (34, 0, 1, 0, 0, 0, 34, [], [])]
noncomputable def pc_2 : List (List mOp) := [pc_2_0, pc_2_1]
/-- 3: PotAndFine$Book.bestSort(I)I -/
noncomputable def pc_3_0 : List mOp := [(0, 0, 0, 0, 0, 1, 1, [], []), (3, 2, 0, 0, 0, 0, 2, [], []), (2, 0, 2, 0, 0, 0, 3, [], []), (0, 0, 0, 0, 0, 0, 4, [], []), (2, 1, 0, 0, 0, 0, 5, [], []), (33, 2, 3, 0, 0, 0, 6, [], []), (3, 3, 0, 0, 0, 0, 7, [], []), (0, 0, 0, 1, 0, 0, 8, [], []), (3, 4, 0, 0, 0, 0, 9, [], []), (2, 4, 0, 0, 0, 1, 10, [], [5]), (0, 0, 0, 42, 0, 0, 11, [], []), (18, 28, 3, 0, 0, 0, 12, [], []), (2, 0, 2, 0, 0, 0, 13, [], []), (2, 4, 0, 0, 0, 0, 14, [], []), (33, 5, 1, 0, 0, 0, 15, [], []), (2, 1, 0, 0, 0, 0, 16, [], []), (33, 2, 3, 0, 0, 0, 17, [], []), (3, 5, 0, 0, 0, 0, 18, [], []), (2, 5, 0, 0, 0, 0, 19, [], []), (2, 3, 0, 0, 0, 0, 20, [], []), (18, 26, 3, 0, 0, 0, 21, [], []), (2, 4, 0, 0, 0, 0, 22, [], []), (33, 5, 1, 0, 0, 0, 23, [], []), (3, 2, 0, 0, 0, 0, 24, [], []), (2, 5, 0, 0, 0, 0, 25, [], []), (3, 3, 0, 0, 0, 0, 26, [], []), (4, 4, 0, 1, 0, 0, 27, [], []), (16, 9, 0, 0, 0, 0, 28, [], []), (2, 2, 0, 0, 0, 0, 29, [], []), (34, 0, 1, 0, 0, 0, 30, [], [])]
noncomputable def pc_3 : List (List mOp) := [pc_3_0]
/-- 4: PotAndFine$Book.countSorts(II)I -/
noncomputable def pc_4_0 : List mOp := [(0, 0, 0, 0, 0, 1, 1, [], []), (3, 3, 0, 0, 0, 0, 2, [], []), (0, 0, 0, 0, 0, 0, 3, [], []), (3, 4, 0, 0, 0, 0, 4, [], []), (2, 4, 0, 0, 0, 1, 5, [], []), (0, 0, 0, 42, 0, 0, 6, [], []), (18, 17, 3, 0, 0, 0, 7, [], []), (2, 0, 2, 0, 0, 0, 8, [], []), (2, 4, 0, 0, 0, 0, 9, [], []), (33, 5, 1, 0, 0, 0, 10, [], []), (2, 1, 0, 0, 0, 0, 11, [], []), (33, 2, 3, 0, 0, 0, 12, [], []), (2, 2, 0, 0, 0, 0, 13, [], []), (18, 15, 4, 0, 0, 0, 14, [], []), (4, 3, 0, 1, 0, 0, 15, [], []), (4, 4, 0, 1, 0, 0, 16, [], []), (16, 4, 0, 0, 0, 0, 17, [], []), (2, 3, 0, 0, 0, 0, 18, [], []), (34, 0, 1, 0, 0, 0, 19, [], [])]
noncomputable def pc_4 : List (List mOp) := [pc_4_0]
/-- 5: PotAndFine$Book.sortNumbered(I)I -/
noncomputable def pc_5_0 : List mOp := [(2, 0, 0, 0, 0, 1, 1, [], []), (0, 0, 0, 1, 0, 0, 2, [], []), (18, 5, 3, 0, 0, 0, 3, [], []), (0, 0, 0, 0, 0, 0, 4, [], []), (34, 0, 1, 0, 0, 0, 5, [], []), (2, 0, 0, 0, 0, 0, 6, [], []), (0, 0, 0, 22, 0, 0, 7, [], []), (18, 14, 3, 0, 0, 0, 8, [], []), (0, 0, 0, 100, 0, 0, 9, [], []), (2, 0, 0, 0, 0, 0, 10, [], []), (5, 0, 0, 0, 0, 0, 11, [], []), (0, 0, 0, 1, 0, 0, 12, [], []), (5, 0, 1, 0, 0, 0, 13, [], []), (34, 0, 1, 0, 0, 0, 14, [], []), (2, 0, 0, 0, 0, 0, 15, [], []), (0, 0, 0, 32, 0, 0, 16, [], []), (18, 23, 3, 0, 0, 0, 17, [], []), (0, 0, 0, 200, 0, 0, 18, [], []), (2, 0, 0, 0, 0, 0, 19, [], []), (5, 0, 0, 0, 0, 0, 20, [], []), (0, 0, 0, 22, 0, 0, 21, [], []), (5, 0, 1, 0, 0, 0, 22, [], []), (16, 28, 0, 0, 0, 0, 23, [], []), (0, 0, 0, 300, 0, 0, 24, [], []), (2, 0, 0, 0, 0, 0, 25, [], []), (5, 0, 0, 0, 0, 0, 26, [], []), (0, 0, 0, 32, 0, 0, 27, [], []), (5, 0, 1, 0, 0, 0, 28, [], []), (34, 0, 1, 0, 0, 0, 29, [], [])]
noncomputable def pc_5 : List (List mOp) := [pc_5_0]
/-- 6: PotAndFine$Book.meanOfOthers(II)I -/
noncomputable def pc_6_0 : List mOp := [(0, 0, 0, 0, 0, 1, 1, [], []), (3, 3, 0, 0, 0, 0, 2, [], []), (0, 0, 0, 0, 0, 0, 3, [], []), (3, 4, 0, 0, 0, 0, 4, [], []), (0, 0, 0, 0, 0, 0, 5, [], []), (3, 5, 0, 0, 0, 0, 6, [], []), (2, 5, 0, 0, 0, 1, 7, [], [6]), (0, 0, 0, 6, 0, 0, 8, [], []), (18, 29, 3, 0, 0, 0, 9, [], []), (2, 0, 2, 0, 0, 0, 10, [], []), (20, 0, 1, 0, 0, 0, 11, [0], []), (2, 5, 0, 0, 0, 0, 12, [], []), (2, 2, 0, 0, 0, 0, 13, [], []), (33, 94, 2, 0, 0, 0, 14, [], []), (23, 0, 0, 0, 0, 0, 15, [], []), (3, 6, 0, 0, 0, 0, 16, [], []), (2, 5, 0, 0, 0, 0, 17, [], []), (2, 1, 0, 0, 0, 0, 18, [], []), (18, 27, 0, 0, 0, 0, 19, [], []), (2, 6, 0, 0, 0, 0, 20, [], []), (0, 0, 0, (-9), 0, 0, 21, [], []), (18, 27, 0, 0, 0, 0, 22, [], []), (2, 3, 0, 0, 0, 0, 23, [], []), (2, 6, 0, 0, 0, 0, 24, [], []), (5, 0, 0, 0, 0, 0, 25, [], []), (3, 3, 0, 0, 0, 0, 26, [], []), (4, 4, 0, 1, 0, 0, 27, [], []), (4, 5, 0, 1, 0, 0, 28, [], []), (16, 6, 0, 0, 0, 0, 29, [], []), (2, 4, 0, 0, 0, 0, 30, [], []), (17, 35, 5, 0, 0, 0, 31, [], []), (2, 3, 0, 0, 0, 0, 32, [], [])]
noncomputable def pc_6_1 : List mOp := [(2, 4, 0, 0, 0, 0, 33, [], []), (33, 96, 2, 0, 0, 0, 34, [], []), (16, 36, 0, 0, 0, 0, 35, [], []), (0, 0, 0, (-9), 0, 0, 36, [], []), (34, 0, 1, 0, 0, 0, 37, [], [])]
noncomputable def pc_6 : List (List mOp) := [pc_6_0, pc_6_1]
/-- 7: PotAndFine$Course.<init>(LPotAndFine$Setup;)V -/
noncomputable def pc_7_0 : List mOp := [(2, 0, 2, 0, 0, 1, 1, [], []), (37, 0, 0, 0, 0, 0, 2, [], []), (2, 0, 2, 0, 0, 0, 3, [], []), (0, 0, 0, 240, 0, 0, 4, [], []), (31, 1, 240, 240, 0, 0, 5, [], []), (36, 1, 0, 0, 0, 0, 6, [1], []), (2, 0, 2, 0, 0, 0, 7, [], []), (0, 0, 0, 1440, 0, 0, 8, [], []), (31, 1, 1440, 1440, 0, 0, 9, [], []), (36, 2, 0, 0, 0, 0, 10, [1], []), (2, 0, 2, 0, 0, 0, 11, [], []), (0, 0, 0, 240, 0, 0, 12, [], []), (31, 1, 240, 240, 0, 0, 13, [], []), (36, 3, 0, 0, 0, 0, 14, [1], []), (2, 0, 2, 0, 0, 0, 15, [], []), (0, 0, 0, 240, 0, 0, 16, [], []), (31, 2, 240, 240, 0, 0, 17, [], []), (36, 4, 0, 0, 0, 0, 18, [1], []), (2, 0, 2, 0, 0, 0, 19, [], []), (0, 0, 0, 40, 0, 0, 20, [], []), (31, 1, 40, 40, 0, 0, 21, [], []), (36, 5, 0, 0, 0, 0, 22, [1], []), (2, 0, 2, 0, 0, 0, 23, [], []), (0, 0, 0, 6, 0, 0, 24, [], []), (31, 1, 6, 6, 0, 0, 25, [], []), (36, 6, 0, 0, 0, 0, 26, [1], []), (2, 0, 2, 0, 0, 0, 27, [], []), (0, 0, 0, 0, 0, 0, 28, [], []), (21, 7, 0, 0, 0, 0, 29, [1], []), (2, 0, 2, 0, 0, 0, 30, [], []), (0, 0, 0, 0, 0, 0, 31, [], []), (21, 8, 0, 0, 0, 0, 32, [1], [])]
noncomputable def pc_7_1 : List mOp := [(2, 0, 2, 0, 0, 0, 33, [], []), (0, 0, 0, 0, 0, 0, 34, [], []), (21, 9, 0, 0, 0, 0, 35, [1], []), (2, 0, 2, 0, 0, 0, 36, [], []), (2, 1, 2, 0, 0, 0, 37, [], []), (36, 0, 0, 0, 0, 0, 38, [1], []), (34, 0, 0, 0, 0, 0, 39, [], [])]
noncomputable def pc_7 : List (List mOp) := [pc_7_0, pc_7_1]
/-- 8: PotAndFine$Course.runAll()V -/
noncomputable def pc_8_0 : List mOp := [(0, 0, 0, 0, 0, 1, 1, [], []), (3, 1, 0, 0, 0, 0, 2, [], []), (2, 1, 0, 0, 0, 1, 3, [], []), (0, 0, 0, 40, 0, 0, 4, [], []), (18, 27, 3, 0, 0, 0, 5, [], []), (2, 0, 2, 0, 0, 0, 6, [], []), (2, 1, 0, 0, 0, 0, 7, [], []), (33, 13, 2, 0, 0, 0, 8, [], []), (2, 0, 2, 0, 0, 0, 9, [], []), (2, 1, 0, 0, 0, 0, 10, [], []), (0, 0, 0, (-9), 0, 0, 11, [], []), (0, 0, 0, 0, 0, 0, 12, [], []), (33, 18, 4, 0, 0, 0, 13, [], []), (2, 0, 2, 0, 0, 0, 14, [], []), (20, 5, 1, 0, 0, 0, 15, [1], []), (2, 1, 0, 0, 0, 0, 16, [], []), (2, 0, 2, 0, 0, 0, 17, [], []), (20, 7, 0, 0, 0, 0, 18, [1], []), (26, 0, 0, 0, 0, 0, 19, [], []), (2, 0, 2, 0, 0, 0, 20, [], []), (2, 1, 0, 0, 0, 0, 21, [], []), (33, 19, 2, 0, 0, 0, 22, [], []), (2, 0, 2, 0, 0, 0, 23, [], []), (2, 1, 0, 0, 0, 0, 24, [], []), (33, 20, 2, 0, 0, 0, 25, [], []), (4, 1, 0, 1, 0, 0, 26, [], []), (16, 2, 0, 0, 0, 0, 27, [], []), (34, 0, 0, 0, 0, 0, 28, [], [])]
noncomputable def pc_8 : List (List mOp) := [pc_8_0]
/-- 9: PotAndFine$Course.heldByAll(I)J -/
noncomputable def pc_9_0 : List mOp := [(1, 0, 0, 0, 0, 1, 1, [], []), (3, 2, 1, 0, 0, 0, 2, [], []), (0, 0, 0, 0, 0, 0, 3, [], []), (3, 4, 0, 0, 0, 0, 4, [], []), (2, 4, 0, 0, 0, 1, 5, [], [3]), (2, 0, 2, 0, 0, 0, 6, [], []), (20, 0, 1, 0, 0, 0, 7, [1], []), (20, 1, 0, 0, 0, 0, 8, [4], []), (18, 20, 3, 0, 0, 0, 9, [], []), (2, 2, 1, 0, 0, 0, 10, [], []), (2, 0, 2, 0, 0, 0, 11, [], []), (20, 4, 1, 0, 0, 0, 12, [1], []), (2, 4, 0, 0, 0, 0, 13, [], []), (2, 1, 0, 0, 0, 0, 14, [], []), (33, 92, 2, 0, 0, 0, 15, [], []), (24, 0, 0, 0, 0, 0, 16, [], []), (9, 0, 0, 0, 0, 0, 17, [], []), (3, 2, 1, 0, 0, 0, 18, [], []), (4, 4, 0, 1, 0, 0, 19, [], []), (16, 4, 0, 0, 0, 0, 20, [], []), (2, 2, 1, 0, 0, 0, 21, [], []), (34, 0, 2, 0, 0, 0, 22, [], [])]
noncomputable def pc_9 : List (List mOp) := [pc_9_0]
/-- 10: PotAndFine$Course.gotBy(III)J -/
noncomputable def pc_10_0 : List mOp := [(2, 0, 2, 0, 0, 1, 1, [], []), (2, 2, 0, 0, 0, 0, 2, [], []), (2, 1, 0, 0, 0, 0, 3, [], []), (2, 3, 0, 0, 0, 0, 4, [], []), (33, 18, 4, 0, 0, 0, 5, [], []), (1, 0, 0, 0, 0, 0, 6, [], []), (3, 4, 1, 0, 0, 0, 7, [], []), (0, 0, 0, 0, 0, 0, 8, [], []), (3, 6, 0, 0, 0, 0, 9, [], []), (2, 6, 0, 0, 0, 1, 10, [], [3, 5]), (2, 0, 2, 0, 0, 0, 11, [], []), (20, 0, 1, 0, 0, 0, 12, [1], []), (20, 1, 0, 0, 0, 0, 13, [4], []), (18, 32, 3, 0, 0, 0, 14, [], []), (2, 4, 1, 0, 0, 0, 15, [], []), (2, 0, 2, 0, 0, 0, 16, [], []), (2, 0, 2, 0, 0, 0, 17, [], []), (2, 1, 0, 0, 0, 0, 18, [], []), (2, 6, 0, 0, 0, 0, 19, [], []), (2, 2, 0, 0, 0, 0, 20, [], []), (33, 23, 4, 0, 0, 0, 21, [], []), (2, 0, 2, 0, 0, 0, 22, [], []), (2, 6, 0, 0, 0, 0, 23, [], []), (2, 1, 0, 0, 0, 0, 24, [], []), (2, 2, 0, 0, 0, 0, 25, [], []), (33, 23, 4, 0, 0, 0, 26, [], []), (33, 21, 3, 0, 0, 0, 27, [], []), (12, 0, 0, 0, 0, 0, 28, [], []), (9, 0, 0, 0, 0, 0, 29, [], []), (3, 4, 1, 0, 0, 0, 30, [], []), (4, 6, 0, 1, 0, 0, 31, [], []), (16, 9, 0, 0, 0, 0, 32, [], [])]
noncomputable def pc_10_1 : List mOp := [(2, 0, 2, 0, 0, 0, 33, [], []), (2, 1, 0, 0, 0, 0, 34, [], []), (33, 22, 2, 0, 0, 0, 35, [], []), (1, 0, 0, 0, 600, 0, 36, [], []), (2, 4, 1, 0, 0, 0, 37, [], []), (9, 0, 2, 0, 0, 0, 38, [], []), (9, 0, 1, 0, 0, 0, 39, [], []), (34, 0, 2, 0, 0, 0, 40, [], [])]
noncomputable def pc_10 : List (List mOp) := [pc_10_0, pc_10_1]
/-- 11: PotAndFine$Course.bestPut(II)I -/
noncomputable def pc_11_0 : List mOp := [(0, 0, 0, 0, 0, 1, 1, [], []), (3, 3, 0, 0, 0, 0, 2, [], []), (2, 0, 2, 0, 0, 0, 3, [], []), (2, 1, 0, 0, 0, 0, 4, [], []), (2, 2, 0, 0, 0, 0, 5, [], []), (0, 0, 0, 0, 0, 0, 6, [], []), (33, 10, 4, 0, 0, 0, 7, [], []), (3, 4, 1, 0, 0, 0, 8, [], []), (0, 0, 0, 1, 0, 0, 9, [], []), (3, 6, 0, 0, 0, 0, 10, [], []), (2, 6, 0, 0, 0, 1, 11, [], [5, 7, 8]), (2, 0, 2, 0, 0, 0, 12, [], []), (20, 0, 1, 0, 0, 0, 13, [1], []), (20, 0, 1, 0, 0, 0, 14, [4], []), (0, 0, 0, 0, 0, 0, 15, [], []), (23, 0, 0, 0, 0, 0, 16, [], []), (18, 33, 4, 0, 0, 0, 17, [], []), (2, 0, 2, 0, 0, 0, 18, [], []), (2, 1, 0, 0, 0, 0, 19, [], []), (2, 2, 0, 0, 0, 0, 20, [], []), (2, 6, 0, 0, 0, 0, 21, [], []), (33, 10, 4, 0, 0, 0, 22, [], []), (3, 7, 1, 0, 0, 0, 23, [], []), (2, 7, 1, 0, 0, 0, 24, [], []), (2, 4, 1, 0, 0, 0, 25, [], []), (13, 0, 0, 0, 0, 0, 26, [], []), (17, 31, 5, 0, 0, 0, 27, [], []), (2, 6, 0, 0, 0, 0, 28, [], []), (3, 3, 0, 0, 0, 0, 29, [], []), (2, 7, 1, 0, 0, 0, 30, [], []), (3, 4, 1, 0, 0, 0, 31, [], []), (4, 6, 0, 1, 0, 0, 32, [], [])]
noncomputable def pc_11_1 : List mOp := [(16, 10, 0, 0, 0, 0, 33, [], []), (2, 3, 0, 0, 0, 0, 34, [], []), (34, 0, 1, 0, 0, 0, 35, [], [])]
noncomputable def pc_11 : List (List mOp) := [pc_11_0, pc_11_1]
/-- 12: PotAndFine$Course.isAtRest(I)Z -/
noncomputable def pc_12_0 : List mOp := [(0, 0, 0, 0, 0, 1, 1, [], []), (3, 2, 0, 0, 0, 0, 2, [], []), (2, 2, 0, 0, 0, 1, 3, [], [3, 4]), (2, 0, 2, 0, 0, 0, 4, [], []), (20, 0, 1, 0, 0, 0, 5, [1], []), (20, 1, 0, 0, 0, 0, 6, [4], []), (18, 39, 3, 0, 0, 0, 7, [], []), (2, 0, 2, 0, 0, 0, 8, [], []), (20, 0, 1, 0, 0, 0, 9, [1], []), (2, 2, 0, 0, 0, 0, 10, [], []), (2, 1, 0, 0, 0, 0, 11, [], []), (33, 37, 3, 0, 0, 0, 12, [], []), (17, 37, 0, 0, 0, 0, 13, [], []), (2, 0, 2, 0, 0, 0, 14, [], []), (2, 2, 0, 0, 0, 0, 15, [], []), (2, 1, 0, 0, 0, 0, 16, [], []), (2, 0, 2, 0, 0, 0, 17, [], []), (2, 2, 0, 0, 0, 0, 18, [], []), (2, 1, 0, 0, 0, 0, 19, [], []), (33, 11, 3, 0, 0, 0, 20, [], []), (33, 10, 4, 0, 0, 0, 21, [], []), (3, 3, 1, 0, 0, 0, 22, [], []), (2, 3, 1, 0, 0, 0, 23, [], []), (2, 0, 2, 0, 0, 0, 24, [], []), (2, 2, 0, 0, 0, 0, 25, [], []), (2, 1, 0, 0, 0, 0, 26, [], []), (2, 0, 2, 0, 0, 0, 27, [], []), (20, 1, 1, 0, 0, 0, 28, [1], []), (2, 2, 0, 0, 0, 0, 29, [], []), (2, 1, 0, 0, 0, 0, 30, [], []), (33, 92, 2, 0, 0, 0, 31, [], []), (23, 0, 0, 0, 0, 0, 32, [], [])]
noncomputable def pc_12_1 : List mOp := [(33, 10, 4, 0, 0, 0, 33, [], []), (13, 0, 0, 0, 0, 0, 34, [], []), (17, 37, 5, 0, 0, 0, 35, [], []), (0, 0, 0, 0, 0, 0, 36, [], []), (34, 0, 4, 0, 0, 0, 37, [], []), (4, 2, 0, 1, 0, 0, 38, [], []), (16, 2, 0, 0, 0, 0, 39, [], []), (0, 0, 0, 1, 0, 0, 40, [], []), (34, 0, 4, 0, 0, 0, 41, [], [])]
noncomputable def pc_12 : List (List mOp) := [pc_12_0, pc_12_1]
/-- 13: PotAndFine$Course.putAll(I)V -/
noncomputable def pc_13_0 : List mOp := [(0, 0, 0, 0, 0, 1, 1, [], []), (3, 2, 0, 0, 0, 0, 2, [], []), (2, 2, 0, 0, 0, 1, 3, [], [3, 4, 5]), (2, 0, 2, 0, 0, 0, 4, [], []), (20, 0, 1, 0, 0, 0, 5, [1], []), (20, 1, 0, 0, 0, 0, 6, [4], []), (18, 52, 3, 0, 0, 0, 7, [], []), (0, 0, 0, (-9), 0, 0, 8, [], []), (3, 3, 0, 0, 0, 0, 9, [], []), (2, 0, 2, 0, 0, 0, 10, [], []), (20, 0, 1, 0, 0, 0, 11, [1], []), (2, 2, 0, 0, 0, 0, 12, [], []), (2, 1, 0, 0, 0, 0, 13, [], []), (33, 37, 3, 0, 0, 0, 14, [], []), (17, 43, 0, 0, 0, 0, 15, [], []), (2, 0, 2, 0, 0, 0, 16, [], []), (20, 0, 1, 0, 0, 0, 17, [1], []), (20, 5, 1, 0, 0, 0, 18, [4], []), (2, 2, 0, 0, 0, 0, 19, [], []), (2, 1, 0, 0, 0, 0, 20, [], []), (33, 92, 2, 0, 0, 0, 21, [], []), (23, 0, 0, 0, 0, 0, 22, [], []), (3, 4, 0, 0, 0, 0, 23, [], []), (2, 4, 0, 0, 0, 0, 24, [], []), (0, 0, 0, (-9), 0, 0, 25, [], []), (18, 31, 1, 0, 0, 0, 26, [], []), (2, 0, 2, 0, 0, 0, 27, [], []), (2, 2, 0, 0, 0, 0, 28, [], []), (2, 1, 0, 0, 0, 0, 29, [], []), (33, 14, 3, 0, 0, 0, 30, [], []), (16, 32, 0, 0, 0, 0, 31, [], []), (2, 4, 0, 0, 0, 0, 32, [], [])]
noncomputable def pc_13_1 : List mOp := [(3, 5, 0, 0, 0, 0, 33, [], []), (0, 0, 0, 0, 0, 0, 34, [], []), (2, 5, 0, 0, 0, 0, 35, [], []), (2, 0, 2, 0, 0, 0, 36, [], []), (20, 0, 1, 0, 0, 0, 37, [1], []), (20, 0, 1, 0, 0, 0, 38, [4], []), (0, 0, 0, 0, 0, 0, 39, [], []), (23, 0, 0, 0, 0, 0, 40, [], []), (41, 0, 1, 0, 0, 0, 41, [], []), (41, 0, 0, 0, 0, 0, 42, [], []), (3, 3, 0, 0, 0, 0, 43, [], []), (2, 0, 2, 0, 0, 0, 44, [], []), (20, 1, 1, 0, 0, 0, 45, [1], []), (2, 2, 0, 0, 0, 0, 46, [], []), (2, 1, 0, 0, 0, 0, 47, [], []), (33, 92, 2, 0, 0, 0, 48, [], []), (2, 3, 0, 0, 0, 0, 49, [], []), (26, 0, 0, 0, 0, 0, 50, [], []), (4, 2, 0, 1, 0, 0, 51, [], []), (16, 2, 0, 0, 0, 0, 52, [], []), (34, 0, 0, 0, 0, 0, 53, [], [])]
noncomputable def pc_13 : List (List mOp) := [pc_13_0, pc_13_1]
/-- 14: PotAndFine$Course.usualPut(II)I -/
noncomputable def pc_14_0 : List mOp := [(2, 0, 2, 0, 0, 1, 1, [], []), (20, 0, 1, 0, 0, 0, 2, [1], []), (20, 2, 1, 0, 0, 0, 3, [4], []), (2, 1, 0, 0, 0, 0, 4, [], []), (23, 0, 0, 0, 0, 0, 5, [], []), (3, 3, 0, 0, 0, 0, 6, [], []), (2, 3, 0, 0, 0, 0, 7, [], []), (17, 14, 1, 0, 0, 0, 8, [], []), (2, 0, 2, 0, 0, 0, 9, [], []), (20, 0, 1, 0, 0, 0, 10, [1], []), (20, 3, 1, 0, 0, 0, 11, [4], []), (2, 1, 0, 0, 0, 0, 12, [], []), (23, 0, 0, 0, 0, 0, 13, [], []), (34, 0, 1, 0, 0, 0, 14, [], []), (2, 3, 0, 0, 0, 0, 15, [], []), (0, 0, 0, 1, 0, 0, 16, [], []), (18, 19, 1, 0, 0, 0, 17, [], []), (0, 0, 0, 0, 0, 0, 18, [], []), (34, 0, 1, 0, 0, 0, 19, [], []), (2, 2, 0, 0, 0, 0, 20, [], []), (0, 0, 0, 1, 0, 0, 21, [], []), (18, 30, 3, 0, 0, 0, 22, [], []), (2, 0, 2, 0, 0, 0, 23, [], []), (20, 0, 1, 0, 0, 0, 24, [1], []), (20, 0, 1, 0, 0, 0, 25, [4], []), (0, 0, 0, 0, 0, 0, 26, [], []), (23, 0, 0, 0, 0, 0, 27, [], []), (0, 0, 0, 2, 0, 0, 28, [], []), (6, 0, 0, 0, 0, 0, 29, [], []), (34, 0, 1, 0, 0, 0, 30, [], []), (2, 3, 0, 0, 0, 0, 31, [], []), (0, 0, 0, 6, 0, 0, 32, [], [])]
noncomputable def pc_14_1 : List mOp := [(18, 44, 0, 0, 0, 0, 33, [], []), (2, 0, 2, 0, 0, 0, 34, [], []), (2, 1, 0, 0, 0, 0, 35, [], []), (2, 2, 0, 0, 0, 0, 36, [], []), (33, 15, 3, 0, 0, 0, 37, [], []), (2, 0, 2, 0, 0, 0, 38, [], []), (20, 0, 1, 0, 0, 0, 39, [1], []), (20, 3, 1, 0, 0, 0, 40, [4], []), (2, 1, 0, 0, 0, 0, 41, [], []), (23, 0, 0, 0, 0, 0, 42, [], []), (5, 0, 1, 0, 0, 0, 43, [], []), (34, 0, 1, 0, 0, 0, 44, [], []), (2, 0, 2, 0, 0, 0, 45, [], []), (20, 1, 1, 0, 0, 0, 46, [1], []), (2, 1, 0, 0, 0, 0, 47, [], []), (2, 2, 0, 0, 0, 0, 48, [], []), (0, 0, 0, 1, 0, 0, 49, [], []), (5, 0, 1, 0, 0, 0, 50, [], []), (33, 92, 2, 0, 0, 0, 51, [], []), (23, 0, 0, 0, 0, 0, 52, [], []), (3, 4, 0, 0, 0, 0, 53, [], []), (2, 0, 2, 0, 0, 0, 54, [], []), (20, 0, 1, 0, 0, 0, 55, [1], []), (20, 0, 1, 0, 0, 0, 56, [4], []), (0, 0, 0, 2, 0, 0, 57, [], []), (23, 0, 0, 0, 0, 0, 58, [], []), (2, 0, 2, 0, 0, 0, 59, [], []), (2, 1, 0, 0, 0, 0, 60, [], []), (2, 2, 0, 0, 0, 0, 61, [], []), (0, 0, 0, 1, 0, 0, 62, [], []), (5, 0, 1, 0, 0, 0, 63, [], []), (33, 16, 3, 0, 0, 0, 64, [], [])]
noncomputable def pc_14_2 : List mOp := [(5, 0, 2, 0, 0, 0, 65, [], []), (3, 5, 0, 0, 0, 0, 66, [], []), (2, 5, 0, 0, 0, 0, 67, [], []), (17, 72, 5, 0, 0, 0, 68, [], []), (2, 4, 0, 0, 0, 0, 69, [], []), (2, 5, 0, 0, 0, 0, 70, [], []), (5, 0, 0, 0, 0, 0, 71, [], []), (16, 79, 0, 0, 0, 0, 72, [], []), (2, 4, 0, 0, 0, 0, 73, [], []), (2, 0, 2, 0, 0, 0, 74, [], []), (20, 0, 1, 0, 0, 0, 75, [1], []), (20, 3, 1, 0, 0, 0, 76, [4], []), (2, 1, 0, 0, 0, 0, 77, [], []), (23, 0, 0, 0, 0, 0, 78, [], []), (5, 0, 1, 0, 0, 0, 79, [], []), (34, 0, 1, 0, 0, 0, 80, [], [])]
noncomputable def pc_14 : List (List mOp) := [pc_14_0, pc_14_1, pc_14_2]
/-- 15: PotAndFine$Course.meanOfOthersBefore(II)I -/
noncomputable def pc_15_0 : List mOp := [(0, 0, 0, 0, 0, 1, 1, [], []), (3, 3, 0, 0, 0, 0, 2, [], []), (0, 0, 0, 0, 0, 0, 3, [], []), (3, 4, 0, 0, 0, 0, 4, [], []), (0, 0, 0, 0, 0, 0, 5, [], []), (3, 5, 0, 0, 0, 0, 6, [], []), (2, 5, 0, 0, 0, 1, 7, [], []), (2, 0, 2, 0, 0, 0, 8, [], []), (20, 0, 1, 0, 0, 0, 9, [1], []), (20, 1, 0, 0, 0, 0, 10, [4], []), (18, 34, 3, 0, 0, 0, 11, [], []), (2, 5, 0, 0, 0, 0, 12, [], []), (2, 1, 0, 0, 0, 0, 13, [], []), (18, 32, 0, 0, 0, 0, 14, [], []), (2, 0, 2, 0, 0, 0, 15, [], []), (20, 0, 1, 0, 0, 0, 16, [1], []), (2, 5, 0, 0, 0, 0, 17, [], []), (2, 2, 0, 0, 0, 0, 18, [], []), (33, 37, 3, 0, 0, 0, 19, [], []), (17, 32, 0, 0, 0, 0, 20, [], []), (2, 3, 0, 0, 0, 0, 21, [], []), (2, 0, 2, 0, 0, 0, 22, [], []), (20, 1, 1, 0, 0, 0, 23, [1], []), (2, 5, 0, 0, 0, 0, 24, [], []), (2, 2, 0, 0, 0, 0, 25, [], []), (0, 0, 0, 1, 0, 0, 26, [], []), (5, 0, 1, 0, 0, 0, 27, [], []), (33, 92, 2, 0, 0, 0, 28, [], []), (23, 0, 0, 0, 0, 0, 29, [], []), (5, 0, 0, 0, 0, 0, 30, [], []), (3, 3, 0, 0, 0, 0, 31, [], []), (4, 4, 0, 1, 0, 0, 32, [], [])]
noncomputable def pc_15_1 : List mOp := [(4, 5, 0, 1, 0, 0, 33, [], []), (16, 6, 0, 0, 0, 0, 34, [], []), (2, 3, 0, 0, 0, 0, 35, [], []), (2, 4, 0, 0, 0, 0, 36, [], []), (33, 96, 2, 0, 0, 0, 37, [], []), (34, 0, 1, 0, 0, 0, 38, [], [])]
noncomputable def pc_15 : List (List mOp) := [pc_15_0, pc_15_1]
/-- 16: PotAndFine$Course.paidToFine(II)I -/
noncomputable def pc_16_0 : List mOp := [(0, 0, 0, 0, 0, 1, 1, [], []), (3, 3, 0, 0, 0, 0, 2, [], []), (0, 0, 0, 0, 0, 0, 3, [], []), (3, 4, 0, 0, 0, 0, 4, [], []), (2, 4, 0, 0, 0, 1, 5, [], []), (2, 0, 2, 0, 0, 0, 6, [], []), (20, 0, 1, 0, 0, 0, 7, [1], []), (20, 1, 0, 0, 0, 0, 8, [4], []), (18, 21, 3, 0, 0, 0, 9, [], []), (2, 3, 0, 0, 0, 0, 10, [], []), (2, 0, 2, 0, 0, 0, 11, [], []), (20, 2, 1, 0, 0, 0, 12, [1], []), (2, 4, 0, 0, 0, 0, 13, [], []), (2, 1, 0, 0, 0, 0, 14, [], []), (2, 2, 0, 0, 0, 0, 15, [], []), (33, 93, 3, 0, 0, 0, 16, [], []), (23, 0, 0, 0, 0, 0, 17, [], []), (5, 0, 0, 0, 0, 0, 18, [], []), (3, 3, 0, 0, 0, 0, 19, [], []), (4, 4, 0, 1, 0, 0, 20, [], []), (16, 4, 0, 0, 0, 0, 21, [], []), (2, 3, 0, 0, 0, 0, 22, [], []), (34, 0, 1, 0, 0, 0, 23, [], [])]
noncomputable def pc_16 : List (List mOp) := [pc_16_0]
/-- 17: PotAndFine$Course.paidBy(II)I -/
noncomputable def pc_17_0 : List mOp := [(0, 0, 0, 0, 0, 1, 1, [], []), (3, 3, 0, 0, 0, 0, 2, [], []), (0, 0, 0, 0, 0, 0, 3, [], []), (3, 4, 0, 0, 0, 0, 4, [], []), (2, 4, 0, 0, 0, 1, 5, [], []), (2, 0, 2, 0, 0, 0, 6, [], []), (20, 0, 1, 0, 0, 0, 7, [1], []), (20, 1, 0, 0, 0, 0, 8, [4], []), (18, 21, 3, 0, 0, 0, 9, [], []), (2, 3, 0, 0, 0, 0, 10, [], []), (2, 0, 2, 0, 0, 0, 11, [], []), (20, 2, 1, 0, 0, 0, 12, [1], []), (2, 1, 0, 0, 0, 0, 13, [], []), (2, 4, 0, 0, 0, 0, 14, [], []), (2, 2, 0, 0, 0, 0, 15, [], []), (33, 93, 3, 0, 0, 0, 16, [], []), (23, 0, 0, 0, 0, 0, 17, [], []), (5, 0, 0, 0, 0, 0, 18, [], []), (3, 3, 0, 0, 0, 0, 19, [], []), (4, 4, 0, 1, 0, 0, 20, [], []), (16, 4, 0, 0, 0, 0, 21, [], []), (2, 3, 0, 0, 0, 0, 22, [], []), (34, 0, 1, 0, 0, 0, 23, [], [])]
noncomputable def pc_17 : List (List mOp) := [pc_17_0]
/-- 18: PotAndFine$Course.lookAt(III)V -/
noncomputable def pc_18_0 : List mOp := [(2, 0, 2, 0, 0, 1, 1, [], []), (0, 0, 0, 0, 0, 0, 2, [], []), (21, 7, 0, 0, 0, 0, 3, [1], []), (2, 0, 2, 0, 0, 0, 4, [], []), (0, 0, 0, 0, 0, 0, 5, [], []), (21, 8, 0, 0, 0, 0, 6, [1], []), (0, 0, 0, 0, 0, 0, 7, [], []), (3, 4, 0, 0, 0, 0, 8, [], []), (2, 4, 0, 0, 0, 1, 9, [], []), (2, 0, 2, 0, 0, 0, 10, [], []), (20, 0, 1, 0, 0, 0, 11, [1], []), (20, 1, 0, 0, 0, 0, 12, [4], []), (18, 51, 3, 0, 0, 0, 13, [], []), (2, 0, 2, 0, 0, 0, 14, [], []), (20, 6, 1, 0, 0, 0, 15, [1], []), (2, 4, 0, 0, 0, 0, 16, [], []), (2, 4, 0, 0, 0, 0, 17, [], []), (2, 2, 0, 0, 0, 0, 18, [], []), (18, 21, 1, 0, 0, 0, 19, [], []), (2, 3, 0, 0, 0, 0, 20, [], []), (16, 27, 0, 0, 0, 0, 21, [], []), (2, 0, 2, 0, 0, 0, 22, [], []), (20, 1, 1, 0, 0, 0, 23, [1], []), (2, 4, 0, 0, 0, 0, 24, [], []), (2, 1, 0, 0, 0, 0, 25, [], []), (33, 92, 2, 0, 0, 0, 26, [], []), (23, 0, 0, 0, 0, 0, 27, [], []), (26, 0, 0, 0, 0, 0, 28, [], []), (2, 0, 2, 0, 0, 0, 29, [], []), (20, 6, 1, 0, 0, 0, 30, [1], []), (2, 4, 0, 0, 0, 0, 31, [], []), (23, 0, 0, 0, 0, 0, 32, [], [])]
noncomputable def pc_18_1 : List mOp := [(0, 0, 0, (-9), 0, 0, 33, [], []), (18, 49, 0, 0, 0, 0, 34, [], []), (2, 0, 2, 0, 0, 0, 35, [], []), (14, 0, 0, 0, 0, 0, 36, [], []), (20, 7, 0, 0, 0, 0, 37, [1], []), (2, 0, 2, 0, 0, 0, 38, [], []), (20, 6, 1, 0, 0, 0, 39, [1], []), (2, 4, 0, 0, 0, 0, 40, [], []), (23, 0, 0, 0, 0, 0, 41, [], []), (5, 0, 0, 0, 0, 0, 42, [], []), (21, 7, 0, 0, 0, 0, 43, [1], []), (2, 0, 2, 0, 0, 0, 44, [], []), (14, 0, 0, 0, 0, 0, 45, [], []), (20, 8, 0, 0, 0, 0, 46, [1], []), (0, 0, 0, 1, 0, 0, 47, [], []), (5, 0, 0, 0, 0, 0, 48, [], []), (21, 8, 0, 0, 0, 0, 49, [1], []), (4, 4, 0, 1, 0, 0, 50, [], []), (16, 8, 0, 0, 0, 0, 51, [], []), (2, 0, 2, 0, 0, 0, 52, [], []), (2, 0, 2, 0, 0, 0, 53, [], []), (20, 7, 0, 0, 0, 0, 54, [1], []), (2, 0, 2, 0, 0, 0, 55, [], []), (20, 8, 0, 0, 0, 0, 56, [1], []), (33, 96, 2, 0, 0, 0, 57, [], []), (21, 9, 0, 0, 0, 0, 58, [1], []), (34, 0, 0, 0, 0, 0, 59, [], [])]
noncomputable def pc_18 : List (List mOp) := [pc_18_0, pc_18_1]
/-- 19: PotAndFine$Course.payAll(I)V -/
noncomputable def pc_19_0 : List mOp := [(0, 0, 0, 0, 0, 1, 1, [], []), (3, 2, 0, 0, 0, 0, 2, [], []), (2, 2, 0, 0, 0, 1, 3, [], [3]), (2, 0, 2, 0, 0, 0, 4, [], []), (20, 0, 1, 0, 0, 0, 5, [1], []), (20, 1, 0, 0, 0, 0, 6, [4], []), (18, 30, 3, 0, 0, 0, 7, [], []), (0, 0, 0, 0, 0, 0, 8, [], []), (3, 3, 0, 0, 0, 0, 9, [], []), (2, 3, 0, 0, 0, 1, 10, [], []), (2, 0, 2, 0, 0, 0, 11, [], []), (20, 0, 1, 0, 0, 0, 12, [1], []), (20, 1, 0, 0, 0, 0, 13, [4], []), (18, 28, 3, 0, 0, 0, 14, [], []), (2, 0, 2, 0, 0, 0, 15, [], []), (20, 2, 1, 0, 0, 0, 16, [1], []), (2, 2, 0, 0, 0, 0, 17, [], []), (2, 3, 0, 0, 0, 0, 18, [], []), (2, 1, 0, 0, 0, 0, 19, [], []), (33, 93, 3, 0, 0, 0, 20, [], []), (2, 0, 2, 0, 0, 0, 21, [], []), (2, 2, 0, 0, 0, 0, 22, [], []), (2, 3, 0, 0, 0, 0, 23, [], []), (2, 1, 0, 0, 0, 0, 24, [], []), (33, 23, 4, 0, 0, 0, 25, [], []), (26, 0, 0, 0, 0, 0, 26, [], []), (4, 3, 0, 1, 0, 0, 27, [], []), (16, 9, 0, 0, 0, 0, 28, [], []), (4, 2, 0, 1, 0, 0, 29, [], []), (16, 2, 0, 0, 0, 0, 30, [], []), (34, 0, 0, 0, 0, 0, 31, [], [])]
noncomputable def pc_19 : List (List mOp) := [pc_19_0]
/-- 20: PotAndFine$Course.settleAll(I)V -/
noncomputable def pc_20_0 : List mOp := [(0, 0, 0, 0, 0, 1, 1, [], []), (3, 2, 0, 0, 0, 0, 2, [], []), (2, 2, 0, 0, 0, 1, 3, [], [3, 4, 5, 6]), (2, 0, 2, 0, 0, 0, 4, [], []), (20, 0, 1, 0, 0, 0, 5, [1], []), (20, 1, 0, 0, 0, 0, 6, [4], []), (18, 79, 3, 0, 0, 0, 7, [], []), (2, 2, 0, 0, 0, 0, 8, [], []), (2, 1, 0, 0, 0, 0, 9, [], []), (33, 92, 2, 0, 0, 0, 10, [], []), (3, 3, 0, 0, 0, 0, 11, [], []), (1, 0, 0, 0, 0, 0, 12, [], []), (3, 4, 1, 0, 0, 0, 13, [], []), (0, 0, 0, 0, 0, 0, 14, [], []), (3, 6, 0, 0, 0, 0, 15, [], []), (2, 0, 2, 0, 0, 0, 16, [], []), (20, 6, 1, 0, 0, 0, 17, [1], []), (2, 2, 0, 0, 0, 0, 18, [], []), (23, 0, 0, 0, 0, 0, 19, [], []), (0, 0, 0, (-9), 0, 0, 20, [], []), (18, 41, 0, 0, 0, 0, 21, [], []), (2, 0, 2, 0, 0, 0, 22, [], []), (2, 0, 2, 0, 0, 0, 23, [], []), (2, 2, 0, 0, 0, 0, 24, [], []), (2, 1, 0, 0, 0, 0, 25, [], []), (33, 17, 3, 0, 0, 0, 26, [], []), (2, 0, 2, 0, 0, 0, 27, [], []), (2, 2, 0, 0, 0, 0, 28, [], []), (2, 1, 0, 0, 0, 0, 29, [], []), (33, 16, 3, 0, 0, 0, 30, [], []), (33, 21, 3, 0, 0, 0, 31, [], []), (3, 6, 0, 0, 0, 0, 32, [], [])]
noncomputable def pc_20_1 : List mOp := [(2, 0, 2, 0, 0, 0, 33, [], []), (2, 2, 0, 0, 0, 0, 34, [], []), (33, 22, 2, 0, 0, 0, 35, [], []), (1, 0, 0, 0, 600, 0, 36, [], []), (2, 6, 0, 0, 0, 0, 37, [], []), (12, 0, 0, 0, 0, 0, 38, [], []), (9, 0, 2, 0, 0, 0, 39, [], []), (9, 0, 1, 0, 0, 0, 40, [], []), (3, 4, 1, 0, 0, 0, 41, [], []), (2, 0, 2, 0, 0, 0, 42, [], []), (20, 4, 1, 0, 0, 0, 43, [1], []), (2, 3, 0, 0, 0, 0, 44, [], []), (2, 4, 1, 0, 0, 0, 45, [], []), (2, 1, 0, 0, 0, 0, 46, [], []), (17, 56, 5, 0, 0, 0, 47, [], []), (2, 0, 2, 0, 0, 0, 48, [], []), (20, 4, 1, 0, 0, 0, 49, [1], []), (2, 2, 0, 0, 0, 0, 50, [], []), (2, 1, 0, 0, 0, 0, 51, [], []), (0, 0, 0, 1, 0, 0, 52, [], []), (5, 0, 1, 0, 0, 0, 53, [], []), (33, 92, 2, 0, 0, 0, 54, [], []), (24, 0, 0, 0, 0, 0, 55, [], []), (16, 57, 0, 0, 0, 0, 56, [], []), (1, 0, 0, 0, 0, 0, 57, [], []), (9, 0, 0, 0, 0, 1, 58, [], [4, 5]), (27, 0, 0, 0, 0, 0, 59, [], []), (2, 0, 2, 0, 0, 0, 60, [], []), (20, 3, 1, 0, 0, 0, 61, [1], []), (2, 3, 0, 0, 0, 0, 62, [], []), (2, 6, 0, 0, 0, 0, 63, [], []), (2, 1, 0, 0, 0, 0, 64, [], [])]
noncomputable def pc_20_2 : List mOp := [(17, 74, 5, 0, 0, 0, 65, [], []), (2, 0, 2, 0, 0, 0, 66, [], []), (20, 3, 1, 0, 0, 0, 67, [1], []), (2, 2, 0, 0, 0, 0, 68, [], []), (2, 1, 0, 0, 0, 0, 69, [], []), (0, 0, 0, 1, 0, 0, 70, [], []), (5, 0, 1, 0, 0, 0, 71, [], []), (33, 92, 2, 0, 0, 0, 72, [], []), (23, 0, 0, 0, 0, 0, 73, [], []), (16, 75, 0, 0, 0, 0, 74, [], []), (0, 0, 0, 0, 0, 0, 75, [], []), (5, 0, 0, 0, 0, 1, 76, [], [3, 4, 5, 6]), (26, 0, 0, 0, 0, 0, 77, [], []), (4, 2, 0, 1, 0, 0, 78, [], []), (16, 2, 0, 0, 0, 0, 79, [], []), (34, 0, 0, 0, 0, 0, 80, [], [])]
noncomputable def pc_20 : List (List mOp) := [pc_20_0, pc_20_1, pc_20_2]
/-- 21: PotAndFine$Course.lossBetween(II)I -/
noncomputable def pc_21_0 : List mOp := [(2, 0, 2, 0, 0, 1, 1, [], []), (20, 0, 1, 0, 0, 0, 2, [1], []), (20, 0, 1, 0, 0, 0, 3, [4], []), (0, 0, 0, 3, 0, 0, 4, [], []), (23, 0, 0, 0, 0, 0, 5, [], []), (2, 1, 0, 0, 0, 0, 6, [], []), (5, 0, 2, 0, 0, 0, 7, [], []), (2, 0, 2, 0, 0, 0, 8, [], []), (20, 0, 1, 0, 0, 0, 9, [1], []), (20, 0, 1, 0, 0, 0, 10, [4], []), (0, 0, 0, 2, 0, 0, 11, [], []), (23, 0, 0, 0, 0, 0, 12, [], []), (2, 2, 0, 0, 0, 0, 13, [], []), (5, 0, 2, 0, 0, 0, 14, [], []), (5, 0, 0, 0, 0, 0, 15, [], []), (34, 0, 1, 0, 0, 0, 16, [], [])]
noncomputable def pc_21 : List (List mOp) := [pc_21_0]
/-- 22: PotAndFine$Course.gotFromPot(I)J -/
noncomputable def pc_22_0 : List mOp := [(2, 0, 2, 0, 0, 1, 1, [], []), (20, 0, 1, 0, 0, 0, 2, [1], []), (20, 0, 1, 0, 0, 0, 3, [4], []), (0, 0, 0, 0, 0, 0, 4, [], []), (23, 0, 0, 0, 0, 0, 5, [], []), (2, 0, 2, 0, 0, 0, 6, [], []), (20, 6, 1, 0, 0, 0, 7, [1], []), (2, 1, 0, 0, 0, 0, 8, [], []), (23, 0, 0, 0, 0, 0, 9, [], []), (5, 0, 1, 0, 0, 0, 10, [], []), (3, 2, 0, 0, 0, 0, 11, [], []), (2, 0, 2, 0, 0, 0, 12, [], []), (20, 7, 0, 0, 0, 0, 13, [1], []), (2, 0, 2, 0, 0, 0, 14, [], []), (20, 0, 1, 0, 0, 0, 15, [1], []), (20, 0, 1, 0, 0, 0, 16, [4], []), (0, 0, 0, 1, 0, 0, 17, [], []), (23, 0, 0, 0, 0, 0, 18, [], []), (5, 0, 2, 0, 0, 0, 19, [], []), (0, 0, 0, 60, 0, 0, 20, [], []), (5, 0, 2, 0, 0, 0, 21, [], []), (2, 0, 2, 0, 0, 0, 22, [], []), (20, 8, 0, 0, 0, 0, 23, [1], []), (33, 96, 2, 0, 0, 0, 24, [], []), (3, 3, 0, 0, 0, 0, 25, [], []), (1, 0, 0, 0, 600, 0, 26, [], []), (2, 2, 0, 0, 0, 0, 27, [], []), (12, 0, 0, 0, 0, 0, 28, [], []), (9, 0, 2, 0, 0, 0, 29, [], []), (2, 3, 0, 0, 0, 0, 30, [], []), (12, 0, 0, 0, 0, 0, 31, [], []), (9, 0, 0, 0, 0, 0, 32, [], [])]
noncomputable def pc_22_1 : List mOp := [(34, 0, 2, 0, 0, 0, 33, [], [])]
noncomputable def pc_22 : List (List mOp) := [pc_22_0, pc_22_1]
/-- 23: PotAndFine$Course.dueFrom(III)I -/
noncomputable def pc_23_0 : List mOp := [(2, 0, 2, 0, 0, 1, 1, [], []), (20, 0, 1, 0, 0, 0, 2, [1], []), (20, 0, 1, 0, 0, 0, 3, [4], []), (0, 0, 0, 2, 0, 0, 4, [], []), (23, 0, 0, 0, 0, 0, 5, [], []), (17, 21, 5, 0, 0, 0, 6, [], []), (2, 1, 0, 0, 0, 0, 7, [], []), (2, 2, 0, 0, 0, 0, 8, [], []), (18, 21, 0, 0, 0, 0, 9, [], []), (2, 0, 2, 0, 0, 0, 10, [], []), (20, 6, 1, 0, 0, 0, 11, [1], []), (2, 1, 0, 0, 0, 0, 12, [], []), (23, 0, 0, 0, 0, 0, 13, [], []), (0, 0, 0, (-9), 0, 0, 14, [], []), (18, 21, 0, 0, 0, 0, 15, [], []), (2, 0, 2, 0, 0, 0, 16, [], []), (20, 6, 1, 0, 0, 0, 17, [1], []), (2, 2, 0, 0, 0, 0, 18, [], []), (23, 0, 0, 0, 0, 0, 19, [], []), (0, 0, 0, (-9), 0, 0, 20, [], []), (18, 23, 1, 0, 0, 0, 21, [], []), (0, 0, 0, 0, 0, 1, 22, [], [0, 1, 2, 3, 4]), (34, 0, 1, 0, 0, 0, 23, [], []), (2, 0, 2, 0, 0, 0, 24, [], []), (20, 0, 1, 0, 0, 0, 25, [1], []), (20, 2, 1, 0, 0, 0, 26, [4], []), (2, 1, 0, 0, 0, 0, 27, [], []), (23, 0, 0, 0, 0, 0, 28, [], []), (19, 87, 3, 0, 0, 0, 29, [29, 40, 58], []), (2, 0, 2, 0, 0, 0, 30, [], []), (2, 1, 0, 0, 0, 0, 31, [], []), (2, 0, 2, 0, 0, 0, 32, [], [])]
noncomputable def pc_23_1 : List mOp := [(20, 9, 0, 0, 0, 0, 33, [1], []), (2, 0, 2, 0, 0, 0, 34, [], []), (20, 6, 1, 0, 0, 0, 35, [1], []), (2, 2, 0, 0, 0, 0, 36, [], []), (23, 0, 0, 0, 0, 0, 37, [], []), (5, 0, 1, 0, 0, 0, 38, [], []), (33, 24, 3, 0, 0, 0, 39, [], []), (34, 0, 1, 0, 0, 0, 40, [], []), (2, 2, 0, 0, 0, 0, 41, [], []), (2, 0, 2, 0, 0, 0, 42, [], []), (2, 1, 0, 0, 0, 0, 43, [], []), (33, 25, 2, 0, 0, 0, 44, [], []), (18, 56, 1, 0, 0, 0, 45, [], []), (2, 0, 2, 0, 0, 0, 46, [], []), (2, 1, 0, 0, 0, 0, 47, [], []), (2, 0, 2, 0, 0, 0, 48, [], []), (20, 6, 1, 0, 0, 0, 49, [1], []), (2, 2, 0, 0, 0, 0, 50, [], []), (23, 0, 0, 0, 0, 0, 51, [], []), (2, 0, 2, 0, 0, 0, 52, [], []), (20, 9, 0, 0, 0, 0, 53, [1], []), (5, 0, 1, 0, 0, 0, 54, [], []), (33, 24, 3, 0, 0, 0, 55, [], []), (16, 57, 0, 0, 0, 0, 56, [], []), (0, 0, 0, 0, 0, 0, 57, [], []), (34, 0, 1, 0, 0, 1, 58, [], [0, 1, 2, 3, 4]), (2, 3, 0, 0, 0, 0, 59, [], []), (17, 70, 5, 0, 0, 0, 60, [], []), (2, 0, 2, 0, 0, 0, 61, [], []), (20, 2, 1, 0, 0, 0, 62, [1], []), (2, 2, 0, 0, 0, 0, 63, [], []), (2, 1, 0, 0, 0, 0, 64, [], [])]
noncomputable def pc_23_2 : List mOp := [(2, 3, 0, 0, 0, 0, 65, [], []), (0, 0, 0, 1, 0, 0, 66, [], []), (5, 0, 1, 0, 0, 0, 67, [], []), (33, 93, 3, 0, 0, 0, 68, [], []), (23, 0, 0, 0, 0, 0, 69, [], []), (16, 71, 0, 0, 0, 0, 70, [], []), (0, 0, 0, 0, 0, 0, 71, [], []), (3, 4, 0, 0, 0, 1, 72, [], [3, 4]), (0, 0, 0, 9, 0, 0, 73, [], []), (2, 0, 2, 0, 0, 0, 74, [], []), (2, 1, 0, 0, 0, 0, 75, [], []), (2, 0, 2, 0, 0, 0, 76, [], []), (20, 9, 0, 0, 0, 0, 77, [1], []), (2, 0, 2, 0, 0, 0, 78, [], []), (20, 6, 1, 0, 0, 0, 79, [1], []), (2, 2, 0, 0, 0, 0, 80, [], []), (23, 0, 0, 0, 0, 0, 81, [], []), (5, 0, 1, 0, 0, 0, 82, [], []), (33, 24, 3, 0, 0, 0, 83, [], []), (2, 4, 0, 0, 0, 0, 84, [], []), (5, 0, 0, 0, 0, 0, 85, [], []), (41, 0, 1, 0, 0, 0, 86, [], []), (34, 0, 1, 0, 0, 0, 87, [], []), (0, 0, 0, 0, 0, 0, 88, [], []), (34, 0, 1, 0, 0, 0, 89, [], [])]
noncomputable def pc_23 : List (List mOp) := [pc_23_0, pc_23_1, pc_23_2]
/-- 24: PotAndFine$Course.byAnger(II)I -/
noncomputable def pc_24_0 : List mOp := [(2, 2, 0, 0, 0, 1, 1, [], []), (17, 14, 5, 0, 0, 0, 2, [], []), (0, 0, 0, 9, 0, 0, 3, [], []), (2, 2, 0, 0, 0, 0, 4, [], []), (2, 0, 2, 0, 0, 0, 5, [], []), (20, 0, 1, 0, 0, 0, 6, [1], []), (20, 4, 1, 0, 0, 0, 7, [4], []), (2, 1, 0, 0, 0, 0, 8, [], []), (23, 0, 0, 0, 0, 0, 9, [], []), (5, 0, 2, 0, 0, 0, 10, [], []), (0, 0, 0, 9, 0, 0, 11, [], []), (6, 0, 0, 0, 0, 0, 12, [], []), (41, 0, 1, 0, 0, 0, 13, [], []), (16, 15, 0, 0, 0, 0, 14, [], []), (0, 0, 0, 0, 0, 0, 15, [], []), (34, 0, 1, 0, 0, 0, 16, [], [])]
noncomputable def pc_24 : List (List mOp) := [pc_24_0]
/-- 25: PotAndFine$Course.greatestBeside(I)I -/
noncomputable def pc_25_0 : List mOp := [(0, 0, 0, (-9), 0, 1, 1, [], []), (3, 2, 0, 0, 0, 0, 2, [], []), (0, 0, 0, 0, 0, 0, 3, [], []), (3, 3, 0, 0, 0, 0, 4, [], []), (2, 3, 0, 0, 0, 1, 5, [], []), (2, 0, 2, 0, 0, 0, 6, [], []), (20, 0, 1, 0, 0, 0, 7, [1], []), (20, 1, 0, 0, 0, 0, 8, [4], []), (18, 34, 3, 0, 0, 0, 9, [], []), (2, 3, 0, 0, 0, 0, 10, [], []), (2, 1, 0, 0, 0, 0, 11, [], []), (18, 32, 0, 0, 0, 0, 12, [], []), (2, 0, 2, 0, 0, 0, 13, [], []), (20, 6, 1, 0, 0, 0, 14, [1], []), (2, 3, 0, 0, 0, 0, 15, [], []), (23, 0, 0, 0, 0, 0, 16, [], []), (0, 0, 0, (-9), 0, 0, 17, [], []), (18, 32, 0, 0, 0, 0, 18, [], []), (2, 2, 0, 0, 0, 0, 19, [], []), (0, 0, 0, (-9), 0, 0, 20, [], []), (18, 30, 0, 0, 0, 0, 21, [], []), (2, 0, 2, 0, 0, 0, 22, [], []), (20, 6, 1, 0, 0, 0, 23, [1], []), (2, 3, 0, 0, 0, 0, 24, [], []), (23, 0, 0, 0, 0, 0, 25, [], []), (2, 0, 2, 0, 0, 0, 26, [], []), (20, 6, 1, 0, 0, 0, 27, [1], []), (2, 2, 0, 0, 0, 0, 28, [], []), (23, 0, 0, 0, 0, 0, 29, [], []), (18, 32, 5, 0, 0, 0, 30, [], []), (2, 3, 0, 0, 0, 0, 31, [], []), (3, 2, 0, 0, 0, 0, 32, [], [])]
noncomputable def pc_25_1 : List mOp := [(4, 3, 0, 1, 0, 0, 33, [], []), (16, 4, 0, 0, 0, 0, 34, [], []), (2, 2, 0, 0, 0, 0, 35, [], []), (34, 0, 1, 0, 0, 0, 36, [], [])]
noncomputable def pc_25 : List (List mOp) := [pc_25_0, pc_25_1]
/-- 26: PotAndFine$Grammar.<init>(Ljava/lang/String;[I[I[IZII)V -/
noncomputable def pc_26_0 : List mOp := [(2, 0, 2, 0, 0, 1, 1, [], []), (37, 0, 0, 0, 0, 0, 2, [], []), (2, 0, 2, 0, 0, 0, 3, [], []), (2, 1, 2, 0, 0, 0, 4, [], []), (36, 0, 0, 0, 0, 0, 5, [2], []), (2, 0, 2, 0, 0, 0, 6, [], []), (2, 2, 2, 0, 0, 0, 7, [], []), (36, 1, 0, 0, 0, 0, 8, [2], []), (2, 0, 2, 0, 0, 0, 9, [], []), (2, 3, 2, 0, 0, 0, 10, [], []), (36, 2, 0, 0, 0, 0, 11, [2], []), (2, 0, 2, 0, 0, 0, 12, [], []), (2, 4, 2, 0, 0, 0, 13, [], []), (36, 3, 0, 0, 0, 0, 14, [2], []), (2, 0, 2, 0, 0, 0, 15, [], []), (2, 5, 0, 0, 0, 0, 16, [], []), (38, 4, 0, 0, 0, 0, 17, [2], []), (2, 0, 2, 0, 0, 0, 18, [], []), (2, 6, 0, 0, 0, 0, 19, [], []), (21, 5, 0, 0, 0, 0, 20, [2], []), (2, 0, 2, 0, 0, 0, 21, [], []), (2, 7, 0, 0, 0, 0, 22, [], []), (21, 6, 0, 0, 0, 0, 23, [2], []), (34, 0, 0, 0, 0, 0, 24, [], [])]
noncomputable def pc_26 : List (List mOp) := [pc_26_0]
/-- 27: PotAndFine$Kept.<init>()V -/
noncomputable def pc_27_0 : List mOp := [(2, 0, 2, 0, 0, 1, 1, [], []), (37, 0, 0, 0, 0, 0, 2, [], []), (2, 0, 2, 0, 0, 0, 3, [], []), (39, 0, 0, 0, 0, 0, 4, [3], []), (2, 0, 2, 0, 0, 0, 5, [], []), (0, 0, 0, 240, 0, 0, 6, [], []), (31, 1, 240, 240, 0, 0, 7, [], []), (36, 1, 0, 0, 0, 0, 8, [3], []), (2, 0, 2, 0, 0, 0, 9, [], []), (0, 0, 0, 6, 0, 0, 10, [], []), (31, 1, 6, 6, 0, 0, 11, [], []), (36, 2, 0, 0, 0, 0, 12, [3], []), (2, 0, 2, 0, 0, 0, 13, [], []), (0, 0, 0, 48, 0, 0, 14, [], []), (31, 1, 48, 48, 0, 0, 15, [], []), (36, 3, 0, 0, 0, 0, 16, [3], []), (34, 0, 0, 0, 0, 0, 17, [], [])]
noncomputable def pc_27 : List (List mOp) := [pc_27_0]
/-- 28: PotAndFine$Kept.fillFrom(LPotAndFine$Setup;LPotAndFine$Book;)V -/
noncomputable def pc_28_0 : List mOp := [(2, 1, 2, 0, 0, 1, 1, [], []), (20, 5, 1, 0, 0, 0, 2, [4], []), (0, 0, 0, 0, 0, 0, 3, [], []), (2, 0, 2, 0, 0, 0, 4, [], []), (20, 1, 1, 0, 0, 0, 5, [3], []), (0, 0, 0, 0, 0, 0, 6, [], []), (2, 0, 2, 0, 0, 0, 7, [], []), (20, 1, 1, 0, 0, 0, 8, [3], []), (29, 0, 0, 0, 0, 0, 9, [], []), (35, 0, 0, 0, 0, 0, 10, [], []), (2, 1, 2, 0, 0, 0, 11, [], []), (20, 6, 1, 0, 0, 0, 12, [4], []), (0, 0, 0, 0, 0, 0, 13, [], []), (2, 0, 2, 0, 0, 0, 14, [], []), (20, 2, 1, 0, 0, 0, 15, [3], []), (0, 0, 0, 0, 0, 0, 16, [], []), (2, 0, 2, 0, 0, 0, 17, [], []), (20, 2, 1, 0, 0, 0, 18, [3], []), (29, 0, 0, 0, 0, 0, 19, [], []), (35, 0, 0, 0, 0, 0, 20, [], []), (2, 2, 2, 0, 0, 0, 21, [], []), (20, 0, 1, 0, 0, 0, 22, [0], []), (0, 0, 0, 0, 0, 0, 23, [], []), (2, 0, 2, 0, 0, 0, 24, [], []), (20, 3, 1, 0, 0, 0, 25, [3], []), (0, 0, 0, 0, 0, 0, 26, [], []), (2, 0, 2, 0, 0, 0, 27, [], []), (20, 3, 1, 0, 0, 0, 28, [3], []), (29, 0, 0, 0, 0, 0, 29, [], []), (35, 0, 0, 0, 0, 0, 30, [], []), (2, 0, 2, 0, 0, 0, 31, [], []), (39, 0, 0, 1, 0, 0, 32, [3], [])]
noncomputable def pc_28_1 : List mOp := [(34, 0, 0, 0, 0, 0, 33, [], [])]
noncomputable def pc_28 : List (List mOp) := [pc_28_0, pc_28_1]
/-- 29: PotAndFine$Kept.giveBack(LPotAndFine$Setup;LPotAndFine$Book;)V -/
noncomputable def pc_29_0 : List mOp := [(2, 0, 2, 0, 0, 1, 1, [], []), (20, 1, 1, 0, 0, 0, 2, [3], []), (0, 0, 0, 0, 0, 0, 3, [], []), (2, 1, 2, 0, 0, 0, 4, [], []), (20, 5, 1, 0, 0, 0, 5, [4], []), (0, 0, 0, 0, 0, 0, 6, [], []), (2, 0, 2, 0, 0, 0, 7, [], []), (20, 1, 1, 0, 0, 0, 8, [3], []), (29, 0, 0, 0, 0, 0, 9, [], []), (35, 0, 0, 0, 0, 0, 10, [], []), (2, 0, 2, 0, 0, 0, 11, [], []), (20, 2, 1, 0, 0, 0, 12, [3], []), (0, 0, 0, 0, 0, 0, 13, [], []), (2, 1, 2, 0, 0, 0, 14, [], []), (20, 6, 1, 0, 0, 0, 15, [4], []), (0, 0, 0, 0, 0, 0, 16, [], []), (2, 0, 2, 0, 0, 0, 17, [], []), (20, 2, 1, 0, 0, 0, 18, [3], []), (29, 0, 0, 0, 0, 0, 19, [], []), (35, 0, 0, 0, 0, 0, 20, [], []), (2, 0, 2, 0, 0, 0, 21, [], []), (20, 3, 1, 0, 0, 0, 22, [3], []), (0, 0, 0, 0, 0, 0, 23, [], []), (2, 2, 2, 0, 0, 0, 24, [], []), (20, 0, 1, 0, 0, 0, 25, [0], []), (0, 0, 0, 0, 0, 0, 26, [], []), (2, 0, 2, 0, 0, 0, 27, [], []), (20, 3, 1, 0, 0, 0, 28, [3], []), (29, 0, 0, 0, 0, 0, 29, [], []), (35, 0, 0, 0, 0, 0, 30, [], []), (34, 0, 0, 0, 0, 0, 31, [], [])]
noncomputable def pc_29 : List (List mOp) := [pc_29_0]
/-- 30: PotAndFine$Setup.<init>()V -/
noncomputable def pc_30_0 : List mOp := [(2, 0, 2, 0, 0, 1, 1, [], []), (37, 0, 0, 0, 0, 0, 2, [], []), (2, 0, 2, 0, 0, 0, 3, [], []), (0, 0, 0, 4, 0, 0, 4, [], []), (31, 1, 4, 4, 0, 0, 5, [], []), (36, 0, 0, 0, 0, 0, 6, [4], []), (2, 0, 2, 0, 0, 0, 7, [], []), (0, 0, 0, 2, 0, 0, 8, [], []), (21, 1, 0, 0, 0, 0, 9, [4], []), (2, 0, 2, 0, 0, 0, 10, [], []), (0, 0, 0, 6, 0, 0, 11, [], []), (31, 1, 6, 6, 0, 0, 12, [], []), (36, 2, 0, 0, 0, 0, 13, [4], []), (2, 0, 2, 0, 0, 0, 14, [], []), (0, 0, 0, 6, 0, 0, 15, [], []), (31, 1, 6, 6, 0, 0, 16, [], []), (36, 3, 0, 0, 0, 0, 17, [4], []), (2, 0, 2, 0, 0, 0, 18, [], []), (0, 0, 0, 6, 0, 0, 19, [], []), (31, 1, 6, 6, 0, 0, 20, [], []), (36, 4, 0, 0, 0, 0, 21, [4], []), (2, 0, 2, 0, 0, 0, 22, [], []), (0, 0, 0, 240, 0, 0, 23, [], []), (31, 1, 240, 240, 0, 0, 24, [], []), (36, 5, 0, 0, 0, 0, 25, [4], []), (2, 0, 2, 0, 0, 0, 26, [], []), (0, 0, 0, 6, 0, 0, 27, [], []), (31, 1, 6, 6, 0, 0, 28, [], []), (36, 6, 0, 0, 0, 0, 29, [4], []), (22, 1004, 0, 0, 0, 0, 30, [], []), (0, 0, 0, 0, 0, 0, 31, [], []), (2, 0, 2, 0, 0, 0, 32, [], [])]
noncomputable def pc_30_1 : List mOp := [(20, 0, 1, 0, 0, 0, 33, [4], []), (0, 0, 0, 0, 0, 0, 34, [], []), (0, 0, 0, 4, 0, 0, 35, [], []), (35, 0, 0, 0, 0, 0, 36, [], []), (2, 0, 2, 0, 0, 0, 37, [], []), (20, 2, 1, 0, 0, 0, 38, [4], []), (0, 0, 0, 1, 0, 0, 39, [], []), (33, 195, 2, 0, 0, 0, 40, [], []), (2, 0, 2, 0, 0, 0, 41, [], []), (20, 5, 1, 0, 0, 0, 42, [4], []), (0, 0, 0, (-9), 0, 0, 43, [], []), (33, 195, 2, 0, 0, 0, 44, [], []), (2, 0, 2, 0, 0, 0, 45, [], []), (20, 6, 1, 0, 0, 0, 46, [4], []), (0, 0, 0, 40, 0, 0, 47, [], []), (33, 195, 2, 0, 0, 0, 48, [], []), (34, 0, 0, 0, 0, 0, 49, [], [])]
noncomputable def pc_30 : List (List mOp) := [pc_30_0, pc_30_1]
/-- 31: PotAndFine$Setup.takeRuleText(LPotAndFine$Text;)V -/
noncomputable def pc_31_0 : List mOp := [(22, 1004, 0, 0, 0, 1, 1, [], []), (0, 0, 0, 0, 0, 0, 2, [], []), (2, 0, 2, 0, 0, 0, 3, [], []), (20, 0, 1, 0, 0, 0, 4, [4], []), (0, 0, 0, 0, 0, 0, 5, [], []), (0, 0, 0, 4, 0, 0, 6, [], []), (35, 0, 0, 0, 0, 0, 7, [], []), (0, 0, 0, 0, 0, 0, 8, [], []), (3, 2, 0, 0, 0, 0, 9, [], []), (2, 2, 0, 0, 0, 1, 10, [], []), (2, 1, 2, 0, 0, 0, 11, [], []), (20, 4, 0, 0, 0, 0, 12, [5], []), (18, 26, 3, 0, 0, 0, 13, [], []), (2, 0, 2, 0, 0, 0, 14, [], []), (20, 0, 1, 0, 0, 0, 15, [4], []), (2, 1, 2, 0, 0, 0, 16, [], []), (20, 2, 1, 0, 0, 0, 17, [5], []), (2, 2, 0, 0, 0, 0, 18, [], []), (23, 0, 0, 0, 0, 0, 19, [], []), (2, 1, 2, 0, 0, 0, 20, [], []), (20, 3, 1, 0, 0, 0, 21, [5], []), (2, 2, 0, 0, 0, 0, 22, [], []), (23, 0, 0, 0, 0, 0, 23, [], []), (26, 0, 0, 0, 0, 0, 24, [], []), (4, 2, 0, 1, 0, 0, 25, [], []), (16, 9, 0, 0, 0, 0, 26, [], []), (34, 0, 0, 0, 0, 0, 27, [], [])]
noncomputable def pc_31 : List (List mOp) := [pc_31_0]
/-- 32: PotAndFine$Setup.takeGroupText(LPotAndFine$Text;)V -/
noncomputable def pc_32_0 : List mOp := [(2, 0, 2, 0, 0, 1, 1, [], []), (2, 1, 2, 0, 0, 0, 2, [], []), (20, 4, 0, 0, 0, 0, 3, [5], []), (21, 1, 0, 0, 0, 0, 4, [4], []), (0, 0, 0, 0, 0, 0, 5, [], []), (3, 2, 0, 0, 0, 0, 6, [], []), (2, 2, 0, 0, 0, 1, 7, [], [3, 4]), (2, 0, 2, 0, 0, 0, 8, [], []), (20, 1, 0, 0, 0, 0, 9, [4], []), (18, 53, 3, 0, 0, 0, 10, [], []), (2, 1, 2, 0, 0, 0, 11, [], []), (20, 3, 1, 0, 0, 0, 12, [5], []), (2, 2, 0, 0, 0, 0, 13, [], []), (23, 0, 0, 0, 0, 0, 14, [], []), (3, 3, 0, 0, 0, 0, 15, [], []), (2, 0, 2, 0, 0, 0, 16, [], []), (20, 2, 1, 0, 0, 0, 17, [4], []), (2, 2, 0, 0, 0, 0, 18, [], []), (2, 1, 2, 0, 0, 0, 19, [], []), (20, 2, 1, 0, 0, 0, 20, [5], []), (2, 2, 0, 0, 0, 0, 21, [], []), (23, 0, 0, 0, 0, 0, 22, [], []), (26, 0, 0, 0, 0, 0, 23, [], []), (2, 0, 2, 0, 0, 0, 24, [], []), (20, 2, 1, 0, 0, 0, 25, [4], []), (2, 2, 0, 0, 0, 0, 26, [], []), (23, 0, 0, 0, 0, 0, 27, [], []), (33, 33, 1, 0, 0, 0, 28, [], []), (3, 4, 0, 0, 0, 0, 29, [], []), (2, 0, 2, 0, 0, 0, 30, [], []), (20, 3, 1, 0, 0, 0, 31, [4], []), (2, 2, 0, 0, 0, 0, 32, [], [])]
noncomputable def pc_32_1 : List mOp := [(2, 4, 0, 0, 0, 0, 33, [], []), (17, 38, 0, 0, 0, 0, 34, [], []), (2, 3, 0, 0, 0, 0, 35, [], []), (0, 0, 0, 10, 0, 0, 36, [], []), (6, 0, 0, 0, 0, 0, 37, [], []), (16, 39, 0, 0, 0, 0, 38, [], []), (2, 3, 0, 0, 0, 0, 39, [], []), (26, 0, 0, 0, 0, 0, 40, [], []), (2, 0, 2, 0, 0, 0, 41, [], []), (20, 4, 1, 0, 0, 0, 42, [4], []), (2, 2, 0, 0, 0, 0, 43, [], []), (2, 4, 0, 0, 0, 0, 44, [], []), (17, 49, 0, 0, 0, 0, 45, [], []), (2, 3, 0, 0, 0, 0, 46, [], []), (0, 0, 0, 10, 0, 0, 47, [], []), (7, 0, 0, 0, 0, 0, 48, [], []), (16, 50, 0, 0, 0, 0, 49, [], []), (0, 0, 0, 0, 0, 0, 50, [], []), (26, 0, 0, 0, 0, 0, 51, [], []), (4, 2, 0, 1, 0, 0, 52, [], []), (16, 6, 0, 0, 0, 0, 53, [], []), (34, 0, 0, 0, 0, 0, 54, [], [])]
noncomputable def pc_32 : List (List mOp) := [pc_32_0, pc_32_1]
/-- 33: PotAndFine$Setup.canBeAngry(I)Z -/
noncomputable def pc_33_0 : List mOp := [(2, 0, 0, 0, 0, 1, 1, [], []), (0, 0, 0, 3, 0, 0, 2, [], []), (18, 9, 0, 0, 0, 0, 3, [], []), (2, 0, 0, 0, 0, 0, 4, [], []), (0, 0, 0, 4, 0, 0, 5, [], []), (18, 9, 0, 0, 0, 0, 6, [], []), (2, 0, 0, 0, 0, 0, 7, [], []), (0, 0, 0, 5, 0, 0, 8, [], []), (18, 11, 1, 0, 0, 0, 9, [], []), (0, 0, 0, 1, 0, 0, 10, [], []), (16, 12, 0, 0, 0, 0, 11, [], []), (0, 0, 0, 0, 0, 0, 12, [], []), (34, 0, 4, 0, 0, 0, 13, [], [])]
noncomputable def pc_33 : List (List mOp) := [pc_33_0]
/-- 34: PotAndFine$Setup.untell()V -/
noncomputable def pc_34_0 : List mOp := [(2, 0, 2, 0, 0, 1, 1, [], []), (20, 5, 1, 0, 0, 0, 2, [4], []), (0, 0, 0, (-9), 0, 0, 3, [], []), (33, 195, 2, 0, 0, 0, 4, [], []), (2, 0, 2, 0, 0, 0, 5, [], []), (20, 6, 1, 0, 0, 0, 6, [4], []), (0, 0, 0, 40, 0, 0, 7, [], []), (33, 195, 2, 0, 0, 0, 8, [], []), (34, 0, 0, 0, 0, 0, 9, [], [])]
noncomputable def pc_34 : List (List mOp) := [pc_34_0]
/-- 35: PotAndFine$Setup.takeFrom(LPotAndFine$Setup;)V -/
noncomputable def pc_35_0 : List mOp := [(2, 1, 2, 0, 0, 1, 1, [], []), (20, 0, 1, 0, 0, 0, 2, [4], []), (0, 0, 0, 0, 0, 0, 3, [], []), (2, 0, 2, 0, 0, 0, 4, [], []), (20, 0, 1, 0, 0, 0, 5, [4], []), (0, 0, 0, 0, 0, 0, 6, [], []), (0, 0, 0, 4, 0, 0, 7, [], []), (35, 0, 0, 0, 0, 0, 8, [], []), (2, 1, 2, 0, 0, 0, 9, [], []), (20, 2, 1, 0, 0, 0, 10, [4], []), (0, 0, 0, 0, 0, 0, 11, [], []), (2, 0, 2, 0, 0, 0, 12, [], []), (20, 2, 1, 0, 0, 0, 13, [4], []), (0, 0, 0, 0, 0, 0, 14, [], []), (0, 0, 0, 6, 0, 0, 15, [], []), (35, 0, 0, 0, 0, 0, 16, [], []), (2, 1, 2, 0, 0, 0, 17, [], []), (20, 3, 1, 0, 0, 0, 18, [4], []), (0, 0, 0, 0, 0, 0, 19, [], []), (2, 0, 2, 0, 0, 0, 20, [], []), (20, 3, 1, 0, 0, 0, 21, [4], []), (0, 0, 0, 0, 0, 0, 22, [], []), (0, 0, 0, 6, 0, 0, 23, [], []), (35, 0, 0, 0, 0, 0, 24, [], []), (2, 1, 2, 0, 0, 0, 25, [], []), (20, 4, 1, 0, 0, 0, 26, [4], []), (0, 0, 0, 0, 0, 0, 27, [], []), (2, 0, 2, 0, 0, 0, 28, [], []), (20, 4, 1, 0, 0, 0, 29, [4], []), (0, 0, 0, 0, 0, 0, 30, [], []), (0, 0, 0, 6, 0, 0, 31, [], []), (35, 0, 0, 0, 0, 0, 32, [], [])]
noncomputable def pc_35_1 : List mOp := [(2, 1, 2, 0, 0, 0, 33, [], []), (20, 5, 1, 0, 0, 0, 34, [4], []), (0, 0, 0, 0, 0, 0, 35, [], []), (2, 0, 2, 0, 0, 0, 36, [], []), (20, 5, 1, 0, 0, 0, 37, [4], []), (0, 0, 0, 0, 0, 0, 38, [], []), (2, 0, 2, 0, 0, 0, 39, [], []), (20, 5, 1, 0, 0, 0, 40, [4], []), (29, 0, 0, 0, 0, 0, 41, [], []), (35, 0, 0, 0, 0, 0, 42, [], []), (2, 1, 2, 0, 0, 0, 43, [], []), (20, 6, 1, 0, 0, 0, 44, [4], []), (0, 0, 0, 0, 0, 0, 45, [], []), (2, 0, 2, 0, 0, 0, 46, [], []), (20, 6, 1, 0, 0, 0, 47, [4], []), (0, 0, 0, 0, 0, 0, 48, [], []), (0, 0, 0, 6, 0, 0, 49, [], []), (35, 0, 0, 0, 0, 0, 50, [], []), (2, 0, 2, 0, 0, 0, 51, [], []), (2, 1, 2, 0, 0, 0, 52, [], []), (20, 1, 0, 0, 0, 0, 53, [4], []), (21, 1, 0, 0, 0, 0, 54, [4], []), (34, 0, 0, 0, 0, 0, 55, [], [])]
noncomputable def pc_35 : List (List mOp) := [pc_35_0, pc_35_1]
/-- 36: PotAndFine$Setup.takeSome(LPotAndFine$Setup;I)V -/
noncomputable def pc_36_0 : List mOp := [(2, 1, 2, 0, 0, 1, 1, [], []), (20, 0, 1, 0, 0, 0, 2, [4], []), (0, 0, 0, 0, 0, 0, 3, [], []), (2, 0, 2, 0, 0, 0, 4, [], []), (20, 0, 1, 0, 0, 0, 5, [4], []), (0, 0, 0, 0, 0, 0, 6, [], []), (0, 0, 0, 4, 0, 0, 7, [], []), (35, 0, 0, 0, 0, 0, 8, [], []), (2, 0, 2, 0, 0, 0, 9, [], []), (33, 34, 1, 0, 0, 0, 10, [], []), (2, 0, 2, 0, 0, 0, 11, [], []), (0, 0, 0, 0, 0, 0, 12, [], []), (21, 1, 0, 0, 0, 0, 13, [4], []), (0, 0, 0, 0, 0, 0, 14, [], []), (3, 3, 0, 0, 0, 0, 15, [], []), (2, 3, 0, 0, 0, 1, 16, [], []), (2, 1, 2, 0, 0, 0, 17, [], []), (20, 1, 0, 0, 0, 0, 18, [4], []), (18, 61, 3, 0, 0, 0, 19, [], []), (2, 2, 0, 0, 0, 0, 20, [], []), (2, 3, 0, 0, 0, 0, 21, [], []), (5, 0, 7, 0, 0, 0, 22, [], []), (0, 0, 0, 1, 0, 0, 23, [], []), (5, 0, 3, 0, 0, 0, 24, [], []), (0, 0, 0, 1, 0, 0, 25, [], []), (18, 59, 1, 0, 0, 0, 26, [], []), (2, 0, 2, 0, 0, 0, 27, [], []), (20, 2, 1, 0, 0, 0, 28, [4], []), (2, 0, 2, 0, 0, 0, 29, [], []), (20, 1, 0, 0, 0, 0, 30, [4], []), (2, 1, 2, 0, 0, 0, 31, [], []), (20, 2, 1, 0, 0, 0, 32, [4], [])]
noncomputable def pc_36_1 : List mOp := [(2, 3, 0, 0, 0, 0, 33, [], []), (23, 0, 0, 0, 0, 0, 34, [], []), (26, 0, 0, 0, 0, 0, 35, [], []), (2, 0, 2, 0, 0, 0, 36, [], []), (20, 3, 1, 0, 0, 0, 37, [4], []), (2, 0, 2, 0, 0, 0, 38, [], []), (20, 1, 0, 0, 0, 0, 39, [4], []), (2, 1, 2, 0, 0, 0, 40, [], []), (20, 3, 1, 0, 0, 0, 41, [4], []), (2, 3, 0, 0, 0, 0, 42, [], []), (23, 0, 0, 0, 0, 0, 43, [], []), (26, 0, 0, 0, 0, 0, 44, [], []), (2, 0, 2, 0, 0, 0, 45, [], []), (20, 4, 1, 0, 0, 0, 46, [4], []), (2, 0, 2, 0, 0, 0, 47, [], []), (20, 1, 0, 0, 0, 0, 48, [4], []), (2, 1, 2, 0, 0, 0, 49, [], []), (20, 4, 1, 0, 0, 0, 50, [4], []), (2, 3, 0, 0, 0, 0, 51, [], []), (23, 0, 0, 0, 0, 0, 52, [], []), (26, 0, 0, 0, 0, 0, 53, [], []), (2, 0, 2, 0, 0, 0, 54, [], []), (14, 0, 0, 0, 0, 0, 55, [], []), (20, 1, 0, 0, 0, 0, 56, [4], []), (0, 0, 0, 1, 0, 0, 57, [], []), (5, 0, 0, 0, 0, 0, 58, [], []), (21, 1, 0, 0, 0, 0, 59, [4], []), (4, 3, 0, 1, 0, 0, 60, [], []), (16, 15, 0, 0, 0, 0, 61, [], []), (34, 0, 0, 0, 0, 0, 62, [], [])]
noncomputable def pc_36 : List (List mOp) := [pc_36_0, pc_36_1]
/-- 37: PotAndFine$Setup.isIn(II)Z -/
noncomputable def pc_37_0 : List mOp := [(2, 2, 0, 0, 0, 1, 1, [], []), (2, 0, 2, 0, 0, 0, 2, [], []), (20, 6, 1, 0, 0, 0, 3, [4], []), (2, 1, 0, 0, 0, 0, 4, [], []), (23, 0, 0, 0, 0, 0, 5, [], []), (18, 8, 3, 0, 0, 0, 6, [], []), (0, 0, 0, 1, 0, 0, 7, [], []), (16, 9, 0, 0, 0, 0, 8, [], []), (0, 0, 0, 0, 0, 0, 9, [], []), (34, 0, 4, 0, 0, 0, 10, [], [])]
noncomputable def pc_37 : List (List mOp) := [pc_37_0]
/-- 38: PotAndFine$Setup.countIn(I)I -/
noncomputable def pc_38_0 : List mOp := [(0, 0, 0, 0, 0, 1, 1, [], []), (3, 2, 0, 0, 0, 0, 2, [], []), (0, 0, 0, 0, 0, 0, 3, [], []), (3, 3, 0, 0, 0, 0, 4, [], []), (2, 3, 0, 0, 0, 1, 5, [], []), (2, 0, 2, 0, 0, 0, 6, [], []), (20, 1, 0, 0, 0, 0, 7, [4], []), (18, 16, 3, 0, 0, 0, 8, [], []), (2, 0, 2, 0, 0, 0, 9, [], []), (2, 3, 0, 0, 0, 0, 10, [], []), (2, 1, 0, 0, 0, 0, 11, [], []), (33, 37, 3, 0, 0, 0, 12, [], []), (17, 14, 0, 0, 0, 0, 13, [], []), (4, 2, 0, 1, 0, 0, 14, [], []), (4, 3, 0, 1, 0, 0, 15, [], []), (16, 4, 0, 0, 0, 0, 16, [], []), (2, 2, 0, 0, 0, 0, 17, [], []), (34, 0, 1, 0, 0, 0, 18, [], [])]
noncomputable def pc_38 : List (List mOp) := [pc_38_0]
/-- 39: PotAndFine$Setup.canSpare(I)Z -/
noncomputable def pc_39_0 : List mOp := [(2, 0, 2, 0, 0, 1, 1, [], []), (0, 0, 0, 39, 0, 0, 2, [], []), (33, 38, 2, 0, 0, 0, 3, [], []), (2, 0, 2, 0, 0, 0, 4, [], []), (2, 1, 0, 0, 0, 0, 5, [], []), (0, 0, 0, 39, 0, 0, 6, [], []), (33, 37, 3, 0, 0, 0, 7, [], []), (17, 10, 0, 0, 0, 0, 8, [], []), (0, 0, 0, 1, 0, 0, 9, [], []), (16, 11, 0, 0, 0, 0, 10, [], []), (0, 0, 0, 0, 0, 0, 11, [], []), (5, 0, 1, 0, 0, 0, 12, [], []), (3, 2, 0, 0, 0, 0, 13, [], []), (2, 2, 0, 0, 0, 0, 14, [], []), (0, 0, 0, 2, 0, 0, 15, [], []), (18, 18, 2, 0, 0, 0, 16, [], []), (0, 0, 0, 1, 0, 0, 17, [], []), (16, 19, 0, 0, 0, 0, 18, [], []), (0, 0, 0, 0, 0, 0, 19, [], []), (34, 0, 4, 0, 0, 0, 20, [], [])]
noncomputable def pc_39 : List (List mOp) := [pc_39_0]
/-- 40: PotAndFine$Text.<init>()V -/
noncomputable def pc_40_0 : List mOp := [(2, 0, 2, 0, 0, 1, 1, [], []), (37, 0, 0, 0, 0, 0, 2, [], []), (2, 0, 2, 0, 0, 0, 3, [], []), (0, 0, 0, 40, 0, 0, 4, [], []), (31, 1, 40, 40, 0, 0, 5, [], []), (36, 0, 0, 0, 0, 0, 6, [5], []), (2, 0, 2, 0, 0, 0, 7, [], []), (0, 0, 0, 0, 0, 0, 8, [], []), (21, 1, 0, 0, 0, 0, 9, [5], []), (2, 0, 2, 0, 0, 0, 10, [], []), (0, 0, 0, 6, 0, 0, 11, [], []), (31, 1, 6, 6, 0, 0, 12, [], []), (36, 2, 0, 0, 0, 0, 13, [5], []), (2, 0, 2, 0, 0, 0, 14, [], []), (0, 0, 0, 6, 0, 0, 15, [], []), (31, 1, 6, 6, 0, 0, 16, [], []), (36, 3, 0, 0, 0, 0, 17, [5], []), (2, 0, 2, 0, 0, 0, 18, [], []), (0, 0, 0, 0, 0, 0, 19, [], []), (21, 4, 0, 0, 0, 0, 20, [5], []), (34, 0, 0, 0, 0, 0, 21, [], [])]
noncomputable def pc_40 : List (List mOp) := [pc_40_0]
/-- 41: PotAndFine$Text.append(I)V -/
noncomputable def pc_41_0 : List mOp := [(2, 0, 2, 0, 0, 1, 1, [], []), (20, 1, 0, 0, 0, 0, 2, [5], []), (0, 0, 0, 40, 0, 0, 3, [], []), (18, 16, 3, 0, 0, 0, 4, [], []), (2, 0, 2, 0, 0, 0, 5, [], []), (20, 0, 1, 0, 0, 0, 6, [5], []), (2, 0, 2, 0, 0, 0, 7, [], []), (20, 1, 0, 0, 0, 0, 8, [5], []), (2, 1, 0, 0, 0, 0, 9, [], []), (26, 0, 0, 0, 0, 0, 10, [], []), (2, 0, 2, 0, 0, 0, 11, [], []), (14, 0, 0, 0, 0, 0, 12, [], []), (20, 1, 0, 0, 0, 0, 13, [5], []), (0, 0, 0, 1, 0, 0, 14, [], []), (5, 0, 0, 0, 0, 0, 15, [], []), (21, 1, 0, 0, 0, 0, 16, [5], []), (34, 0, 0, 0, 0, 0, 17, [], [])]
noncomputable def pc_41 : List (List mOp) := [pc_41_0]
/-- 42: PotAndFine$Text.scan(LPotAndFine$Grammar;)I -/
noncomputable def pc_42_0 : List mOp := [(2, 0, 2, 0, 0, 1, 1, [], []), (0, 0, 0, 0, 0, 0, 2, [], []), (21, 4, 0, 0, 0, 0, 3, [5], []), (0, 0, 0, 0, 0, 0, 4, [], []), (3, 2, 0, 0, 0, 0, 5, [], []), (0, 0, 0, 0, 0, 0, 6, [], []), (3, 3, 0, 0, 0, 0, 7, [], []), (2, 3, 0, 0, 0, 1, 8, [], [4, 5]), (2, 1, 2, 0, 0, 0, 9, [], []), (20, 6, 0, 0, 0, 0, 10, [2], []), (18, 74, 4, 0, 0, 0, 11, [], []), (2, 2, 0, 0, 0, 0, 12, [], []), (2, 0, 2, 0, 0, 0, 13, [], []), (20, 1, 0, 0, 0, 0, 14, [5], []), (18, 74, 3, 0, 0, 0, 15, [], []), (2, 1, 2, 0, 0, 0, 16, [], []), (20, 0, 1, 0, 0, 0, 17, [2], []), (2, 0, 2, 0, 0, 0, 18, [], []), (20, 0, 1, 0, 0, 0, 19, [5], []), (2, 2, 0, 0, 0, 0, 20, [], []), (23, 0, 0, 0, 0, 0, 21, [], []), (12, 0, 2, 0, 0, 0, 22, [], []), (33, 186, 2, 0, 0, 0, 23, [], []), (3, 4, 0, 0, 0, 0, 24, [], []), (2, 3, 0, 0, 0, 0, 25, [], []), (2, 1, 2, 0, 0, 0, 26, [], []), (20, 6, 0, 0, 0, 0, 27, [2], []), (18, 37, 0, 0, 0, 0, 28, [], []), (2, 4, 0, 0, 0, 0, 29, [], []), (17, 37, 2, 0, 0, 0, 30, [], []), (2, 1, 2, 0, 0, 0, 31, [], []), (20, 4, 0, 0, 0, 0, 32, [2], [])]
noncomputable def pc_42_1 : List mOp := [(17, 39, 0, 0, 0, 0, 33, [], []), (2, 0, 2, 0, 0, 0, 34, [], []), (2, 4, 0, 0, 0, 0, 35, [], []), (33, 43, 2, 0, 0, 0, 36, [], []), (17, 39, 0, 0, 0, 0, 37, [], []), (2, 2, 0, 0, 0, 1, 38, [], [0, 1, 3, 4, 5]), (34, 0, 1, 0, 0, 0, 39, [], []), (2, 0, 2, 0, 0, 1, 40, [], [5]), (2, 1, 2, 0, 0, 0, 41, [], []), (2, 4, 0, 0, 0, 0, 42, [], []), (2, 2, 0, 0, 0, 0, 43, [], []), (0, 0, 0, 1, 0, 0, 44, [], []), (5, 0, 0, 0, 0, 0, 45, [], []), (2, 3, 0, 0, 0, 0, 46, [], []), (33, 44, 5, 0, 0, 0, 47, [], []), (3, 5, 0, 0, 0, 0, 48, [], []), (2, 5, 0, 0, 0, 0, 49, [], []), (0, 0, 0, (-9), 0, 0, 50, [], []), (18, 53, 0, 0, 0, 0, 51, [], []), (2, 5, 0, 0, 0, 0, 52, [], []), (34, 0, 1, 0, 0, 0, 53, [], []), (2, 0, 2, 0, 0, 0, 54, [], []), (20, 2, 1, 0, 0, 0, 55, [5], []), (2, 3, 0, 0, 0, 0, 56, [], []), (2, 4, 0, 0, 0, 0, 57, [], []), (26, 0, 0, 0, 0, 0, 58, [], []), (2, 0, 2, 0, 0, 0, 59, [], []), (2, 3, 0, 0, 0, 0, 60, [], []), (0, 0, 0, 1, 0, 0, 61, [], []), (5, 0, 0, 0, 0, 0, 62, [], []), (21, 4, 0, 0, 0, 0, 63, [5], []), (2, 2, 0, 0, 0, 0, 64, [], [])]
noncomputable def pc_42_2 : List mOp := [(0, 0, 0, 1, 0, 0, 65, [], []), (2, 1, 2, 0, 0, 0, 66, [], []), (20, 1, 1, 0, 0, 0, 67, [2], []), (2, 4, 0, 0, 0, 0, 68, [], []), (23, 0, 0, 0, 0, 0, 69, [], []), (5, 0, 0, 0, 0, 0, 70, [], []), (5, 0, 0, 0, 0, 0, 71, [], []), (3, 2, 0, 0, 0, 0, 72, [], []), (4, 3, 0, 1, 0, 0, 73, [], []), (16, 7, 0, 0, 0, 0, 74, [], []), (2, 0, 2, 0, 0, 1, 75, [], [2, 3, 4, 5]), (20, 4, 0, 0, 0, 0, 76, [5], []), (2, 1, 2, 0, 0, 0, 77, [], []), (20, 5, 0, 0, 0, 0, 78, [2], []), (18, 82, 3, 0, 0, 0, 79, [], []), (2, 0, 2, 0, 0, 0, 80, [], []), (20, 1, 0, 0, 0, 0, 81, [5], []), (16, 83, 0, 0, 0, 0, 82, [], []), (0, 0, 0, (-9), 0, 0, 83, [], []), (34, 0, 1, 0, 0, 1, 84, [], [0, 1, 2, 3, 4, 5])]
noncomputable def pc_42 : List (List mOp) := [pc_42_0, pc_42_1, pc_42_2]
/-- 43: PotAndFine$Text.wasFound(I)Z -/
noncomputable def pc_43_0 : List mOp := [(0, 0, 0, 0, 0, 1, 1, [], []), (3, 2, 0, 0, 0, 0, 2, [], []), (2, 2, 0, 0, 0, 1, 3, [], []), (2, 0, 2, 0, 0, 0, 4, [], []), (20, 4, 0, 0, 0, 0, 5, [5], []), (18, 16, 3, 0, 0, 0, 6, [], []), (2, 0, 2, 0, 0, 0, 7, [], []), (20, 2, 1, 0, 0, 0, 8, [5], []), (2, 2, 0, 0, 0, 0, 9, [], []), (23, 0, 0, 0, 0, 0, 10, [], []), (2, 1, 0, 0, 0, 0, 11, [], []), (18, 14, 1, 0, 0, 0, 12, [], []), (0, 0, 0, 1, 0, 0, 13, [], []), (34, 0, 4, 0, 0, 0, 14, [], []), (4, 2, 0, 1, 0, 0, 15, [], []), (16, 2, 0, 0, 0, 0, 16, [], []), (0, 0, 0, 0, 0, 0, 17, [], []), (34, 0, 4, 0, 0, 0, 18, [], [])]
noncomputable def pc_43 : List (List mOp) := [pc_43_0]
/-- 44: PotAndFine$Text.scanNumber(LPotAndFine$Grammar;III)I -/
noncomputable def pc_44_0 : List mOp := [(2, 1, 2, 0, 0, 1, 1, [], []), (20, 1, 1, 0, 0, 0, 2, [2], []), (2, 2, 0, 0, 0, 0, 3, [], []), (23, 0, 0, 0, 0, 0, 4, [], []), (3, 5, 0, 0, 0, 0, 5, [], []), (0, 0, 0, 0, 0, 0, 6, [], []), (3, 6, 0, 0, 0, 0, 7, [], []), (0, 0, 0, 0, 0, 0, 8, [], []), (3, 7, 0, 0, 0, 0, 9, [], []), (2, 7, 0, 0, 0, 1, 10, [], [8, 9, 10]), (2, 5, 0, 0, 0, 0, 11, [], []), (18, 76, 3, 0, 0, 0, 12, [], []), (2, 3, 0, 0, 0, 0, 13, [], []), (2, 7, 0, 0, 0, 0, 14, [], []), (5, 0, 0, 0, 0, 0, 15, [], []), (3, 8, 0, 0, 0, 0, 16, [], []), (2, 8, 0, 0, 0, 0, 17, [], []), (2, 0, 2, 0, 0, 0, 18, [], []), (20, 1, 0, 0, 0, 0, 19, [5], []), (18, 23, 2, 0, 0, 0, 20, [], []), (2, 0, 2, 0, 0, 0, 21, [], []), (20, 1, 0, 0, 0, 0, 22, [5], []), (34, 0, 1, 0, 0, 0, 23, [], []), (2, 0, 2, 0, 0, 0, 24, [], []), (20, 0, 1, 0, 0, 0, 25, [5], []), (2, 8, 0, 0, 0, 0, 26, [], []), (23, 0, 0, 0, 0, 0, 27, [], []), (0, 0, 0, 48, 0, 0, 28, [], []), (5, 0, 1, 0, 0, 0, 29, [], []), (3, 9, 0, 0, 0, 0, 30, [], []), (2, 9, 0, 0, 0, 0, 31, [], []), (17, 35, 2, 0, 0, 0, 32, [], [])]
noncomputable def pc_44_1 : List mOp := [(2, 9, 0, 0, 0, 0, 33, [], []), (0, 0, 0, 9, 0, 0, 34, [], []), (18, 37, 5, 0, 0, 0, 35, [], []), (2, 8, 0, 0, 0, 1, 36, [], [0, 1, 2, 3, 4, 5, 6, 7, 9, 10]), (34, 0, 1, 0, 0, 0, 37, [], []), (2, 6, 0, 0, 0, 0, 38, [], []), (0, 0, 0, 10, 0, 0, 39, [], []), (5, 0, 2, 0, 0, 0, 40, [], []), (2, 9, 0, 0, 0, 0, 41, [], []), (5, 0, 0, 0, 0, 0, 42, [], []), (3, 6, 0, 0, 0, 0, 43, [], []), (2, 7, 0, 0, 0, 0, 44, [], []), (0, 0, 0, 1, 0, 0, 45, [], []), (5, 0, 0, 0, 0, 0, 46, [], []), (2, 5, 0, 0, 0, 0, 47, [], []), (18, 50, 3, 0, 0, 0, 48, [], []), (0, 0, 0, 10, 0, 0, 49, [], []), (16, 51, 0, 0, 0, 0, 50, [], []), (0, 0, 0, 1, 0, 0, 51, [], []), (3, 10, 0, 0, 0, 1, 52, [], [9, 10]), (2, 6, 0, 0, 0, 0, 53, [], []), (2, 10, 0, 0, 0, 0, 54, [], []), (5, 0, 2, 0, 0, 0, 55, [], []), (2, 1, 2, 0, 0, 0, 56, [], []), (20, 3, 1, 0, 0, 0, 57, [2], []), (2, 2, 0, 0, 0, 0, 58, [], []), (23, 0, 0, 0, 0, 0, 59, [], []), (18, 72, 4, 0, 0, 0, 60, [], []), (2, 6, 0, 0, 0, 0, 61, [], []), (2, 10, 0, 0, 0, 0, 62, [], []), (5, 0, 2, 0, 0, 0, 63, [], []), (2, 10, 0, 0, 0, 0, 64, [], [])]
noncomputable def pc_44_2 : List mOp := [(5, 0, 0, 0, 0, 0, 65, [], []), (0, 0, 0, 1, 0, 0, 66, [], []), (5, 0, 1, 0, 0, 0, 67, [], []), (2, 1, 2, 0, 0, 0, 68, [], []), (20, 2, 1, 0, 0, 0, 69, [2], []), (2, 2, 0, 0, 0, 0, 70, [], []), (23, 0, 0, 0, 0, 0, 71, [], []), (18, 74, 3, 0, 0, 0, 72, [], []), (2, 8, 0, 0, 0, 1, 73, [], [0, 1, 2, 3, 4, 5, 6, 7, 9, 10]), (34, 0, 1, 0, 0, 0, 74, [], []), (4, 7, 0, 1, 0, 0, 75, [], []), (16, 9, 0, 0, 0, 0, 76, [], []), (2, 0, 2, 0, 0, 0, 77, [], []), (20, 3, 1, 0, 0, 0, 78, [5], []), (2, 4, 0, 0, 0, 0, 79, [], []), (2, 6, 0, 0, 0, 0, 80, [], []), (26, 0, 0, 0, 0, 0, 81, [], []), (0, 0, 0, (-9), 0, 0, 82, [], []), (34, 0, 1, 0, 0, 0, 83, [], [])]
noncomputable def pc_44 : List (List mOp) := [pc_44_0, pc_44_1, pc_44_2]
/-- 45: PotAndFine.<init>()V -/
noncomputable def pc_45_0 : List mOp := [(2, 0, 2, 0, 0, 1, 1, [], []), (37, 0, 0, 0, 0, 0, 2, [], []), (2, 0, 2, 0, 0, 0, 3, [], []), (30, 5, 5, 0, 0, 0, 4, [], []), (14, 0, 0, 0, 0, 0, 5, [], []), (33, 40, 1, 0, 0, 0, 6, [], []), (36, 0, 0, 0, 0, 0, 7, [6], []), (2, 0, 2, 0, 0, 0, 8, [], []), (30, 2, 7, 0, 0, 0, 9, [], []), (14, 0, 0, 0, 0, 0, 10, [], []), (22, 1050, 0, 0, 0, 0, 11, [], []), (22, 1052, 0, 0, 0, 0, 12, [], []), (22, 1053, 0, 0, 0, 0, 13, [], []), (22, 1054, 0, 0, 0, 0, 14, [], []), (0, 0, 0, 1, 0, 0, 15, [], []), (0, 0, 0, 0, 0, 0, 16, [], []), (0, 0, 0, 4, 0, 0, 17, [], []), (33, 26, 8, 0, 0, 0, 18, [], []), (36, 1, 0, 0, 0, 0, 19, [6], []), (2, 0, 2, 0, 0, 0, 20, [], []), (30, 2, 7, 0, 0, 0, 21, [], []), (14, 0, 0, 0, 0, 0, 22, [], []), (22, 1060, 0, 0, 0, 0, 23, [], []), (22, 1062, 0, 0, 0, 0, 24, [], []), (22, 1063, 0, 0, 0, 0, 25, [], []), (22, 1064, 0, 0, 0, 0, 26, [], []), (0, 0, 0, 0, 0, 0, 27, [], []), (0, 0, 0, 2, 0, 0, 28, [], []), (0, 0, 0, 6, 0, 0, 29, [], []), (33, 26, 8, 0, 0, 0, 30, [], []), (36, 2, 0, 0, 0, 0, 31, [6], []), (2, 0, 2, 0, 0, 0, 32, [], [])]
noncomputable def pc_45_1 : List mOp := [(30, 4, 7, 0, 0, 0, 33, [], []), (14, 0, 0, 0, 0, 0, 34, [], []), (33, 30, 1, 0, 0, 0, 35, [], []), (36, 3, 0, 0, 0, 0, 36, [6], []), (2, 0, 2, 0, 0, 0, 37, [], []), (30, 1, 10, 0, 0, 0, 38, [], []), (14, 0, 0, 0, 0, 0, 39, [], []), (2, 0, 2, 0, 0, 0, 40, [], []), (20, 3, 1, 0, 0, 0, 41, [6], []), (33, 7, 2, 0, 0, 0, 42, [], []), (36, 4, 0, 0, 0, 0, 43, [6], []), (2, 0, 2, 0, 0, 0, 44, [], []), (30, 4, 7, 0, 0, 0, 45, [], []), (14, 0, 0, 0, 0, 0, 46, [], []), (33, 30, 1, 0, 0, 0, 47, [], []), (36, 5, 0, 0, 0, 0, 48, [6], []), (2, 0, 2, 0, 0, 0, 49, [], []), (30, 1, 10, 0, 0, 0, 50, [], []), (14, 0, 0, 0, 0, 0, 51, [], []), (2, 0, 2, 0, 0, 0, 52, [], []), (20, 5, 1, 0, 0, 0, 53, [6], []), (33, 7, 2, 0, 0, 0, 54, [], []), (36, 6, 0, 0, 0, 0, 55, [6], []), (2, 0, 2, 0, 0, 0, 56, [], []), (30, 0, 1, 0, 0, 0, 57, [], []), (14, 0, 0, 0, 0, 0, 58, [], []), (33, 0, 1, 0, 0, 0, 59, [], []), (36, 7, 0, 0, 0, 0, 60, [6], []), (2, 0, 2, 0, 0, 0, 61, [], []), (0, 0, 0, 2, 0, 0, 62, [], []), (32, 0, 2, 2, 0, 0, 63, [], []), (36, 8, 0, 0, 0, 0, 64, [6], [])]
noncomputable def pc_45_2 : List mOp := [(2, 0, 2, 0, 0, 0, 65, [], []), (39, 9, 0, 1, 0, 0, 66, [6], []), (0, 0, 0, 0, 0, 0, 67, [], []), (3, 1, 0, 0, 0, 0, 68, [], []), (2, 1, 0, 0, 0, 1, 69, [], []), (0, 0, 0, 2, 0, 0, 70, [], []), (18, 80, 3, 0, 0, 0, 71, [], []), (2, 0, 2, 0, 0, 0, 72, [], []), (20, 8, 1, 0, 0, 0, 73, [6], []), (2, 1, 0, 0, 0, 0, 74, [], []), (30, 3, 4, 0, 0, 0, 75, [], []), (14, 0, 0, 0, 0, 0, 76, [], []), (33, 27, 1, 0, 0, 0, 77, [], []), (28, 0, 0, 0, 0, 0, 78, [], []), (4, 1, 0, 1, 0, 0, 79, [], []), (16, 68, 0, 0, 0, 0, 80, [], []), (34, 0, 0, 0, 0, 0, 81, [], [])]
noncomputable def pc_45 : List (List mOp) := [pc_45_0, pc_45_1, pc_45_2]
/-- 46: PotAndFine.write(IJ)I -/
noncomputable def pc_46_0 : List mOp := [(2, 1, 0, 0, 0, 1, 1, [], []), (0, 0, 0, 1, 0, 0, 2, [], []), (18, 6, 2, 0, 0, 0, 3, [], []), (2, 1, 0, 0, 0, 0, 4, [], []), (0, 0, 0, 8, 0, 0, 5, [], []), (18, 8, 5, 0, 0, 0, 6, [], []), (0, 0, 0, (-2), 0, 0, 7, [], []), (34, 0, 1, 0, 0, 0, 8, [], []), (2, 0, 2, 0, 0, 0, 9, [], []), (20, 0, 1, 0, 0, 0, 10, [6], []), (20, 1, 0, 0, 0, 0, 11, [5], []), (2, 1, 0, 0, 0, 0, 12, [], []), (5, 0, 0, 0, 0, 0, 13, [], []), (0, 0, 0, 40, 0, 0, 14, [], []), (18, 17, 5, 0, 0, 0, 15, [], []), (0, 0, 0, (-4), 0, 0, 16, [], []), (34, 0, 1, 0, 0, 0, 17, [], []), (2, 1, 0, 0, 0, 0, 18, [], []), (0, 0, 0, 1, 0, 0, 19, [], []), (5, 0, 1, 0, 0, 0, 20, [], []), (3, 4, 0, 0, 0, 0, 21, [], []), (2, 4, 0, 0, 0, 1, 22, [], [1, 3]), (17, 36, 2, 0, 0, 0, 23, [], []), (2, 0, 2, 0, 0, 0, 24, [], []), (20, 0, 1, 0, 0, 0, 25, [6], []), (2, 2, 1, 0, 0, 0, 26, [], []), (0, 0, 0, 8, 0, 0, 27, [], []), (2, 4, 0, 0, 0, 0, 28, [], []), (5, 0, 2, 0, 0, 0, 29, [], []), (11, 0, 1, 0, 0, 0, 30, [], []), (12, 0, 1, 0, 0, 0, 31, [], []), (0, 0, 0, 255, 0, 0, 32, [], [])]
noncomputable def pc_46_1 : List mOp := [(5, 0, 3, 0, 0, 0, 33, [], []), (33, 41, 2, 0, 0, 0, 34, [], []), (4, 4, 0, (-1), 0, 0, 35, [], []), (16, 21, 0, 0, 0, 0, 36, [], []), (2, 0, 2, 0, 0, 0, 37, [], []), (20, 0, 1, 0, 0, 0, 38, [6], []), (20, 1, 0, 0, 0, 0, 39, [5], []), (34, 0, 1, 0, 0, 0, 40, [], [])]
noncomputable def pc_46 : List (List mOp) := [pc_46_0, pc_46_1]
/-- 47: PotAndFine.wipe()I -/
noncomputable def pc_47_0 : List mOp := [(2, 0, 2, 0, 0, 1, 1, [], []), (20, 0, 1, 0, 0, 0, 2, [6], []), (20, 1, 0, 0, 0, 0, 3, [5], []), (3, 1, 0, 0, 0, 0, 4, [], []), (2, 0, 2, 0, 0, 0, 5, [], []), (20, 0, 1, 0, 0, 0, 6, [6], []), (0, 0, 0, 0, 0, 0, 7, [], []), (21, 1, 0, 0, 0, 0, 8, [5], []), (2, 1, 0, 0, 0, 0, 9, [], []), (34, 0, 1, 0, 0, 0, 10, [], [])]
noncomputable def pc_47 : List (List mOp) := [pc_47_0]
/-- 48: PotAndFine.fault(Z)I -/
noncomputable def pc_48_0 : List mOp := [(2, 0, 2, 0, 0, 1, 1, [], []), (20, 0, 1, 0, 0, 0, 2, [6], []), (2, 1, 0, 0, 0, 0, 3, [], []), (17, 7, 0, 0, 0, 0, 4, [], []), (2, 0, 2, 0, 0, 0, 5, [], []), (20, 2, 1, 0, 0, 0, 6, [6], []), (16, 9, 0, 0, 0, 0, 7, [], []), (2, 0, 2, 0, 0, 0, 8, [], []), (20, 1, 1, 0, 0, 0, 9, [6], []), (33, 42, 2, 0, 0, 0, 10, [], []), (34, 0, 1, 0, 0, 0, 11, [], [])]
noncomputable def pc_48 : List (List mOp) := [pc_48_0]
/-- 49: PotAndFine.rule()I -/
noncomputable def pc_49_0 : List mOp := [(2, 0, 2, 0, 0, 1, 1, [], []), (20, 0, 1, 0, 0, 0, 2, [6], []), (2, 0, 2, 0, 0, 0, 3, [], []), (20, 1, 1, 0, 0, 0, 4, [6], []), (33, 42, 2, 0, 0, 0, 5, [], []), (0, 0, 0, (-9), 0, 0, 6, [], []), (18, 9, 0, 0, 0, 0, 7, [], []), (0, 0, 0, (-3), 0, 0, 8, [], []), (34, 0, 1, 0, 0, 0, 9, [], []), (2, 0, 2, 0, 0, 0, 10, [], []), (20, 3, 1, 0, 0, 0, 11, [6], []), (2, 0, 2, 0, 0, 0, 12, [], []), (20, 0, 1, 0, 0, 0, 13, [6], []), (33, 31, 2, 0, 0, 0, 14, [], []), (2, 0, 2, 0, 0, 0, 15, [], []), (39, 9, 0, 1, 0, 0, 16, [6], []), (2, 0, 2, 0, 0, 0, 17, [], []), (20, 0, 1, 0, 0, 0, 18, [6], []), (20, 4, 0, 0, 0, 0, 19, [5], []), (34, 0, 1, 0, 0, 0, 20, [], [])]
noncomputable def pc_49 : List (List mOp) := [pc_49_0]
/-- 50: PotAndFine.group()I -/
noncomputable def pc_50_0 : List mOp := [(2, 0, 2, 0, 0, 1, 1, [], []), (20, 0, 1, 0, 0, 0, 2, [6], []), (2, 0, 2, 0, 0, 0, 3, [], []), (20, 2, 1, 0, 0, 0, 4, [6], []), (33, 42, 2, 0, 0, 0, 5, [], []), (0, 0, 0, (-9), 0, 0, 6, [], []), (18, 9, 0, 0, 0, 0, 7, [], []), (0, 0, 0, (-3), 0, 0, 8, [], []), (34, 0, 1, 0, 0, 0, 9, [], []), (2, 0, 2, 0, 0, 0, 10, [], []), (20, 3, 1, 0, 0, 0, 11, [6], []), (2, 0, 2, 0, 0, 0, 12, [], []), (20, 0, 1, 0, 0, 0, 13, [6], []), (33, 32, 2, 0, 0, 0, 14, [], []), (2, 0, 2, 0, 0, 0, 15, [], []), (20, 3, 1, 0, 0, 0, 16, [6], []), (33, 34, 1, 0, 0, 0, 17, [], []), (0, 0, 0, 0, 0, 0, 18, [], []), (3, 1, 0, 0, 0, 0, 19, [], []), (2, 1, 0, 0, 0, 1, 20, [], []), (0, 0, 0, 2, 0, 0, 21, [], []), (18, 29, 3, 0, 0, 0, 22, [], []), (2, 0, 2, 0, 0, 0, 23, [], []), (20, 8, 1, 0, 0, 0, 24, [6], []), (2, 1, 0, 0, 0, 0, 25, [], []), (25, 0, 0, 0, 0, 0, 26, [], []), (39, 0, 0, 0, 0, 0, 27, [3], []), (4, 1, 0, 1, 0, 0, 28, [], []), (16, 19, 0, 0, 0, 0, 29, [], []), (2, 0, 2, 0, 0, 0, 30, [], []), (39, 9, 0, 1, 0, 0, 31, [6], []), (2, 0, 2, 0, 0, 0, 32, [], [])]
noncomputable def pc_50_1 : List mOp := [(20, 3, 1, 0, 0, 0, 33, [6], []), (20, 1, 0, 0, 0, 0, 34, [4], []), (34, 0, 1, 0, 0, 0, 35, [], [])]
noncomputable def pc_50 : List (List mOp) := [pc_50_0, pc_50_1]
/-- 51: PotAndFine.ruled(I)I -/
noncomputable def pc_51_0 : List mOp := [(2, 1, 0, 0, 0, 1, 1, [], []), (17, 5, 2, 0, 0, 0, 2, [], []), (2, 1, 0, 0, 0, 0, 3, [], []), (0, 0, 0, 4, 0, 0, 4, [], []), (18, 7, 2, 0, 0, 0, 5, [], []), (0, 0, 0, (-2), 0, 0, 6, [], []), (16, 12, 0, 0, 0, 0, 7, [], []), (2, 0, 2, 0, 0, 0, 8, [], []), (20, 3, 1, 0, 0, 0, 9, [6], []), (20, 0, 1, 0, 0, 0, 10, [4], []), (2, 1, 0, 0, 0, 0, 11, [], []), (23, 0, 0, 0, 0, 0, 12, [], []), (34, 0, 1, 0, 0, 0, 13, [], [])]
noncomputable def pc_51 : List (List mOp) := [pc_51_0]
/-- 52: PotAndFine.person(II)I -/
noncomputable def pc_52_0 : List mOp := [(2, 0, 2, 0, 0, 1, 1, [], []), (2, 1, 0, 0, 0, 0, 2, [], []), (33, 85, 2, 0, 0, 0, 3, [], []), (17, 6, 1, 0, 0, 0, 4, [], []), (0, 0, 0, (-1), 0, 0, 5, [], []), (34, 0, 1, 0, 0, 0, 6, [], []), (2, 2, 0, 0, 0, 0, 7, [], []), (19, 26, 0, 0, 0, 0, 8, [8, 14, 20], []), (2, 0, 2, 0, 0, 0, 9, [], []), (20, 3, 1, 0, 0, 0, 10, [6], []), (20, 2, 1, 0, 0, 0, 11, [4], []), (2, 1, 0, 0, 0, 0, 12, [], []), (23, 0, 0, 0, 0, 0, 13, [], []), (34, 0, 1, 0, 0, 0, 14, [], []), (2, 0, 2, 0, 0, 0, 15, [], []), (20, 3, 1, 0, 0, 0, 16, [6], []), (20, 3, 1, 0, 0, 0, 17, [4], []), (2, 1, 0, 0, 0, 0, 18, [], []), (23, 0, 0, 0, 0, 0, 19, [], []), (34, 0, 1, 0, 0, 0, 20, [], []), (2, 0, 2, 0, 0, 0, 21, [], []), (20, 3, 1, 0, 0, 0, 22, [6], []), (20, 4, 1, 0, 0, 0, 23, [4], []), (2, 1, 0, 0, 0, 0, 24, [], []), (23, 0, 0, 0, 0, 0, 25, [], []), (34, 0, 1, 0, 0, 0, 26, [], []), (0, 0, 0, (-2), 0, 0, 27, [], []), (34, 0, 1, 0, 0, 0, 28, [], [])]
noncomputable def pc_52 : List (List mOp) := [pc_52_0]
/-- 53: PotAndFine.tell(III)I -/
noncomputable def pc_53_0 : List mOp := [(2, 0, 2, 0, 0, 1, 1, [], []), (2, 1, 0, 0, 0, 0, 2, [], []), (33, 85, 2, 0, 0, 0, 3, [], []), (17, 7, 0, 0, 0, 0, 4, [], []), (2, 2, 0, 0, 0, 0, 5, [], []), (33, 86, 1, 0, 0, 0, 6, [], []), (17, 9, 1, 0, 0, 0, 7, [], []), (0, 0, 0, (-1), 0, 0, 8, [], []), (34, 0, 1, 0, 0, 0, 9, [], []), (2, 3, 0, 0, 0, 0, 10, [], []), (33, 88, 1, 0, 0, 0, 11, [], []), (17, 14, 1, 0, 0, 0, 12, [], []), (0, 0, 0, (-2), 0, 0, 13, [], []), (34, 0, 1, 0, 0, 0, 14, [], []), (2, 1, 0, 0, 0, 0, 15, [], []), (2, 2, 0, 0, 0, 0, 16, [], []), (33, 92, 2, 0, 0, 0, 17, [], []), (3, 4, 0, 0, 0, 0, 18, [], []), (2, 0, 2, 0, 0, 0, 19, [], []), (20, 3, 1, 0, 0, 0, 20, [6], []), (20, 5, 1, 0, 0, 0, 21, [4], []), (2, 4, 0, 0, 0, 0, 22, [], []), (23, 0, 0, 0, 0, 0, 23, [], []), (3, 5, 0, 0, 0, 0, 24, [], []), (2, 0, 2, 0, 0, 0, 25, [], []), (20, 3, 1, 0, 0, 0, 26, [6], []), (20, 5, 1, 0, 0, 0, 27, [4], []), (2, 4, 0, 0, 0, 0, 28, [], []), (2, 3, 0, 0, 0, 0, 29, [], []), (26, 0, 0, 0, 0, 0, 30, [], []), (2, 0, 2, 0, 0, 0, 31, [], []), (39, 9, 0, 1, 0, 0, 32, [6], [])]
noncomputable def pc_53_1 : List mOp := [(2, 5, 0, 0, 0, 0, 33, [], []), (34, 0, 1, 0, 0, 0, 34, [], [])]
noncomputable def pc_53 : List (List mOp) := [pc_53_0, pc_53_1]
/-- 54: PotAndFine.send(II)I -/
noncomputable def pc_54_0 : List mOp := [(2, 0, 2, 0, 0, 1, 1, [], []), (2, 1, 0, 0, 0, 0, 2, [], []), (33, 85, 2, 0, 0, 0, 3, [], []), (17, 6, 1, 0, 0, 0, 4, [], []), (0, 0, 0, (-1), 0, 0, 5, [], []), (34, 0, 1, 0, 0, 0, 6, [], []), (2, 2, 0, 0, 0, 0, 7, [], []), (17, 11, 2, 0, 0, 0, 8, [], []), (2, 2, 0, 0, 0, 0, 9, [], []), (0, 0, 0, 40, 0, 0, 10, [], []), (18, 13, 5, 0, 0, 0, 11, [], []), (0, 0, 0, (-2), 0, 0, 12, [], []), (34, 0, 1, 0, 0, 0, 13, [], []), (2, 2, 0, 0, 0, 0, 14, [], []), (0, 0, 0, 40, 0, 0, 15, [], []), (18, 23, 3, 0, 0, 0, 16, [], []), (2, 0, 2, 0, 0, 0, 17, [], []), (20, 3, 1, 0, 0, 0, 18, [6], []), (2, 1, 0, 0, 0, 0, 19, [], []), (33, 39, 2, 0, 0, 0, 20, [], []), (17, 23, 1, 0, 0, 0, 21, [], []), (0, 0, 0, (-3), 0, 0, 22, [], []), (34, 0, 1, 0, 0, 0, 23, [], []), (2, 0, 2, 0, 0, 0, 24, [], []), (20, 3, 1, 0, 0, 0, 25, [6], []), (20, 6, 1, 0, 0, 0, 26, [4], []), (2, 1, 0, 0, 0, 0, 27, [], []), (23, 0, 0, 0, 0, 0, 28, [], []), (3, 3, 0, 0, 0, 0, 29, [], []), (2, 0, 2, 0, 0, 0, 30, [], []), (20, 3, 1, 0, 0, 0, 31, [6], []), (20, 6, 1, 0, 0, 0, 32, [4], [])]
noncomputable def pc_54_1 : List mOp := [(2, 1, 0, 0, 0, 0, 33, [], []), (2, 2, 0, 0, 0, 0, 34, [], []), (26, 0, 0, 0, 0, 0, 35, [], []), (2, 0, 2, 0, 0, 0, 36, [], []), (39, 9, 0, 1, 0, 0, 37, [6], []), (2, 3, 0, 0, 0, 0, 38, [], []), (34, 0, 1, 0, 0, 0, 39, [], [])]
noncomputable def pc_54 : List (List mOp) := [pc_54_0, pc_54_1]
/-- 55: PotAndFine.fine(I)I -/
noncomputable def pc_55_0 : List mOp := [(2, 1, 0, 0, 0, 1, 1, [], []), (17, 5, 2, 0, 0, 0, 2, [], []), (2, 1, 0, 0, 0, 0, 3, [], []), (0, 0, 0, 9, 0, 0, 4, [], []), (18, 7, 5, 0, 0, 0, 5, [], []), (0, 0, 0, (-2), 0, 0, 6, [], []), (34, 0, 1, 0, 0, 0, 7, [], []), (2, 0, 2, 0, 0, 0, 8, [], []), (20, 3, 1, 0, 0, 0, 9, [6], []), (20, 0, 1, 0, 0, 0, 10, [4], []), (0, 0, 0, 2, 0, 0, 11, [], []), (23, 0, 0, 0, 0, 0, 12, [], []), (3, 2, 0, 0, 0, 0, 13, [], []), (2, 0, 2, 0, 0, 0, 14, [], []), (20, 3, 1, 0, 0, 0, 15, [6], []), (20, 0, 1, 0, 0, 0, 16, [4], []), (0, 0, 0, 2, 0, 0, 17, [], []), (2, 1, 0, 0, 0, 0, 18, [], []), (26, 0, 0, 0, 0, 0, 19, [], []), (2, 0, 2, 0, 0, 0, 20, [], []), (39, 9, 0, 1, 0, 0, 21, [6], []), (2, 2, 0, 0, 0, 0, 22, [], []), (34, 0, 1, 0, 0, 0, 23, [], [])]
noncomputable def pc_55 : List (List mOp) := [pc_55_0]
/-- 56: PotAndFine.put(II)I -/
noncomputable def pc_56_0 : List mOp := [(2, 0, 2, 0, 0, 1, 1, [], []), (2, 1, 0, 0, 0, 0, 2, [], []), (33, 85, 2, 0, 0, 0, 3, [], []), (17, 7, 0, 0, 0, 0, 4, [], []), (2, 2, 0, 0, 0, 0, 5, [], []), (33, 86, 1, 0, 0, 0, 6, [], []), (17, 9, 1, 0, 0, 0, 7, [], []), (0, 0, 0, (-1), 0, 0, 8, [], []), (34, 0, 1, 0, 0, 0, 9, [], []), (2, 0, 2, 0, 0, 0, 10, [], []), (33, 97, 1, 0, 0, 0, 11, [], []), (20, 1, 1, 0, 0, 0, 12, [1], []), (2, 1, 0, 0, 0, 0, 13, [], []), (2, 2, 0, 0, 0, 0, 14, [], []), (33, 92, 2, 0, 0, 0, 15, [], []), (23, 0, 0, 0, 0, 0, 16, [], []), (34, 0, 1, 0, 0, 0, 17, [], [])]
noncomputable def pc_56 : List (List mOp) := [pc_56_0]
/-- 57: PotAndFine.paid(III)I -/
noncomputable def pc_57_0 : List mOp := [(2, 0, 2, 0, 0, 1, 1, [], []), (2, 1, 0, 0, 0, 0, 2, [], []), (33, 85, 2, 0, 0, 0, 3, [], []), (17, 11, 0, 0, 0, 0, 4, [], []), (2, 0, 2, 0, 0, 0, 5, [], []), (2, 2, 0, 0, 0, 0, 6, [], []), (33, 85, 2, 0, 0, 0, 7, [], []), (17, 11, 0, 0, 0, 0, 8, [], []), (2, 3, 0, 0, 0, 0, 9, [], []), (33, 86, 1, 0, 0, 0, 10, [], []), (17, 13, 1, 0, 0, 0, 11, [], []), (0, 0, 0, (-1), 0, 0, 12, [], []), (34, 0, 1, 0, 0, 0, 13, [], []), (2, 1, 0, 0, 0, 0, 14, [], []), (2, 2, 0, 0, 0, 0, 15, [], []), (18, 18, 1, 0, 0, 0, 16, [], []), (0, 0, 0, (-2), 0, 0, 17, [], []), (34, 0, 1, 0, 0, 0, 18, [], []), (2, 0, 2, 0, 0, 0, 19, [], []), (33, 97, 1, 0, 0, 0, 20, [], []), (20, 2, 1, 0, 0, 0, 21, [1], []), (2, 1, 0, 0, 0, 0, 22, [], []), (2, 2, 0, 0, 0, 0, 23, [], []), (2, 3, 0, 0, 0, 0, 24, [], []), (33, 93, 3, 0, 0, 0, 25, [], []), (23, 0, 0, 0, 0, 0, 26, [], []), (34, 0, 1, 0, 0, 0, 27, [], [])]
noncomputable def pc_57 : List (List mOp) := [pc_57_0]
/-- 58: PotAndFine.pot(I)I -/
noncomputable def pc_58_0 : List mOp := [(2, 1, 0, 0, 0, 1, 1, [], []), (33, 86, 1, 0, 0, 0, 2, [], []), (17, 9, 0, 0, 0, 0, 3, [], []), (2, 0, 2, 0, 0, 0, 4, [], []), (33, 97, 1, 0, 0, 0, 5, [], []), (20, 5, 1, 0, 0, 0, 6, [1], []), (2, 1, 0, 0, 0, 0, 7, [], []), (23, 0, 0, 0, 0, 0, 8, [], []), (16, 10, 0, 0, 0, 0, 9, [], []), (0, 0, 0, (-1), 0, 0, 10, [], []), (34, 0, 1, 0, 0, 0, 11, [], [])]
noncomputable def pc_58 : List (List mOp) := [pc_58_0]
/-- 59: PotAndFine.here(I)I -/
noncomputable def pc_59_0 : List mOp := [(2, 1, 0, 0, 0, 1, 1, [], []), (33, 86, 1, 0, 0, 0, 2, [], []), (17, 8, 0, 0, 0, 0, 3, [], []), (2, 0, 2, 0, 0, 0, 4, [], []), (20, 3, 1, 0, 0, 0, 5, [6], []), (2, 1, 0, 0, 0, 0, 6, [], []), (33, 38, 2, 0, 0, 0, 7, [], []), (16, 9, 0, 0, 0, 0, 8, [], []), (0, 0, 0, (-1), 0, 0, 9, [], []), (34, 0, 1, 0, 0, 0, 10, [], [])]
noncomputable def pc_59 : List (List mOp) := [pc_59_0]
/-- 60: PotAndFine.holds(II)J -/
noncomputable def pc_60_0 : List mOp := [(2, 0, 2, 0, 0, 1, 1, [], []), (2, 1, 0, 0, 0, 0, 2, [], []), (33, 85, 2, 0, 0, 0, 3, [], []), (17, 7, 0, 0, 0, 0, 4, [], []), (2, 2, 0, 0, 0, 0, 5, [], []), (33, 86, 1, 0, 0, 0, 6, [], []), (17, 9, 1, 0, 0, 0, 7, [], []), (1, 0, 0, 0, (-1), 0, 8, [], []), (34, 0, 2, 0, 0, 0, 9, [], []), (1, 0, 0, 0, 1000000000, 0, 10, [], []), (2, 0, 2, 0, 0, 0, 11, [], []), (33, 97, 1, 0, 0, 0, 12, [], []), (20, 4, 1, 0, 0, 0, 13, [1], []), (2, 1, 0, 0, 0, 0, 14, [], []), (2, 2, 0, 0, 0, 0, 15, [], []), (33, 92, 2, 0, 0, 0, 16, [], []), (24, 0, 0, 0, 0, 0, 17, [], []), (9, 0, 0, 0, 0, 0, 18, [], []), (34, 0, 2, 0, 0, 0, 19, [], [])]
noncomputable def pc_60 : List (List mOp) := [pc_60_0]
/-- 61: PotAndFine.all(IZ)J -/
noncomputable def pc_61_0 : List mOp := [(2, 1, 0, 0, 0, 1, 1, [], []), (33, 86, 1, 0, 0, 0, 2, [], []), (17, 5, 1, 0, 0, 0, 3, [], []), (1, 0, 0, 0, (-1), 0, 4, [], []), (34, 0, 2, 0, 0, 0, 5, [], []), (2, 2, 0, 0, 0, 0, 6, [], []), (17, 11, 0, 0, 0, 0, 7, [], []), (2, 0, 2, 0, 0, 0, 8, [], []), (0, 0, 0, 0, 0, 0, 9, [], []), (33, 98, 2, 0, 0, 0, 10, [], []), (16, 13, 0, 0, 0, 0, 11, [], []), (2, 0, 2, 0, 0, 0, 12, [], []), (33, 97, 1, 0, 0, 0, 13, [], []), (3, 3, 2, 0, 0, 0, 14, [], []), (1, 0, 0, 0, 1000000000, 0, 15, [], []), (2, 3, 2, 0, 0, 0, 16, [], []), (2, 1, 0, 0, 0, 0, 17, [], []), (33, 9, 2, 0, 0, 0, 18, [], []), (9, 0, 0, 0, 0, 0, 19, [], []), (34, 0, 2, 0, 0, 0, 20, [], [])]
noncomputable def pc_61 : List (List mOp) := [pc_61_0]
/-- 62: PotAndFine.lost(II)I -/
noncomputable def pc_62_0 : List mOp := [(2, 0, 2, 0, 0, 1, 1, [], []), (2, 1, 0, 0, 0, 0, 2, [], []), (33, 85, 2, 0, 0, 0, 3, [], []), (17, 7, 0, 0, 0, 0, 4, [], []), (2, 2, 0, 0, 0, 0, 5, [], []), (33, 86, 1, 0, 0, 0, 6, [], []), (17, 9, 1, 0, 0, 0, 7, [], []), (0, 0, 0, (-1), 0, 0, 8, [], []), (34, 0, 1, 0, 0, 0, 9, [], []), (2, 0, 2, 0, 0, 0, 10, [], []), (33, 97, 1, 0, 0, 0, 11, [], []), (20, 3, 1, 0, 0, 0, 12, [1], []), (2, 1, 0, 0, 0, 0, 13, [], []), (2, 2, 0, 0, 0, 0, 14, [], []), (33, 92, 2, 0, 0, 0, 15, [], []), (23, 0, 0, 0, 0, 0, 16, [], []), (34, 0, 1, 0, 0, 0, 17, [], [])]
noncomputable def pc_62 : List (List mOp) := [pc_62_0]
/-- 63: PotAndFine.fall()I -/
noncomputable def pc_63_0 : List mOp := [(2, 0, 2, 0, 0, 1, 1, [], []), (33, 97, 1, 0, 0, 0, 2, [], []), (3, 1, 2, 0, 0, 0, 3, [], []), (2, 1, 2, 0, 0, 0, 4, [], []), (20, 5, 1, 0, 0, 0, 5, [1], []), (0, 0, 0, 0, 0, 0, 6, [], []), (23, 0, 0, 0, 0, 0, 7, [], []), (17, 10, 1, 0, 0, 0, 8, [], []), (0, 0, 0, (-9), 0, 0, 9, [], []), (34, 0, 1, 0, 0, 0, 10, [], []), (0, 0, 0, 1, 0, 0, 11, [], []), (3, 2, 0, 0, 0, 0, 12, [], []), (2, 2, 0, 0, 0, 1, 13, [], [0]), (0, 0, 0, 40, 0, 0, 14, [], []), (18, 30, 3, 0, 0, 0, 15, [], []), (0, 0, 0, 2, 0, 0, 16, [], []), (2, 1, 2, 0, 0, 0, 17, [], []), (20, 5, 1, 0, 0, 0, 18, [1], []), (2, 2, 0, 0, 0, 0, 19, [], []), (23, 0, 0, 0, 0, 0, 20, [], []), (5, 0, 2, 0, 0, 0, 21, [], []), (2, 1, 2, 0, 0, 0, 22, [], []), (20, 5, 1, 0, 0, 0, 23, [1], []), (0, 0, 0, 0, 0, 0, 24, [], []), (23, 0, 0, 0, 0, 0, 25, [], []), (18, 28, 4, 0, 0, 0, 26, [], []), (2, 2, 0, 0, 0, 0, 27, [], []), (34, 0, 1, 0, 0, 0, 28, [], []), (4, 2, 0, 1, 0, 0, 29, [], []), (16, 12, 0, 0, 0, 0, 30, [], []), (0, 0, 0, (-9), 0, 0, 31, [], []), (34, 0, 1, 0, 0, 0, 32, [], [])]
noncomputable def pc_63 : List (List mOp) := [pc_63_0]
/-- 64: PotAndFine.pays()I -/
noncomputable def pc_64_0 : List mOp := [(2, 0, 2, 0, 0, 1, 1, [], []), (33, 97, 1, 0, 0, 0, 2, [], []), (3, 1, 2, 0, 0, 0, 3, [], []), (2, 0, 2, 0, 0, 0, 4, [], []), (0, 0, 0, 0, 0, 0, 5, [], []), (33, 98, 2, 0, 0, 0, 6, [], []), (3, 2, 2, 0, 0, 0, 7, [], []), (0, 0, 0, (-9), 0, 0, 8, [], []), (3, 3, 0, 0, 0, 0, 9, [], []), (0, 0, 0, 39, 0, 0, 10, [], []), (3, 4, 0, 0, 0, 0, 11, [], []), (2, 4, 0, 0, 0, 1, 12, [], [0]), (17, 27, 2, 0, 0, 0, 13, [], []), (2, 1, 2, 0, 0, 0, 14, [], []), (2, 4, 0, 0, 0, 0, 15, [], []), (33, 9, 2, 0, 0, 0, 16, [], []), (2, 2, 2, 0, 0, 0, 17, [], []), (2, 4, 0, 0, 0, 0, 18, [], []), (33, 9, 2, 0, 0, 0, 19, [], []), (13, 0, 0, 0, 0, 0, 20, [], []), (17, 23, 4, 0, 0, 0, 21, [], []), (2, 3, 0, 0, 0, 0, 22, [], []), (34, 0, 1, 0, 0, 0, 23, [], []), (2, 4, 0, 0, 0, 0, 24, [], []), (3, 3, 0, 0, 0, 0, 25, [], []), (4, 4, 0, (-1), 0, 0, 26, [], []), (16, 11, 0, 0, 0, 0, 27, [], []), (2, 3, 0, 0, 0, 0, 28, [], []), (34, 0, 1, 0, 0, 0, 29, [], [])]
noncomputable def pc_64 : List (List mOp) := [pc_64_0]
/-- 65: PotAndFine.vote(I)I -/
noncomputable def pc_65_0 : List mOp := [(2, 1, 0, 0, 0, 1, 1, [], []), (33, 86, 1, 0, 0, 0, 2, [], []), (17, 5, 1, 0, 0, 0, 3, [], []), (0, 0, 0, (-1), 0, 0, 4, [], []), (34, 0, 1, 0, 0, 0, 5, [], []), (2, 0, 2, 0, 0, 0, 6, [], []), (33, 97, 1, 0, 0, 0, 7, [], []), (3, 2, 2, 0, 0, 0, 8, [], []), (2, 0, 2, 0, 0, 0, 9, [], []), (0, 0, 0, 0, 0, 0, 10, [], []), (33, 98, 2, 0, 0, 0, 11, [], []), (3, 3, 2, 0, 0, 0, 12, [], []), (0, 0, 0, 0, 0, 0, 13, [], []), (3, 4, 0, 0, 0, 0, 14, [], []), (0, 0, 0, 0, 0, 0, 15, [], []), (3, 5, 0, 0, 0, 0, 16, [], []), (2, 5, 0, 0, 0, 1, 17, [], [6]), (2, 0, 2, 0, 0, 0, 18, [], []), (20, 3, 1, 0, 0, 0, 19, [6], []), (20, 1, 0, 0, 0, 0, 20, [4], []), (18, 43, 3, 0, 0, 0, 21, [], []), (2, 5, 0, 0, 0, 0, 22, [], []), (2, 1, 0, 0, 0, 0, 23, [], []), (33, 92, 2, 0, 0, 0, 24, [], []), (3, 6, 0, 0, 0, 0, 25, [], []), (2, 2, 2, 0, 0, 0, 26, [], []), (20, 4, 1, 0, 0, 0, 27, [1], []), (2, 6, 0, 0, 0, 0, 28, [], []), (24, 0, 0, 0, 0, 0, 29, [], []), (2, 3, 2, 0, 0, 0, 30, [], []), (20, 4, 1, 0, 0, 0, 31, [1], []), (2, 6, 0, 0, 0, 0, 32, [], [])]
noncomputable def pc_65_1 : List mOp := [(24, 0, 0, 0, 0, 0, 33, [], []), (13, 0, 0, 0, 0, 0, 34, [], []), (17, 41, 5, 0, 0, 0, 35, [], []), (2, 4, 0, 0, 0, 0, 36, [], []), (0, 0, 0, 1, 0, 0, 37, [], []), (2, 5, 0, 0, 0, 0, 38, [], []), (5, 0, 6, 0, 0, 0, 39, [], []), (5, 0, 4, 0, 0, 0, 40, [], []), (3, 4, 0, 0, 0, 0, 41, [], []), (4, 5, 0, 1, 0, 0, 42, [], []), (16, 16, 0, 0, 0, 0, 43, [], []), (2, 4, 0, 0, 0, 0, 44, [], []), (34, 0, 1, 0, 0, 0, 45, [], [])]
noncomputable def pc_65 : List (List mOp) := [pc_65_0, pc_65_1]
/-- 66: PotAndFine.least(II)I -/
noncomputable def pc_66_0 : List mOp := [(2, 1, 0, 0, 0, 1, 1, [], []), (33, 86, 1, 0, 0, 0, 2, [], []), (17, 5, 1, 0, 0, 0, 3, [], []), (0, 0, 0, (-1), 0, 0, 4, [], []), (34, 0, 1, 0, 0, 0, 5, [], []), (2, 2, 0, 0, 0, 0, 6, [], []), (17, 10, 2, 0, 0, 0, 7, [], []), (2, 2, 0, 0, 0, 0, 8, [], []), (0, 0, 0, 20, 0, 0, 9, [], []), (18, 12, 5, 0, 0, 0, 10, [], []), (0, 0, 0, (-2), 0, 0, 11, [], []), (34, 0, 1, 0, 0, 0, 12, [], []), (2, 2, 0, 0, 0, 0, 13, [], []), (2, 0, 2, 0, 0, 0, 14, [], []), (20, 3, 1, 0, 0, 0, 15, [6], []), (2, 1, 0, 0, 0, 0, 16, [], []), (33, 38, 2, 0, 0, 0, 17, [], []), (5, 0, 2, 0, 0, 0, 18, [], []), (3, 3, 0, 0, 0, 0, 19, [], []), (0, 0, 0, 0, 0, 0, 20, [], []), (3, 4, 0, 0, 0, 0, 21, [], []), (2, 4, 0, 0, 0, 1, 22, [], [2]), (0, 0, 0, 9, 0, 0, 23, [], []), (18, 36, 4, 0, 0, 0, 24, [], []), (2, 0, 2, 0, 0, 0, 25, [], []), (2, 4, 0, 0, 0, 0, 26, [], []), (33, 98, 2, 0, 0, 0, 27, [], []), (20, 5, 1, 0, 0, 0, 28, [1], []), (2, 1, 0, 0, 0, 0, 29, [], []), (23, 0, 0, 0, 0, 0, 30, [], []), (2, 3, 0, 0, 0, 0, 31, [], []), (18, 34, 2, 0, 0, 0, 32, [], [])]
noncomputable def pc_66_1 : List mOp := [(2, 4, 0, 0, 0, 0, 33, [], []), (34, 0, 1, 0, 0, 0, 34, [], []), (4, 4, 0, 1, 0, 0, 35, [], []), (16, 21, 0, 0, 0, 0, 36, [], []), (0, 0, 0, (-9), 0, 0, 37, [], []), (34, 0, 1, 0, 0, 0, 38, [], [])]
noncomputable def pc_66 : List (List mOp) := [pc_66_0, pc_66_1]
/-- 67: PotAndFine.leader()I -/
noncomputable def pc_67_0 : List mOp := [(0, 0, 0, 0, 0, 1, 1, [], []), (3, 1, 0, 0, 0, 0, 2, [], []), (1, 0, 0, 0, 0, 0, 3, [], []), (3, 2, 1, 0, 0, 0, 4, [], []), (0, 0, 0, 0, 0, 0, 5, [], []), (3, 4, 0, 0, 0, 0, 6, [], []), (2, 4, 0, 0, 0, 1, 7, [], [3, 5, 6]), (2, 0, 2, 0, 0, 0, 8, [], []), (20, 3, 1, 0, 0, 0, 9, [6], []), (20, 1, 0, 0, 0, 0, 10, [4], []), (18, 27, 3, 0, 0, 0, 11, [], []), (2, 0, 2, 0, 0, 0, 12, [], []), (2, 4, 0, 0, 0, 0, 13, [], []), (33, 99, 2, 0, 0, 0, 14, [], []), (3, 5, 1, 0, 0, 0, 15, [], []), (2, 4, 0, 0, 0, 0, 16, [], []), (17, 21, 0, 0, 0, 0, 17, [], []), (2, 5, 1, 0, 0, 0, 18, [], []), (2, 2, 1, 0, 0, 0, 19, [], []), (13, 0, 0, 0, 0, 0, 20, [], []), (17, 25, 5, 0, 0, 0, 21, [], []), (2, 4, 0, 0, 0, 0, 22, [], []), (3, 1, 0, 0, 0, 0, 23, [], []), (2, 5, 1, 0, 0, 0, 24, [], []), (3, 2, 1, 0, 0, 0, 25, [], []), (4, 4, 0, 1, 0, 0, 26, [], []), (16, 6, 0, 0, 0, 0, 27, [], []), (2, 1, 0, 0, 0, 0, 28, [], []), (34, 0, 1, 0, 0, 0, 29, [], [])]
noncomputable def pc_67 : List (List mOp) := [pc_67_0]
/-- 68: PotAndFine.led()J -/
noncomputable def pc_68_0 : List mOp := [(2, 0, 2, 0, 0, 1, 1, [], []), (0, 0, 0, 0, 0, 0, 2, [], []), (33, 99, 2, 0, 0, 0, 3, [], []), (3, 1, 1, 0, 0, 0, 4, [], []), (0, 0, 0, 1, 0, 0, 5, [], []), (3, 3, 0, 0, 0, 0, 6, [], []), (2, 3, 0, 0, 0, 1, 7, [], [2]), (2, 0, 2, 0, 0, 0, 8, [], []), (20, 3, 1, 0, 0, 0, 9, [6], []), (20, 1, 0, 0, 0, 0, 10, [4], []), (18, 19, 3, 0, 0, 0, 11, [], []), (2, 1, 1, 0, 0, 0, 12, [], []), (2, 0, 2, 0, 0, 0, 13, [], []), (2, 3, 0, 0, 0, 0, 14, [], []), (33, 99, 2, 0, 0, 0, 15, [], []), (41, 0, 2, 0, 0, 0, 16, [], []), (3, 1, 1, 0, 0, 0, 17, [], []), (4, 3, 0, 1, 0, 0, 18, [], []), (16, 6, 0, 0, 0, 0, 19, [], []), (1, 0, 0, 0, 1000000000, 0, 20, [], []), (2, 1, 1, 0, 0, 0, 21, [], []), (9, 0, 0, 0, 0, 0, 22, [], []), (34, 0, 2, 0, 0, 0, 23, [], [])]
noncomputable def pc_68 : List (List mOp) := [pc_68_0]
/-- 69: PotAndFine.whom()I -/
noncomputable def pc_69_0 : List mOp := [(0, 0, 0, (-3), 0, 1, 1, [], []), (3, 1, 0, 0, 0, 0, 2, [], []), (1, 0, 0, 0, 0, 0, 3, [], []), (3, 2, 1, 0, 0, 0, 4, [], []), (0, 0, 0, 0, 0, 0, 5, [], []), (3, 4, 0, 0, 0, 0, 6, [], []), (2, 4, 0, 0, 0, 1, 7, [], [3, 5, 6]), (2, 0, 2, 0, 0, 0, 8, [], []), (20, 3, 1, 0, 0, 0, 9, [6], []), (20, 1, 0, 0, 0, 0, 10, [4], []), (18, 33, 3, 0, 0, 0, 11, [], []), (2, 0, 2, 0, 0, 0, 12, [], []), (20, 3, 1, 0, 0, 0, 13, [6], []), (2, 4, 0, 0, 0, 0, 14, [], []), (33, 39, 2, 0, 0, 0, 15, [], []), (17, 31, 0, 0, 0, 0, 16, [], []), (2, 0, 2, 0, 0, 0, 17, [], []), (2, 4, 0, 0, 0, 0, 18, [], []), (33, 100, 2, 0, 0, 0, 19, [], []), (3, 5, 1, 0, 0, 0, 20, [], []), (2, 1, 0, 0, 0, 0, 21, [], []), (0, 0, 0, (-3), 0, 0, 22, [], []), (18, 27, 0, 0, 0, 0, 23, [], []), (2, 5, 1, 0, 0, 0, 24, [], []), (2, 2, 1, 0, 0, 0, 25, [], []), (13, 0, 0, 0, 0, 0, 26, [], []), (17, 31, 5, 0, 0, 0, 27, [], []), (2, 4, 0, 0, 0, 0, 28, [], []), (3, 1, 0, 0, 0, 0, 29, [], []), (2, 5, 1, 0, 0, 0, 30, [], []), (3, 2, 1, 0, 0, 0, 31, [], []), (4, 4, 0, 1, 0, 0, 32, [], [])]
noncomputable def pc_69_1 : List mOp := [(16, 6, 0, 0, 0, 0, 33, [], []), (2, 1, 0, 0, 0, 0, 34, [], []), (34, 0, 1, 0, 0, 0, 35, [], [])]
noncomputable def pc_69 : List (List mOp) := [pc_69_0, pc_69_1]
/-- 70: PotAndFine.without(I)J -/
noncomputable def pc_70_0 : List mOp := [(2, 0, 2, 0, 0, 1, 1, [], []), (2, 1, 0, 0, 0, 0, 2, [], []), (33, 85, 2, 0, 0, 0, 3, [], []), (17, 6, 1, 0, 0, 0, 4, [], []), (1, 0, 0, 0, (-1), 0, 5, [], []), (34, 0, 2, 0, 0, 0, 6, [], []), (2, 0, 2, 0, 0, 0, 7, [], []), (20, 3, 1, 0, 0, 0, 8, [6], []), (2, 1, 0, 0, 0, 0, 9, [], []), (33, 39, 2, 0, 0, 0, 10, [], []), (17, 17, 0, 0, 0, 0, 11, [], []), (1, 0, 0, 0, 1000000000, 0, 12, [], []), (2, 0, 2, 0, 0, 0, 13, [], []), (2, 1, 0, 0, 0, 0, 14, [], []), (33, 100, 2, 0, 0, 0, 15, [], []), (9, 0, 0, 0, 0, 0, 16, [], []), (16, 18, 0, 0, 0, 0, 17, [], []), (1, 0, 0, 0, (-3), 0, 18, [], []), (34, 0, 2, 0, 0, 0, 19, [], [])]
noncomputable def pc_70 : List (List mOp) := [pc_70_0]
/-- 71: PotAndFine.part()I -/
noncomputable def pc_71_0 : List mOp := [(0, 0, 0, (-3), 0, 1, 1, [], []), (3, 1, 0, 0, 0, 0, 2, [], []), (1, 0, 0, 0, 0, 0, 3, [], []), (3, 2, 1, 0, 0, 0, 4, [], []), (0, 0, 0, 1, 0, 0, 5, [], []), (3, 4, 0, 0, 0, 0, 6, [], []), (2, 0, 2, 0, 0, 1, 7, [], [3, 5, 6]), (33, 101, 1, 0, 0, 0, 8, [], []), (17, 37, 0, 0, 0, 0, 9, [], []), (2, 4, 0, 0, 0, 0, 10, [], []), (0, 0, 0, 1, 0, 0, 11, [], []), (2, 0, 2, 0, 0, 0, 12, [], []), (20, 3, 1, 0, 0, 0, 13, [6], []), (20, 1, 0, 0, 0, 0, 14, [4], []), (5, 0, 6, 0, 0, 0, 15, [], []), (18, 37, 3, 0, 0, 0, 16, [], []), (2, 0, 2, 0, 0, 0, 17, [], []), (2, 4, 0, 0, 0, 0, 18, [], []), (33, 102, 2, 0, 0, 0, 19, [], []), (17, 35, 0, 0, 0, 0, 20, [], []), (2, 0, 2, 0, 0, 0, 21, [], []), (2, 4, 0, 0, 0, 0, 22, [], []), (33, 103, 2, 0, 0, 0, 23, [], []), (3, 5, 1, 0, 0, 0, 24, [], []), (2, 1, 0, 0, 0, 0, 25, [], []), (0, 0, 0, (-3), 0, 0, 26, [], []), (18, 31, 0, 0, 0, 0, 27, [], []), (2, 5, 1, 0, 0, 0, 28, [], []), (2, 2, 1, 0, 0, 0, 29, [], []), (13, 0, 0, 0, 0, 0, 30, [], []), (17, 35, 5, 0, 0, 0, 31, [], []), (2, 4, 0, 0, 0, 0, 32, [], [])]
noncomputable def pc_71_1 : List mOp := [(3, 1, 0, 0, 0, 0, 33, [], []), (2, 5, 1, 0, 0, 0, 34, [], []), (3, 2, 1, 0, 0, 0, 35, [], []), (4, 4, 0, 2, 0, 0, 36, [], []), (16, 6, 0, 0, 0, 0, 37, [], []), (2, 1, 0, 0, 0, 0, 38, [], []), (34, 0, 1, 0, 0, 0, 39, [], [])]
noncomputable def pc_71 : List (List mOp) := [pc_71_0, pc_71_1]
/-- 72: PotAndFine.parted()J -/
noncomputable def pc_72_0 : List mOp := [(2, 0, 2, 0, 0, 1, 1, [], []), (33, 101, 1, 0, 0, 0, 2, [], []), (17, 5, 1, 0, 0, 0, 3, [], []), (1, 0, 0, 0, (-3), 0, 4, [], []), (34, 0, 2, 0, 0, 0, 5, [], []), (1, 0, 0, 0, (-9223372036854775808), 0, 6, [], []), (3, 1, 1, 0, 0, 0, 7, [], []), (0, 0, 0, 1, 0, 0, 8, [], []), (3, 3, 0, 0, 0, 0, 9, [], []), (2, 3, 0, 0, 0, 1, 10, [], [2]), (0, 0, 0, 1, 0, 0, 11, [], []), (2, 0, 2, 0, 0, 0, 12, [], []), (20, 3, 1, 0, 0, 0, 13, [6], []), (20, 1, 0, 0, 0, 0, 14, [4], []), (5, 0, 6, 0, 0, 0, 15, [], []), (18, 28, 3, 0, 0, 0, 16, [], []), (2, 0, 2, 0, 0, 0, 17, [], []), (2, 3, 0, 0, 0, 0, 18, [], []), (33, 102, 2, 0, 0, 0, 19, [], []), (17, 26, 0, 0, 0, 0, 20, [], []), (2, 1, 1, 0, 0, 0, 21, [], []), (2, 0, 2, 0, 0, 0, 22, [], []), (2, 3, 0, 0, 0, 0, 23, [], []), (33, 103, 2, 0, 0, 0, 24, [], []), (41, 0, 2, 0, 0, 0, 25, [], []), (3, 1, 1, 0, 0, 0, 26, [], []), (4, 3, 0, 2, 0, 0, 27, [], []), (16, 9, 0, 0, 0, 0, 28, [], []), (1, 0, 0, 0, 1000000000, 0, 29, [], []), (2, 1, 1, 0, 0, 0, 30, [], []), (9, 0, 0, 0, 0, 0, 31, [], []), (34, 0, 2, 0, 0, 0, 32, [], [])]
noncomputable def pc_72 : List (List mOp) := [pc_72_0]
/-- 73: PotAndFine.reply(II)I -/
noncomputable def pc_73_0 : List mOp := [(2, 0, 2, 0, 0, 1, 1, [], []), (2, 1, 0, 0, 0, 0, 2, [], []), (33, 85, 2, 0, 0, 0, 3, [], []), (17, 7, 0, 0, 0, 0, 4, [], []), (2, 2, 0, 0, 0, 0, 5, [], []), (33, 86, 1, 0, 0, 0, 6, [], []), (17, 9, 1, 0, 0, 0, 7, [], []), (0, 0, 0, (-1), 0, 0, 8, [], []), (34, 0, 1, 0, 0, 0, 9, [], []), (2, 0, 2, 0, 0, 0, 10, [], []), (20, 3, 1, 0, 0, 0, 11, [6], []), (2, 1, 0, 0, 0, 0, 12, [], []), (2, 2, 0, 0, 0, 0, 13, [], []), (33, 37, 3, 0, 0, 0, 14, [], []), (17, 21, 0, 0, 0, 0, 15, [], []), (2, 0, 2, 0, 0, 0, 16, [], []), (33, 97, 1, 0, 0, 0, 17, [], []), (2, 1, 0, 0, 0, 0, 18, [], []), (2, 2, 0, 0, 0, 0, 19, [], []), (33, 11, 3, 0, 0, 0, 20, [], []), (16, 22, 0, 0, 0, 0, 21, [], []), (0, 0, 0, (-3), 0, 0, 22, [], []), (34, 0, 1, 0, 0, 0, 23, [], [])]
noncomputable def pc_73 : List (List mOp) := [pc_73_0]
/-- 74: PotAndFine.gain(III)J -/
noncomputable def pc_74_0 : List mOp := [(2, 0, 2, 0, 0, 1, 1, [], []), (2, 1, 0, 0, 0, 0, 2, [], []), (33, 85, 2, 0, 0, 0, 3, [], []), (17, 7, 0, 0, 0, 0, 4, [], []), (2, 2, 0, 0, 0, 0, 5, [], []), (33, 86, 1, 0, 0, 0, 6, [], []), (17, 9, 1, 0, 0, 0, 7, [], []), (1, 0, 0, 0, (-1), 0, 8, [], []), (34, 0, 2, 0, 0, 0, 9, [], []), (2, 3, 0, 0, 0, 0, 10, [], []), (17, 18, 2, 0, 0, 0, 11, [], []), (2, 3, 0, 0, 0, 0, 12, [], []), (2, 0, 2, 0, 0, 0, 13, [], []), (20, 3, 1, 0, 0, 0, 14, [6], []), (20, 0, 1, 0, 0, 0, 15, [4], []), (0, 0, 0, 0, 0, 0, 16, [], []), (23, 0, 0, 0, 0, 0, 17, [], []), (18, 20, 5, 0, 0, 0, 18, [], []), (1, 0, 0, 0, (-2), 0, 19, [], []), (34, 0, 2, 0, 0, 0, 20, [], []), (2, 0, 2, 0, 0, 0, 21, [], []), (20, 3, 1, 0, 0, 0, 22, [6], []), (2, 1, 0, 0, 0, 0, 23, [], []), (2, 2, 0, 0, 0, 0, 24, [], []), (33, 37, 3, 0, 0, 0, 25, [], []), (17, 35, 0, 0, 0, 0, 26, [], []), (1, 0, 0, 0, 1000000000, 0, 27, [], []), (2, 0, 2, 0, 0, 0, 28, [], []), (33, 97, 1, 0, 0, 0, 29, [], []), (2, 1, 0, 0, 0, 0, 30, [], []), (2, 2, 0, 0, 0, 0, 31, [], []), (2, 3, 0, 0, 0, 0, 32, [], [])]
noncomputable def pc_74_1 : List mOp := [(33, 10, 4, 0, 0, 0, 33, [], []), (9, 0, 0, 0, 0, 0, 34, [], []), (16, 36, 0, 0, 0, 0, 35, [], []), (1, 0, 0, 0, (-3), 0, 36, [], []), (34, 0, 2, 0, 0, 0, 37, [], [])]
noncomputable def pc_74 : List (List mOp) := [pc_74_0, pc_74_1]
/-- 75: PotAndFine.rest(I)I -/
noncomputable def pc_75_0 : List mOp := [(2, 1, 0, 0, 0, 1, 1, [], []), (33, 86, 1, 0, 0, 0, 2, [], []), (17, 5, 1, 0, 0, 0, 3, [], []), (0, 0, 0, (-1), 0, 0, 4, [], []), (34, 0, 1, 0, 0, 0, 5, [], []), (2, 0, 2, 0, 0, 0, 6, [], []), (33, 97, 1, 0, 0, 0, 7, [], []), (2, 1, 0, 0, 0, 0, 8, [], []), (33, 12, 2, 0, 0, 0, 9, [], []), (17, 12, 0, 0, 0, 0, 10, [], []), (0, 0, 0, 1, 0, 0, 11, [], []), (16, 13, 0, 0, 0, 0, 12, [], []), (0, 0, 0, 0, 0, 0, 13, [], []), (34, 0, 1, 0, 0, 0, 14, [], [])]
noncomputable def pc_75 : List (List mOp) := [pc_75_0]
/-- 76: PotAndFine.note(III)I -/
noncomputable def pc_76_0 : List mOp := [(2, 1, 0, 0, 0, 1, 1, [], []), (33, 89, 1, 0, 0, 0, 2, [], []), (17, 6, 0, 0, 0, 0, 3, [], []), (2, 2, 0, 0, 0, 0, 4, [], []), (33, 90, 1, 0, 0, 0, 5, [], []), (17, 8, 1, 0, 0, 0, 6, [], []), (0, 0, 0, (-1), 0, 0, 7, [], []), (34, 0, 1, 0, 0, 0, 8, [], []), (2, 3, 0, 0, 0, 0, 9, [], []), (33, 88, 1, 0, 0, 0, 10, [], []), (17, 13, 1, 0, 0, 0, 11, [], []), (0, 0, 0, (-2), 0, 0, 12, [], []), (34, 0, 1, 0, 0, 0, 13, [], []), (2, 1, 0, 0, 0, 0, 14, [], []), (2, 2, 0, 0, 0, 0, 15, [], []), (33, 94, 2, 0, 0, 0, 16, [], []), (3, 4, 0, 0, 0, 0, 17, [], []), (2, 0, 2, 0, 0, 0, 18, [], []), (20, 7, 1, 0, 0, 0, 19, [6], []), (20, 0, 1, 0, 0, 0, 20, [0], []), (2, 4, 0, 0, 0, 0, 21, [], []), (23, 0, 0, 0, 0, 0, 22, [], []), (3, 5, 0, 0, 0, 0, 23, [], []), (2, 0, 2, 0, 0, 0, 24, [], []), (20, 7, 1, 0, 0, 0, 25, [6], []), (20, 0, 1, 0, 0, 0, 26, [0], []), (2, 4, 0, 0, 0, 0, 27, [], []), (2, 3, 0, 0, 0, 0, 28, [], []), (26, 0, 0, 0, 0, 0, 29, [], []), (2, 5, 0, 0, 0, 0, 30, [], []), (34, 0, 1, 0, 0, 0, 31, [], [])]
noncomputable def pc_76 : List (List mOp) := [pc_76_0]
/-- 77: PotAndFine.would(III)I -/
noncomputable def pc_77_0 : List mOp := [(2, 2, 0, 0, 0, 1, 1, [], []), (33, 89, 1, 0, 0, 0, 2, [], []), (17, 6, 0, 0, 0, 0, 3, [], []), (2, 3, 0, 0, 0, 0, 4, [], []), (33, 90, 1, 0, 0, 0, 5, [], []), (17, 8, 1, 0, 0, 0, 6, [], []), (0, 0, 0, (-1), 0, 0, 7, [], []), (34, 0, 1, 0, 0, 0, 8, [], []), (2, 1, 0, 0, 0, 0, 9, [], []), (33, 91, 1, 0, 0, 0, 10, [], []), (17, 18, 0, 0, 0, 0, 11, [], []), (2, 0, 2, 0, 0, 0, 12, [], []), (20, 7, 1, 0, 0, 0, 13, [6], []), (2, 1, 0, 0, 0, 0, 14, [], []), (2, 2, 0, 0, 0, 0, 15, [], []), (2, 3, 0, 0, 0, 0, 16, [], []), (33, 1, 4, 0, 0, 0, 17, [], []), (16, 19, 0, 0, 0, 0, 18, [], []), (0, 0, 0, (-2), 0, 0, 19, [], []), (34, 0, 1, 0, 0, 0, 20, [], [])]
noncomputable def pc_77 : List (List mOp) := [pc_77_0]
/-- 78: PotAndFine.slips(II)I -/
noncomputable def pc_78_0 : List mOp := [(2, 2, 0, 0, 0, 1, 1, [], []), (33, 89, 1, 0, 0, 0, 2, [], []), (17, 5, 1, 0, 0, 0, 3, [], []), (0, 0, 0, (-1), 0, 0, 4, [], []), (34, 0, 1, 0, 0, 0, 5, [], []), (2, 1, 0, 0, 0, 0, 6, [], []), (33, 91, 1, 0, 0, 0, 7, [], []), (17, 14, 0, 0, 0, 0, 8, [], []), (2, 0, 2, 0, 0, 0, 9, [], []), (20, 7, 1, 0, 0, 0, 10, [6], []), (2, 1, 0, 0, 0, 0, 11, [], []), (2, 2, 0, 0, 0, 0, 12, [], []), (33, 2, 3, 0, 0, 0, 13, [], []), (16, 15, 0, 0, 0, 0, 14, [], []), (0, 0, 0, (-2), 0, 0, 15, [], []), (34, 0, 1, 0, 0, 0, 16, [], [])]
noncomputable def pc_78 : List (List mOp) := [pc_78_0]
/-- 79: PotAndFine.sort(I)I -/
noncomputable def pc_79_0 : List mOp := [(2, 1, 0, 0, 0, 1, 1, [], []), (33, 89, 1, 0, 0, 0, 2, [], []), (17, 8, 0, 0, 0, 0, 3, [], []), (2, 0, 2, 0, 0, 0, 4, [], []), (20, 7, 1, 0, 0, 0, 5, [6], []), (2, 1, 0, 0, 0, 0, 6, [], []), (33, 3, 2, 0, 0, 0, 7, [], []), (16, 9, 0, 0, 0, 0, 8, [], []), (0, 0, 0, (-1), 0, 0, 9, [], []), (34, 0, 1, 0, 0, 0, 10, [], [])]
noncomputable def pc_79 : List (List mOp) := [pc_79_0]
/-- 80: PotAndFine.sorts(II)I -/
noncomputable def pc_80_0 : List mOp := [(2, 1, 0, 0, 0, 1, 1, [], []), (33, 89, 1, 0, 0, 0, 2, [], []), (17, 5, 1, 0, 0, 0, 3, [], []), (0, 0, 0, (-1), 0, 0, 4, [], []), (34, 0, 1, 0, 0, 0, 5, [], []), (2, 2, 0, 0, 0, 0, 6, [], []), (17, 10, 2, 0, 0, 0, 7, [], []), (2, 2, 0, 0, 0, 0, 8, [], []), (0, 0, 0, 8, 0, 0, 9, [], []), (18, 12, 5, 0, 0, 0, 10, [], []), (0, 0, 0, (-2), 0, 0, 11, [], []), (16, 17, 0, 0, 0, 0, 12, [], []), (2, 0, 2, 0, 0, 0, 13, [], []), (20, 7, 1, 0, 0, 0, 14, [6], []), (2, 1, 0, 0, 0, 0, 15, [], []), (2, 2, 0, 0, 0, 0, 16, [], []), (33, 4, 3, 0, 0, 0, 17, [], []), (34, 0, 1, 0, 0, 0, 18, [], [])]
noncomputable def pc_80 : List (List mOp) := [pc_80_0]
/-- 81: PotAndFine.copy()I -/
noncomputable def pc_81_0 : List mOp := [(2, 0, 2, 0, 0, 1, 1, [], []), (33, 97, 1, 0, 0, 0, 2, [], []), (3, 1, 2, 0, 0, 0, 3, [], []), (2, 0, 2, 0, 0, 0, 4, [], []), (20, 7, 1, 0, 0, 0, 5, [6], []), (20, 0, 1, 0, 0, 0, 6, [0], []), (0, 0, 0, (-9), 0, 0, 7, [], []), (33, 195, 2, 0, 0, 0, 8, [], []), (0, 0, 0, 0, 0, 0, 9, [], []), (3, 2, 0, 0, 0, 0, 10, [], []), (2, 2, 0, 0, 0, 1, 11, [], [3]), (2, 0, 2, 0, 0, 0, 12, [], []), (20, 3, 1, 0, 0, 0, 13, [6], []), (20, 1, 0, 0, 0, 0, 14, [4], []), (18, 37, 3, 0, 0, 0, 15, [], []), (0, 0, 0, 0, 0, 0, 16, [], []), (3, 3, 0, 0, 0, 0, 17, [], []), (2, 3, 0, 0, 0, 1, 18, [], []), (0, 0, 0, 8, 0, 0, 19, [], []), (18, 35, 3, 0, 0, 0, 20, [], []), (2, 0, 2, 0, 0, 0, 21, [], []), (20, 7, 1, 0, 0, 0, 22, [6], []), (20, 0, 1, 0, 0, 0, 23, [0], []), (2, 2, 0, 0, 0, 0, 24, [], []), (2, 3, 0, 0, 0, 0, 25, [], []), (33, 94, 2, 0, 0, 0, 26, [], []), (2, 1, 2, 0, 0, 0, 27, [], []), (20, 1, 1, 0, 0, 0, 28, [1], []), (2, 2, 0, 0, 0, 0, 29, [], []), (2, 3, 0, 0, 0, 0, 30, [], []), (33, 92, 2, 0, 0, 0, 31, [], []), (23, 0, 0, 0, 0, 0, 32, [], [])]
noncomputable def pc_81_1 : List mOp := [(26, 0, 0, 0, 0, 0, 33, [], []), (4, 3, 0, 1, 0, 0, 34, [], []), (16, 17, 0, 0, 0, 0, 35, [], []), (4, 2, 0, 1, 0, 0, 36, [], []), (16, 10, 0, 0, 0, 0, 37, [], []), (2, 0, 2, 0, 0, 0, 38, [], []), (20, 7, 1, 0, 0, 0, 39, [6], []), (20, 0, 1, 0, 0, 0, 40, [0], []), (33, 95, 1, 0, 0, 0, 41, [], []), (34, 0, 1, 0, 0, 0, 42, [], [])]
noncomputable def pc_81 : List (List mOp) := [pc_81_0, pc_81_1]
/-- 82: PotAndFine.keep(I)I -/
noncomputable def pc_82_0 : List mOp := [(2, 1, 0, 0, 0, 1, 1, [], []), (33, 87, 1, 0, 0, 0, 2, [], []), (17, 5, 1, 0, 0, 0, 3, [], []), (0, 0, 0, (-1), 0, 0, 4, [], []), (34, 0, 1, 0, 0, 0, 5, [], []), (2, 0, 2, 0, 0, 0, 6, [], []), (20, 8, 1, 0, 0, 0, 7, [6], []), (2, 1, 0, 0, 0, 0, 8, [], []), (25, 0, 0, 0, 0, 0, 9, [], []), (2, 0, 2, 0, 0, 0, 10, [], []), (20, 3, 1, 0, 0, 0, 11, [6], []), (2, 0, 2, 0, 0, 0, 12, [], []), (20, 7, 1, 0, 0, 0, 13, [6], []), (33, 28, 3, 0, 0, 0, 14, [], []), (2, 0, 2, 0, 0, 0, 15, [], []), (20, 3, 1, 0, 0, 0, 16, [6], []), (20, 5, 1, 0, 0, 0, 17, [4], []), (33, 95, 1, 0, 0, 0, 18, [], []), (34, 0, 1, 0, 0, 0, 19, [], [])]
noncomputable def pc_82 : List (List mOp) := [pc_82_0]
/-- 83: PotAndFine.again(I)I -/
noncomputable def pc_83_0 : List mOp := [(2, 1, 0, 0, 0, 1, 1, [], []), (33, 87, 1, 0, 0, 0, 2, [], []), (17, 5, 1, 0, 0, 0, 3, [], []), (0, 0, 0, (-1), 0, 0, 4, [], []), (34, 0, 1, 0, 0, 0, 5, [], []), (2, 0, 2, 0, 0, 0, 6, [], []), (20, 8, 1, 0, 0, 0, 7, [6], []), (2, 1, 0, 0, 0, 0, 8, [], []), (25, 0, 0, 0, 0, 0, 9, [], []), (20, 0, 0, 0, 0, 0, 10, [3], []), (17, 13, 1, 0, 0, 0, 11, [], []), (0, 0, 0, (-3), 0, 0, 12, [], []), (34, 0, 1, 0, 0, 0, 13, [], []), (2, 0, 2, 0, 0, 0, 14, [], []), (20, 8, 1, 0, 0, 0, 15, [6], []), (2, 1, 0, 0, 0, 0, 16, [], []), (25, 0, 0, 0, 0, 0, 17, [], []), (2, 0, 2, 0, 0, 0, 18, [], []), (20, 3, 1, 0, 0, 0, 19, [6], []), (2, 0, 2, 0, 0, 0, 20, [], []), (20, 7, 1, 0, 0, 0, 21, [6], []), (33, 29, 3, 0, 0, 0, 22, [], []), (2, 0, 2, 0, 0, 0, 23, [], []), (39, 9, 0, 1, 0, 0, 24, [6], []), (2, 0, 2, 0, 0, 0, 25, [], []), (20, 3, 1, 0, 0, 0, 26, [6], []), (20, 5, 1, 0, 0, 0, 27, [4], []), (33, 95, 1, 0, 0, 0, 28, [], []), (34, 0, 1, 0, 0, 0, 29, [], [])]
noncomputable def pc_83 : List (List mOp) := [pc_83_0]
/-- 84: PotAndFine.count(I)I -/
noncomputable def pc_84_0 : List mOp := [(2, 1, 0, 0, 0, 1, 1, [], []), (19, 29, 0, 0, 0, 0, 2, [2, 6, 11, 20, 25], []), (2, 0, 2, 0, 0, 0, 3, [], []), (20, 3, 1, 0, 0, 0, 4, [6], []), (20, 1, 0, 0, 0, 0, 5, [4], []), (34, 0, 1, 0, 0, 0, 6, [], []), (2, 0, 2, 0, 0, 0, 7, [], []), (20, 3, 1, 0, 0, 0, 8, [6], []), (20, 5, 1, 0, 0, 0, 9, [4], []), (33, 95, 1, 0, 0, 0, 10, [], []), (34, 0, 1, 0, 0, 0, 11, [], []), (2, 0, 2, 0, 0, 0, 12, [], []), (20, 3, 1, 0, 0, 0, 13, [6], []), (20, 1, 0, 0, 0, 0, 14, [4], []), (2, 0, 2, 0, 0, 0, 15, [], []), (20, 3, 1, 0, 0, 0, 16, [6], []), (0, 0, 0, 39, 0, 0, 17, [], []), (33, 38, 2, 0, 0, 0, 18, [], []), (5, 0, 1, 0, 0, 0, 19, [], []), (34, 0, 1, 0, 0, 0, 20, [], []), (2, 0, 2, 0, 0, 0, 21, [], []), (20, 7, 1, 0, 0, 0, 22, [6], []), (20, 0, 1, 0, 0, 0, 23, [0], []), (33, 95, 1, 0, 0, 0, 24, [], []), (34, 0, 1, 0, 0, 0, 25, [], []), (2, 0, 2, 0, 0, 0, 26, [], []), (20, 0, 1, 0, 0, 0, 27, [6], []), (20, 1, 0, 0, 0, 0, 28, [5], []), (34, 0, 1, 0, 0, 0, 29, [], []), (0, 0, 0, (-2), 0, 0, 30, [], []), (34, 0, 1, 0, 0, 0, 31, [], [])]
noncomputable def pc_84 : List (List mOp) := [pc_84_0]
/-- 85: PotAndFine.isPerson(I)Z -/
noncomputable def pc_85_0 : List mOp := [(2, 1, 0, 0, 0, 1, 1, [], []), (17, 9, 2, 0, 0, 0, 2, [], []), (2, 1, 0, 0, 0, 0, 3, [], []), (2, 0, 2, 0, 0, 0, 4, [], []), (20, 3, 1, 0, 0, 0, 5, [6], []), (20, 1, 0, 0, 0, 0, 6, [4], []), (18, 9, 3, 0, 0, 0, 7, [], []), (0, 0, 0, 1, 0, 0, 8, [], []), (16, 10, 0, 0, 0, 0, 9, [], []), (0, 0, 0, 0, 0, 0, 10, [], []), (34, 0, 4, 0, 0, 0, 11, [], [])]
noncomputable def pc_85 : List (List mOp) := [pc_85_0]
/-- 86: PotAndFine.isRound(I)Z -/
noncomputable def pc_86_0 : List mOp := [(2, 0, 0, 0, 0, 1, 1, [], []), (17, 7, 2, 0, 0, 0, 2, [], []), (2, 0, 0, 0, 0, 0, 3, [], []), (0, 0, 0, 40, 0, 0, 4, [], []), (18, 7, 3, 0, 0, 0, 5, [], []), (0, 0, 0, 1, 0, 0, 6, [], []), (16, 8, 0, 0, 0, 0, 7, [], []), (0, 0, 0, 0, 0, 0, 8, [], []), (34, 0, 4, 0, 0, 0, 9, [], [])]
noncomputable def pc_86 : List (List mOp) := [pc_86_0]
/-- 87: PotAndFine.isSlot(I)Z -/
noncomputable def pc_87_0 : List mOp := [(2, 0, 0, 0, 0, 1, 1, [], []), (17, 7, 2, 0, 0, 0, 2, [], []), (2, 0, 0, 0, 0, 0, 3, [], []), (0, 0, 0, 2, 0, 0, 4, [], []), (18, 7, 3, 0, 0, 0, 5, [], []), (0, 0, 0, 1, 0, 0, 6, [], []), (16, 8, 0, 0, 0, 0, 7, [], []), (0, 0, 0, 0, 0, 0, 8, [], []), (34, 0, 4, 0, 0, 0, 9, [], [])]
noncomputable def pc_87 : List (List mOp) := [pc_87_0]
/-- 88: PotAndFine.isCoinsOrNone(I)Z -/
noncomputable def pc_88_0 : List mOp := [(2, 0, 0, 0, 0, 1, 1, [], []), (0, 0, 0, (-9), 0, 0, 2, [], []), (18, 8, 0, 0, 0, 0, 3, [], []), (2, 0, 0, 0, 0, 0, 4, [], []), (17, 10, 2, 0, 0, 0, 5, [], []), (2, 0, 0, 0, 0, 0, 6, [], []), (0, 0, 0, 20, 0, 0, 7, [], []), (18, 10, 4, 0, 0, 0, 8, [], []), (0, 0, 0, 1, 0, 0, 9, [], []), (16, 11, 0, 0, 0, 0, 10, [], []), (0, 0, 0, 0, 0, 0, 11, [], []), (34, 0, 4, 0, 0, 0, 12, [], [])]
noncomputable def pc_88 : List (List mOp) := [pc_88_0]
/-- 89: PotAndFine.isBookPerson(I)Z -/
noncomputable def pc_89_0 : List mOp := [(2, 0, 0, 0, 0, 1, 1, [], []), (17, 7, 2, 0, 0, 0, 2, [], []), (2, 0, 0, 0, 0, 0, 3, [], []), (0, 0, 0, 6, 0, 0, 4, [], []), (18, 7, 3, 0, 0, 0, 5, [], []), (0, 0, 0, 1, 0, 0, 6, [], []), (16, 8, 0, 0, 0, 0, 7, [], []), (0, 0, 0, 0, 0, 0, 8, [], []), (34, 0, 4, 0, 0, 0, 9, [], [])]
noncomputable def pc_89 : List (List mOp) := [pc_89_0]
/-- 90: PotAndFine.isBookRound(I)Z -/
noncomputable def pc_90_0 : List mOp := [(2, 0, 0, 0, 0, 1, 1, [], []), (17, 7, 2, 0, 0, 0, 2, [], []), (2, 0, 0, 0, 0, 0, 3, [], []), (0, 0, 0, 8, 0, 0, 4, [], []), (18, 7, 3, 0, 0, 0, 5, [], []), (0, 0, 0, 1, 0, 0, 6, [], []), (16, 8, 0, 0, 0, 0, 7, [], []), (0, 0, 0, 0, 0, 0, 8, [], []), (34, 0, 4, 0, 0, 0, 9, [], [])]
noncomputable def pc_90 : List (List mOp) := [pc_90_0]
/-- 91: PotAndFine.isSort(I)Z -/
noncomputable def pc_91_0 : List mOp := [(2, 0, 0, 0, 0, 1, 1, [], []), (17, 20, 0, 0, 0, 0, 2, [], []), (2, 0, 0, 0, 0, 0, 3, [], []), (0, 0, 0, 100, 0, 0, 4, [], []), (18, 8, 2, 0, 0, 0, 5, [], []), (2, 0, 0, 0, 0, 0, 6, [], []), (0, 0, 0, 120, 0, 0, 7, [], []), (18, 20, 5, 0, 0, 0, 8, [], []), (2, 0, 0, 0, 0, 1, 9, [], []), (0, 0, 0, 200, 0, 0, 10, [], []), (18, 14, 2, 0, 0, 0, 11, [], []), (2, 0, 0, 0, 0, 0, 12, [], []), (0, 0, 0, 209, 0, 0, 13, [], []), (18, 20, 5, 0, 0, 0, 14, [], []), (2, 0, 0, 0, 0, 1, 15, [], []), (0, 0, 0, 300, 0, 0, 16, [], []), (18, 22, 2, 0, 0, 0, 17, [], []), (2, 0, 0, 0, 0, 0, 18, [], []), (0, 0, 0, 309, 0, 0, 19, [], []), (18, 22, 4, 0, 0, 0, 20, [], []), (0, 0, 0, 1, 0, 1, 21, [], [0]), (16, 23, 0, 0, 0, 0, 22, [], []), (0, 0, 0, 0, 0, 1, 23, [], [0]), (34, 0, 4, 0, 0, 1, 24, [], [0])]
noncomputable def pc_91 : List (List mOp) := [pc_91_0]
/-- 92: PotAndFine.placeOf(II)I -/
noncomputable def pc_92_0 : List mOp := [(2, 1, 0, 0, 0, 0, 1, [], []), (0, 0, 0, 6, 0, 0, 2, [], []), (5, 0, 2, 0, 0, 0, 3, [], []), (2, 0, 0, 0, 0, 0, 4, [], []), (5, 0, 0, 0, 0, 0, 5, [], []), (34, 0, 1, 0, 0, 0, 6, [], [])]
noncomputable def pc_92 : List (List mOp) := [pc_92_0]
/-- 93: PotAndFine.paymentOf(III)I -/
noncomputable def pc_93_0 : List mOp := [(2, 2, 0, 0, 0, 0, 1, [], []), (0, 0, 0, 6, 0, 0, 2, [], []), (5, 0, 2, 0, 0, 0, 3, [], []), (2, 0, 0, 0, 0, 0, 4, [], []), (5, 0, 0, 0, 0, 0, 5, [], []), (0, 0, 0, 6, 0, 0, 6, [], []), (5, 0, 2, 0, 0, 0, 7, [], []), (2, 1, 0, 0, 0, 0, 8, [], []), (5, 0, 0, 0, 0, 0, 9, [], []), (34, 0, 1, 0, 0, 0, 10, [], [])]
noncomputable def pc_93 : List (List mOp) := [pc_93_0]
/-- 94: PotAndFine.bookPlaceOf(II)I -/
noncomputable def pc_94_0 : List mOp := [(2, 0, 0, 0, 0, 0, 1, [], []), (0, 0, 0, 8, 0, 0, 2, [], []), (5, 0, 2, 0, 0, 0, 3, [], []), (2, 1, 0, 0, 0, 0, 4, [], []), (5, 0, 0, 0, 0, 0, 5, [], []), (34, 0, 1, 0, 0, 0, 6, [], [])]
noncomputable def pc_94 : List (List mOp) := [pc_94_0]
/-- 95: PotAndFine.countTold([I)I -/
noncomputable def pc_95_0 : List mOp := [(0, 0, 0, 0, 0, 1, 1, [], []), (3, 1, 0, 0, 0, 0, 2, [], []), (0, 0, 0, 0, 0, 0, 3, [], []), (3, 2, 0, 0, 0, 0, 4, [], []), (2, 2, 0, 0, 0, 1, 5, [], []), (2, 0, 2, 0, 0, 0, 6, [], []), (29, 0, 0, 0, 0, 0, 7, [], []), (18, 16, 3, 0, 0, 0, 8, [], []), (2, 0, 2, 0, 0, 0, 9, [], []), (2, 2, 0, 0, 0, 0, 10, [], []), (23, 0, 0, 0, 0, 0, 11, [], []), (0, 0, 0, (-9), 0, 0, 12, [], []), (18, 14, 0, 0, 0, 0, 13, [], []), (4, 1, 0, 1, 0, 0, 14, [], []), (4, 2, 0, 1, 0, 0, 15, [], []), (16, 4, 0, 0, 0, 0, 16, [], []), (2, 1, 0, 0, 0, 0, 17, [], []), (34, 0, 1, 0, 0, 0, 18, [], [])]
noncomputable def pc_95 : List (List mOp) := [pc_95_0]
/-- 96: PotAndFine.meanOf(II)I -/
noncomputable def pc_96_0 : List mOp := [(2, 1, 0, 0, 0, 1, 1, [], []), (17, 6, 5, 0, 0, 0, 2, [], []), (2, 0, 0, 0, 0, 0, 3, [], []), (2, 1, 0, 0, 0, 0, 4, [], []), (6, 0, 0, 0, 0, 0, 5, [], []), (16, 7, 0, 0, 0, 0, 6, [], []), (0, 0, 0, 0, 0, 0, 7, [], []), (34, 0, 1, 0, 0, 0, 8, [], [])]
noncomputable def pc_96 : List (List mOp) := [pc_96_0]
/-- 97: PotAndFine.ran()LPotAndFine$Course; -/
noncomputable def pc_97_0 : List mOp := [(2, 0, 2, 0, 0, 1, 1, [], []), (20, 9, 0, 0, 0, 0, 2, [6], []), (17, 8, 0, 0, 0, 0, 3, [], []), (2, 0, 2, 0, 0, 0, 4, [], []), (20, 4, 1, 0, 0, 0, 5, [6], []), (33, 8, 1, 0, 0, 0, 6, [], []), (2, 0, 2, 0, 0, 0, 7, [], []), (39, 9, 0, 0, 0, 0, 8, [6], []), (2, 0, 2, 0, 0, 0, 9, [], []), (20, 4, 1, 0, 0, 0, 10, [6], []), (34, 0, 3, 0, 0, 0, 11, [], [])]
noncomputable def pc_97 : List (List mOp) := [pc_97_0]
/-- 98: PotAndFine.ranWithFine(I)LPotAndFine$Course; -/
noncomputable def pc_98_0 : List mOp := [(2, 0, 2, 0, 0, 1, 1, [], []), (20, 5, 1, 0, 0, 0, 2, [6], []), (2, 0, 2, 0, 0, 0, 3, [], []), (20, 3, 1, 0, 0, 0, 4, [6], []), (33, 35, 2, 0, 0, 0, 5, [], []), (2, 0, 2, 0, 0, 0, 6, [], []), (20, 5, 1, 0, 0, 0, 7, [6], []), (20, 0, 1, 0, 0, 0, 8, [4], []), (0, 0, 0, 2, 0, 0, 9, [], []), (2, 1, 0, 0, 0, 0, 10, [], []), (26, 0, 0, 0, 0, 0, 11, [], []), (2, 0, 2, 0, 0, 0, 12, [], []), (20, 6, 1, 0, 0, 0, 13, [6], []), (33, 8, 1, 0, 0, 0, 14, [], []), (2, 0, 2, 0, 0, 0, 15, [], []), (20, 6, 1, 0, 0, 0, 16, [6], []), (34, 0, 3, 0, 0, 0, 17, [], [])]
noncomputable def pc_98 : List (List mOp) := [pc_98_0]
/-- 99: PotAndFine.heldIfLedBy(I)J -/
noncomputable def pc_99_0 : List mOp := [(2, 0, 2, 0, 0, 1, 1, [], []), (20, 5, 1, 0, 0, 0, 2, [6], []), (2, 0, 2, 0, 0, 0, 3, [], []), (20, 3, 1, 0, 0, 0, 4, [6], []), (33, 35, 2, 0, 0, 0, 5, [], []), (2, 0, 2, 0, 0, 0, 6, [], []), (20, 5, 1, 0, 0, 0, 7, [6], []), (20, 5, 1, 0, 0, 0, 8, [4], []), (2, 1, 0, 0, 0, 0, 9, [], []), (0, 0, 0, 0, 0, 0, 10, [], []), (33, 92, 2, 0, 0, 0, 11, [], []), (2, 0, 2, 0, 0, 0, 12, [], []), (20, 3, 1, 0, 0, 0, 13, [6], []), (20, 0, 1, 0, 0, 0, 14, [4], []), (0, 0, 0, 0, 0, 0, 15, [], []), (23, 0, 0, 0, 0, 0, 16, [], []), (26, 0, 0, 0, 0, 0, 17, [], []), (2, 0, 2, 0, 0, 0, 18, [], []), (20, 6, 1, 0, 0, 0, 19, [6], []), (33, 8, 1, 0, 0, 0, 20, [], []), (2, 0, 2, 0, 0, 0, 21, [], []), (20, 6, 1, 0, 0, 0, 22, [6], []), (0, 0, 0, 39, 0, 0, 23, [], []), (33, 9, 2, 0, 0, 0, 24, [], []), (34, 0, 2, 0, 0, 0, 25, [], [])]
noncomputable def pc_99 : List (List mOp) := [pc_99_0]
/-- 100: PotAndFine.heldIfOut(I)J -/
noncomputable def pc_100_0 : List mOp := [(2, 0, 2, 0, 0, 1, 1, [], []), (20, 5, 1, 0, 0, 0, 2, [6], []), (2, 0, 2, 0, 0, 0, 3, [], []), (20, 3, 1, 0, 0, 0, 4, [6], []), (33, 35, 2, 0, 0, 0, 5, [], []), (2, 0, 2, 0, 0, 0, 6, [], []), (20, 5, 1, 0, 0, 0, 7, [6], []), (20, 6, 1, 0, 0, 0, 8, [4], []), (2, 1, 0, 0, 0, 0, 9, [], []), (0, 0, 0, 0, 0, 0, 10, [], []), (26, 0, 0, 0, 0, 0, 11, [], []), (2, 0, 2, 0, 0, 0, 12, [], []), (20, 6, 1, 0, 0, 0, 13, [6], []), (33, 8, 1, 0, 0, 0, 14, [], []), (2, 0, 2, 0, 0, 0, 15, [], []), (20, 6, 1, 0, 0, 0, 16, [6], []), (0, 0, 0, 39, 0, 0, 17, [], []), (33, 9, 2, 0, 0, 0, 18, [], []), (34, 0, 2, 0, 0, 0, 19, [], [])]
noncomputable def pc_100 : List (List mOp) := [pc_100_0]
/-- 101: PotAndFine.canBeHalved()Z -/
noncomputable def pc_101_0 : List mOp := [(2, 0, 2, 0, 0, 1, 1, [], []), (20, 3, 1, 0, 0, 0, 2, [6], []), (20, 1, 0, 0, 0, 0, 3, [4], []), (0, 0, 0, 4, 0, 0, 4, [], []), (18, 10, 0, 0, 0, 0, 5, [], []), (2, 0, 2, 0, 0, 0, 6, [], []), (20, 3, 1, 0, 0, 0, 7, [6], []), (20, 1, 0, 0, 0, 0, 8, [4], []), (0, 0, 0, 6, 0, 0, 9, [], []), (18, 12, 1, 0, 0, 0, 10, [], []), (0, 0, 0, 1, 0, 0, 11, [], []), (16, 13, 0, 0, 0, 0, 12, [], []), (0, 0, 0, 0, 0, 0, 13, [], []), (34, 0, 4, 0, 0, 0, 14, [], [])]
noncomputable def pc_101 : List (List mOp) := [pc_101_0]
/-- 102: PotAndFine.isHalf(I)Z -/
noncomputable def pc_102_0 : List mOp := [(0, 0, 0, 2, 0, 1, 1, [], []), (2, 1, 0, 0, 0, 0, 2, [], []), (33, 194, 1, 0, 0, 0, 3, [], []), (5, 0, 2, 0, 0, 0, 4, [], []), (2, 0, 2, 0, 0, 0, 5, [], []), (20, 3, 1, 0, 0, 0, 6, [6], []), (20, 1, 0, 0, 0, 0, 7, [4], []), (18, 10, 1, 0, 0, 0, 8, [], []), (0, 0, 0, 1, 0, 0, 9, [], []), (16, 11, 0, 0, 0, 0, 10, [], []), (0, 0, 0, 0, 0, 0, 11, [], []), (34, 0, 4, 0, 0, 0, 12, [], [])]
noncomputable def pc_102 : List (List mOp) := [pc_102_0]
/-- 103: PotAndFine.heldByHalves(I)J -/
noncomputable def pc_103_0 : List mOp := [(2, 0, 2, 0, 0, 1, 1, [], []), (20, 5, 1, 0, 0, 0, 2, [6], []), (2, 0, 2, 0, 0, 0, 3, [], []), (20, 3, 1, 0, 0, 0, 4, [6], []), (2, 1, 0, 0, 0, 0, 5, [], []), (33, 36, 3, 0, 0, 0, 6, [], []), (2, 0, 2, 0, 0, 0, 7, [], []), (20, 6, 1, 0, 0, 0, 8, [6], []), (33, 8, 1, 0, 0, 0, 9, [], []), (2, 0, 2, 0, 0, 0, 10, [], []), (20, 6, 1, 0, 0, 0, 11, [6], []), (0, 0, 0, 39, 0, 0, 12, [], []), (33, 9, 2, 0, 0, 0, 13, [], []), (3, 2, 1, 0, 0, 0, 14, [], []), (2, 0, 2, 0, 0, 0, 15, [], []), (20, 5, 1, 0, 0, 0, 16, [6], []), (2, 0, 2, 0, 0, 0, 17, [], []), (20, 3, 1, 0, 0, 0, 18, [6], []), (2, 1, 0, 0, 0, 0, 19, [], []), (0, 0, 0, (-1), 0, 0, 20, [], []), (5, 0, 5, 0, 0, 0, 21, [], []), (33, 36, 3, 0, 0, 0, 22, [], []), (2, 0, 2, 0, 0, 0, 23, [], []), (20, 6, 1, 0, 0, 0, 24, [6], []), (33, 8, 1, 0, 0, 0, 25, [], []), (2, 2, 1, 0, 0, 0, 26, [], []), (2, 0, 2, 0, 0, 0, 27, [], []), (20, 6, 1, 0, 0, 0, 28, [6], []), (0, 0, 0, 39, 0, 0, 29, [], []), (33, 9, 2, 0, 0, 0, 30, [], []), (9, 0, 0, 0, 0, 0, 31, [], []), (34, 0, 2, 0, 0, 0, 32, [], [])]
noncomputable def pc_103 : List (List mOp) := [pc_103_0]
/-- 104: PotAndFineModel.<init>()V -/
noncomputable def pc_104_0 : List mOp := [(2, 0, 2, 0, 0, 1, 1, [], []), (37, 0, 0, 0, 0, 0, 2, [], []), (2, 0, 2, 0, 0, 0, 3, [], []), (0, 0, 0, 40, 0, 0, 4, [], []), (31, 1, 40, 40, 0, 0, 5, [], []), (36, 1, 0, 0, 0, 0, 6, [7], []), (2, 0, 2, 0, 0, 0, 7, [], []), (0, 0, 0, 4, 0, 0, 8, [], []), (31, 1, 4, 4, 0, 0, 9, [], []), (36, 4, 0, 0, 0, 0, 10, [7], []), (2, 0, 2, 0, 0, 0, 11, [], []), (0, 0, 0, 4, 0, 0, 12, [], []), (31, 1, 4, 4, 0, 0, 13, [], []), (36, 5, 0, 0, 0, 0, 14, [7], []), (2, 0, 2, 0, 0, 0, 15, [], []), (0, 0, 0, 6, 0, 0, 16, [], []), (31, 1, 6, 6, 0, 0, 17, [], []), (36, 8, 0, 0, 0, 0, 18, [7], []), (2, 0, 2, 0, 0, 0, 19, [], []), (0, 0, 0, 6, 0, 0, 20, [], []), (31, 1, 6, 6, 0, 0, 21, [], []), (36, 9, 0, 0, 0, 0, 22, [7], []), (2, 0, 2, 0, 0, 0, 23, [], []), (0, 0, 0, 6, 0, 0, 24, [], []), (31, 1, 6, 6, 0, 0, 25, [], []), (36, 10, 0, 0, 0, 0, 26, [7], []), (2, 0, 2, 0, 0, 0, 27, [], []), (0, 0, 0, 6, 0, 0, 28, [], []), (31, 1, 6, 6, 0, 0, 29, [], []), (36, 12, 0, 0, 0, 0, 30, [7], []), (2, 0, 2, 0, 0, 0, 31, [], []), (0, 0, 0, 6, 0, 0, 32, [], [])]
noncomputable def pc_104_1 : List mOp := [(31, 1, 6, 6, 0, 0, 33, [], []), (36, 13, 0, 0, 0, 0, 34, [7], []), (2, 0, 2, 0, 0, 0, 35, [], []), (0, 0, 0, 6, 0, 0, 36, [], []), (31, 1, 6, 6, 0, 0, 37, [], []), (36, 14, 0, 0, 0, 0, 38, [7], []), (2, 0, 2, 0, 0, 0, 39, [], []), (0, 0, 0, 240, 0, 0, 40, [], []), (31, 1, 240, 240, 0, 0, 41, [], []), (36, 15, 0, 0, 0, 0, 42, [7], []), (2, 0, 2, 0, 0, 0, 43, [], []), (0, 0, 0, 6, 0, 0, 44, [], []), (31, 1, 6, 6, 0, 0, 45, [], []), (36, 16, 0, 0, 0, 0, 46, [7], []), (2, 0, 2, 0, 0, 0, 47, [], []), (0, 0, 0, 480, 0, 0, 48, [], []), (31, 1, 480, 480, 0, 0, 49, [], []), (36, 17, 0, 0, 0, 0, 50, [7], []), (2, 0, 2, 0, 0, 0, 51, [], []), (0, 0, 0, 12, 0, 0, 52, [], []), (31, 1, 12, 12, 0, 0, 53, [], []), (36, 18, 0, 0, 0, 0, 54, [7], []), (2, 0, 2, 0, 0, 0, 55, [], []), (0, 0, 0, 96, 0, 0, 56, [], []), (31, 1, 96, 96, 0, 0, 57, [], []), (36, 19, 0, 0, 0, 0, 58, [7], []), (2, 0, 2, 0, 0, 0, 59, [], []), (0, 0, 0, 2, 0, 0, 60, [], []), (31, 3, 2, 2, 0, 0, 61, [], []), (36, 20, 0, 0, 0, 0, 62, [7], []), (2, 0, 2, 0, 0, 0, 63, [], []), (0, 0, 0, 48, 0, 0, 64, [], [])]
noncomputable def pc_104_2 : List mOp := [(31, 1, 48, 48, 0, 0, 65, [], []), (36, 21, 0, 0, 0, 0, 66, [7], []), (2, 0, 2, 0, 0, 0, 67, [], []), (0, 0, 0, 6, 0, 0, 68, [], []), (31, 1, 6, 6, 0, 0, 69, [], []), (36, 22, 0, 0, 0, 0, 70, [7], []), (2, 0, 2, 0, 0, 0, 71, [], []), (0, 0, 0, 240, 0, 0, 72, [], []), (31, 1, 240, 240, 0, 0, 73, [], []), (36, 25, 0, 0, 0, 0, 74, [7], []), (2, 0, 2, 0, 0, 0, 75, [], []), (0, 0, 0, 1440, 0, 0, 76, [], []), (31, 1, 1440, 1440, 0, 0, 77, [], []), (36, 26, 0, 0, 0, 0, 78, [7], []), (2, 0, 2, 0, 0, 0, 79, [], []), (0, 0, 0, 240, 0, 0, 80, [], []), (31, 2, 240, 240, 0, 0, 81, [], []), (36, 27, 0, 0, 0, 0, 82, [7], []), (2, 0, 2, 0, 0, 0, 83, [], []), (0, 0, 0, 240, 0, 0, 84, [], []), (31, 2, 240, 240, 0, 0, 85, [], []), (36, 28, 0, 0, 0, 0, 86, [7], []), (2, 0, 2, 0, 0, 0, 87, [], []), (0, 0, 0, 6, 0, 0, 88, [], []), (31, 1, 6, 6, 0, 0, 89, [], []), (36, 29, 0, 0, 0, 0, 90, [7], []), (2, 0, 2, 0, 0, 0, 91, [], []), (0, 0, 0, 36, 0, 0, 92, [], []), (31, 1, 36, 36, 0, 0, 93, [], []), (36, 30, 0, 0, 0, 0, 94, [7], []), (2, 0, 2, 0, 0, 0, 95, [], []), (20, 4, 1, 0, 0, 0, 96, [7], [])]
noncomputable def pc_104_3 : List mOp := [(0, 0, 0, 0, 0, 0, 97, [], []), (0, 0, 0, 20, 0, 0, 98, [], []), (26, 0, 0, 0, 0, 0, 99, [], []), (2, 0, 2, 0, 0, 0, 100, [], []), (20, 4, 1, 0, 0, 0, 101, [7], []), (0, 0, 0, 1, 0, 0, 102, [], []), (0, 0, 0, 16, 0, 0, 103, [], []), (26, 0, 0, 0, 0, 0, 104, [], []), (2, 0, 2, 0, 0, 0, 105, [], []), (20, 4, 1, 0, 0, 0, 106, [7], []), (0, 0, 0, 2, 0, 0, 107, [], []), (0, 0, 0, 0, 0, 0, 108, [], []), (26, 0, 0, 0, 0, 0, 109, [], []), (2, 0, 2, 0, 0, 0, 110, [], []), (20, 4, 1, 0, 0, 0, 111, [7], []), (0, 0, 0, 3, 0, 0, 112, [], []), (0, 0, 0, 1, 0, 0, 113, [], []), (26, 0, 0, 0, 0, 0, 114, [], []), (2, 0, 2, 0, 0, 0, 115, [], []), (0, 0, 0, 2, 0, 0, 116, [], []), (21, 7, 0, 0, 0, 0, 117, [7], []), (2, 0, 2, 0, 0, 0, 118, [], []), (20, 8, 1, 0, 0, 0, 119, [7], []), (0, 0, 0, 0, 0, 0, 120, [], []), (0, 0, 0, 1, 0, 0, 121, [], []), (26, 0, 0, 0, 0, 0, 122, [], []), (2, 0, 2, 0, 0, 0, 123, [], []), (20, 8, 1, 0, 0, 0, 124, [7], []), (0, 0, 0, 1, 0, 0, 125, [], []), (0, 0, 0, 1, 0, 0, 126, [], []), (26, 0, 0, 0, 0, 0, 127, [], []), (2, 0, 2, 0, 0, 0, 128, [], [])]
noncomputable def pc_104_4 : List mOp := [(33, 106, 1, 0, 0, 0, 129, [], []), (0, 0, 0, 0, 0, 0, 130, [], []), (3, 1, 0, 0, 0, 0, 131, [], []), (2, 1, 0, 0, 0, 1, 132, [], []), (0, 0, 0, 48, 0, 0, 133, [], []), (18, 141, 3, 0, 0, 0, 134, [], []), (2, 0, 2, 0, 0, 0, 135, [], []), (20, 21, 1, 0, 0, 0, 136, [7], []), (2, 1, 0, 0, 0, 0, 137, [], []), (0, 0, 0, (-9), 0, 0, 138, [], []), (26, 0, 0, 0, 0, 0, 139, [], []), (4, 1, 0, 1, 0, 0, 140, [], []), (16, 131, 0, 0, 0, 0, 141, [], []), (34, 0, 0, 0, 0, 0, 142, [], [])]
noncomputable def pc_104 : List (List mOp) := [pc_104_0, pc_104_1, pc_104_2, pc_104_3, pc_104_4]
/-- 105: PotAndFineModel.in(JJJ)Z -/
noncomputable def pc_105_0 : List mOp := [(2, 0, 1, 0, 0, 1, 1, [], []), (2, 2, 1, 0, 0, 0, 2, [], []), (13, 0, 0, 0, 0, 0, 3, [], []), (17, 10, 2, 0, 0, 0, 4, [], []), (2, 0, 1, 0, 0, 0, 5, [], []), (2, 4, 1, 0, 0, 0, 6, [], []), (13, 0, 0, 0, 0, 0, 7, [], []), (17, 10, 4, 0, 0, 0, 8, [], []), (0, 0, 0, 1, 0, 0, 9, [], []), (16, 11, 0, 0, 0, 0, 10, [], []), (0, 0, 0, 0, 0, 0, 11, [], []), (34, 0, 4, 0, 0, 0, 12, [], [])]
noncomputable def pc_105 : List (List mOp) := [pc_105_0]
/-- 106: PotAndFineModel.clear()V -/
noncomputable def pc_106_0 : List mOp := [(0, 0, 0, 0, 0, 1, 1, [], []), (3, 1, 0, 0, 0, 0, 2, [], []), (2, 1, 0, 0, 0, 1, 3, [], []), (0, 0, 0, 240, 0, 0, 4, [], []), (18, 12, 3, 0, 0, 0, 5, [], []), (2, 0, 2, 0, 0, 0, 6, [], []), (20, 15, 1, 0, 0, 0, 7, [7], []), (2, 1, 0, 0, 0, 0, 8, [], []), (0, 0, 0, (-9), 0, 0, 9, [], []), (26, 0, 0, 0, 0, 0, 10, [], []), (4, 1, 0, 1, 0, 0, 11, [], []), (16, 2, 0, 0, 0, 0, 12, [], []), (0, 0, 0, 0, 0, 0, 13, [], []), (3, 1, 0, 0, 0, 0, 14, [], []), (2, 1, 0, 0, 0, 1, 15, [], []), (0, 0, 0, 6, 0, 0, 16, [], []), (18, 24, 3, 0, 0, 0, 17, [], []), (2, 0, 2, 0, 0, 0, 18, [], []), (20, 16, 1, 0, 0, 0, 19, [7], []), (2, 1, 0, 0, 0, 0, 20, [], []), (0, 0, 0, 40, 0, 0, 21, [], []), (26, 0, 0, 0, 0, 0, 22, [], []), (4, 1, 0, 1, 0, 0, 23, [], []), (16, 14, 0, 0, 0, 0, 24, [], []), (2, 0, 2, 0, 0, 0, 25, [], []), (20, 20, 1, 0, 0, 0, 26, [7], []), (0, 0, 0, 0, 0, 0, 27, [], []), (40, 0, 0, 0, 0, 0, 28, [], []), (2, 0, 2, 0, 0, 0, 29, [], []), (20, 20, 1, 0, 0, 0, 30, [7], []), (0, 0, 0, 1, 0, 0, 31, [], []), (40, 0, 0, 0, 0, 0, 32, [], [])]
noncomputable def pc_106_1 : List mOp := [(34, 0, 0, 0, 0, 0, 33, [], [])]
noncomputable def pc_106 : List (List mOp) := [pc_106_0, pc_106_1]
/-- 107: PotAndFineModel.noPerson(I)Z -/
noncomputable def pc_107_0 : List mOp := [(2, 1, 0, 0, 0, 1, 1, [], []), (12, 0, 0, 0, 0, 0, 2, [], []), (1, 0, 0, 0, 0, 0, 3, [], []), (2, 0, 2, 0, 0, 0, 4, [], []), (20, 7, 0, 0, 0, 0, 5, [7], []), (0, 0, 0, 1, 0, 0, 6, [], []), (5, 0, 1, 0, 0, 0, 7, [], []), (12, 0, 0, 0, 0, 0, 8, [], []), (33, 105, 3, 0, 0, 0, 9, [], []), (17, 12, 1, 0, 0, 0, 10, [], []), (0, 0, 0, 1, 0, 0, 11, [], []), (16, 13, 0, 0, 0, 0, 12, [], []), (0, 0, 0, 0, 0, 0, 13, [], []), (34, 0, 4, 0, 0, 0, 14, [], [])]
noncomputable def pc_107 : List (List mOp) := [pc_107_0]
/-- 108: PotAndFineModel.noRound(I)Z -/
noncomputable def pc_108_0 : List mOp := [(2, 0, 0, 0, 0, 1, 1, [], []), (12, 0, 0, 0, 0, 0, 2, [], []), (1, 0, 0, 0, 0, 0, 3, [], []), (1, 0, 0, 0, 39, 0, 4, [], []), (33, 105, 3, 0, 0, 0, 5, [], []), (17, 8, 1, 0, 0, 0, 6, [], []), (0, 0, 0, 1, 0, 0, 7, [], []), (16, 9, 0, 0, 0, 0, 8, [], []), (0, 0, 0, 0, 0, 0, 9, [], []), (34, 0, 4, 0, 0, 0, 10, [], [])]
noncomputable def pc_108 : List (List mOp) := [pc_108_0]
/-- 109: PotAndFineModel.write(IJ)I -/
noncomputable def pc_109_0 : List mOp := [(2, 0, 2, 0, 0, 1, 1, [], []), (0, 0, 0, 0, 0, 0, 2, [], []), (21, 0, 0, 0, 0, 0, 3, [7], []), (2, 1, 0, 0, 0, 0, 4, [], []), (12, 0, 0, 0, 0, 0, 5, [], []), (1, 0, 0, 0, 1, 0, 6, [], []), (1, 0, 0, 0, 8, 0, 7, [], []), (33, 105, 3, 0, 0, 0, 8, [], []), (17, 11, 1, 0, 0, 0, 9, [], []), (0, 0, 0, (-2), 0, 0, 10, [], []), (34, 0, 1, 0, 0, 0, 11, [], []), (2, 0, 2, 0, 0, 0, 12, [], []), (20, 2, 0, 0, 0, 0, 13, [7], []), (2, 1, 0, 0, 0, 0, 14, [], []), (5, 0, 0, 0, 0, 0, 15, [], []), (0, 0, 0, 40, 0, 0, 16, [], []), (18, 19, 5, 0, 0, 0, 17, [], []), (0, 0, 0, (-4), 0, 0, 18, [], []), (34, 0, 1, 0, 0, 0, 19, [], []), (2, 1, 0, 0, 0, 0, 20, [], []), (0, 0, 0, 1, 0, 0, 21, [], []), (5, 0, 1, 0, 0, 0, 22, [], []), (3, 4, 0, 0, 0, 0, 23, [], []), (2, 4, 0, 0, 0, 1, 24, [], [1, 3]), (17, 46, 2, 0, 0, 0, 25, [], []), (2, 0, 2, 0, 0, 0, 26, [], []), (20, 1, 1, 0, 0, 0, 27, [7], []), (2, 0, 2, 0, 0, 0, 28, [], []), (20, 2, 0, 0, 0, 0, 29, [7], []), (2, 2, 1, 0, 0, 0, 30, [], []), (0, 0, 0, 8, 0, 0, 31, [], []), (2, 4, 0, 0, 0, 0, 32, [], [])]
noncomputable def pc_109_1 : List mOp := [(5, 0, 2, 0, 0, 0, 33, [], []), (11, 0, 1, 0, 0, 0, 34, [], []), (12, 0, 1, 0, 0, 0, 35, [], []), (0, 0, 0, 255, 0, 0, 36, [], []), (5, 0, 3, 0, 0, 0, 37, [], []), (26, 0, 0, 0, 0, 0, 38, [], []), (2, 0, 2, 0, 0, 0, 39, [], []), (14, 0, 0, 0, 0, 0, 40, [], []), (20, 2, 0, 0, 0, 0, 41, [7], []), (0, 0, 0, 1, 0, 0, 42, [], []), (5, 0, 0, 0, 0, 0, 43, [], []), (21, 2, 0, 0, 0, 0, 44, [7], []), (4, 4, 0, (-1), 0, 0, 45, [], []), (16, 23, 0, 0, 0, 0, 46, [], []), (2, 0, 2, 0, 0, 0, 47, [], []), (20, 2, 0, 0, 0, 0, 48, [7], []), (34, 0, 1, 0, 0, 0, 49, [], [])]
noncomputable def pc_109 : List (List mOp) := [pc_109_0, pc_109_1]
/-- 110: PotAndFineModel.wipe()I -/
noncomputable def pc_110_0 : List mOp := [(2, 0, 2, 0, 0, 1, 1, [], []), (0, 0, 0, 0, 0, 0, 2, [], []), (21, 0, 0, 0, 0, 0, 3, [7], []), (2, 0, 2, 0, 0, 0, 4, [], []), (20, 2, 0, 0, 0, 0, 5, [7], []), (3, 1, 0, 0, 0, 0, 6, [], []), (2, 0, 2, 0, 0, 0, 7, [], []), (0, 0, 0, 0, 0, 0, 8, [], []), (21, 2, 0, 0, 0, 0, 9, [7], []), (2, 1, 0, 0, 0, 0, 10, [], []), (34, 0, 1, 0, 0, 0, 11, [], [])]
noncomputable def pc_110 : List (List mOp) := [pc_110_0]
/-- 111: PotAndFineModel.figure(II)I -/
noncomputable def pc_111_0 : List mOp := [(2, 0, 2, 0, 0, 1, 1, [], []), (20, 3, 0, 0, 0, 0, 2, [7], []), (2, 0, 2, 0, 0, 0, 3, [], []), (20, 2, 0, 0, 0, 0, 4, [7], []), (18, 19, 0, 0, 0, 0, 5, [], []), (2, 0, 2, 0, 0, 0, 6, [], []), (20, 1, 1, 0, 0, 0, 7, [7], []), (2, 0, 2, 0, 0, 0, 8, [], []), (20, 3, 0, 0, 0, 0, 9, [7], []), (23, 0, 0, 0, 0, 0, 10, [], []), (0, 0, 0, 48, 0, 0, 11, [], []), (5, 0, 1, 0, 0, 0, 12, [], []), (12, 0, 0, 0, 0, 0, 13, [], []), (2, 1, 0, 0, 0, 0, 14, [], []), (12, 0, 0, 0, 0, 0, 15, [], []), (2, 2, 0, 0, 0, 0, 16, [], []), (12, 0, 0, 0, 0, 0, 17, [], []), (33, 105, 3, 0, 0, 0, 18, [], []), (17, 21, 1, 0, 0, 0, 19, [], []), (0, 0, 0, (-9), 0, 0, 20, [], []), (34, 0, 1, 0, 0, 0, 21, [], []), (2, 0, 2, 0, 0, 0, 22, [], []), (14, 0, 0, 0, 0, 0, 23, [], []), (20, 3, 0, 0, 0, 0, 24, [7], []), (0, 0, 0, 1, 0, 0, 25, [], []), (5, 0, 0, 0, 0, 0, 26, [], []), (21, 3, 0, 0, 0, 0, 27, [7], []), (2, 0, 2, 0, 0, 0, 28, [], []), (20, 1, 1, 0, 0, 0, 29, [7], []), (2, 0, 2, 0, 0, 0, 30, [], []), (20, 3, 0, 0, 0, 0, 31, [7], []), (0, 0, 0, 1, 0, 0, 32, [], [])]
noncomputable def pc_111_1 : List mOp := [(5, 0, 1, 0, 0, 0, 33, [], []), (23, 0, 0, 0, 0, 0, 34, [], []), (0, 0, 0, 48, 0, 0, 35, [], []), (5, 0, 1, 0, 0, 0, 36, [], []), (34, 0, 1, 0, 0, 0, 37, [], [])]
noncomputable def pc_111 : List (List mOp) := [pc_111_0, pc_111_1]
/-- 112: PotAndFineModel.two(II)I -/
noncomputable def pc_112_0 : List mOp := [(2, 0, 2, 0, 0, 1, 1, [], []), (0, 0, 0, 0, 0, 0, 2, [], []), (2, 2, 0, 0, 0, 0, 3, [], []), (0, 0, 0, 10, 0, 0, 4, [], []), (6, 0, 0, 0, 0, 0, 5, [], []), (33, 111, 3, 0, 0, 0, 6, [], []), (3, 3, 0, 0, 0, 0, 7, [], []), (2, 3, 0, 0, 0, 0, 8, [], []), (0, 0, 0, (-9), 0, 0, 9, [], []), (18, 12, 1, 0, 0, 0, 10, [], []), (0, 0, 0, (-9), 0, 0, 11, [], []), (34, 0, 1, 0, 0, 0, 12, [], []), (2, 0, 2, 0, 0, 0, 13, [], []), (2, 3, 0, 0, 0, 0, 14, [], []), (17, 17, 1, 0, 0, 0, 15, [], []), (2, 1, 0, 0, 0, 0, 16, [], []), (16, 18, 0, 0, 0, 0, 17, [], []), (0, 0, 0, 0, 0, 0, 18, [], []), (2, 3, 0, 0, 0, 0, 19, [], []), (2, 2, 0, 0, 0, 0, 20, [], []), (0, 0, 0, 10, 0, 0, 21, [], []), (6, 0, 0, 0, 0, 0, 22, [], []), (18, 25, 1, 0, 0, 0, 23, [], []), (0, 0, 0, 0, 0, 0, 24, [], []), (16, 26, 0, 0, 0, 0, 25, [], []), (0, 0, 0, 9, 0, 0, 26, [], []), (33, 111, 3, 0, 0, 1, 27, [], [0, 1, 2, 4]), (3, 4, 0, 0, 0, 0, 28, [], []), (2, 4, 0, 0, 0, 0, 29, [], []), (0, 0, 0, (-9), 0, 0, 30, [], []), (18, 33, 1, 0, 0, 0, 31, [], []), (0, 0, 0, (-9), 0, 0, 32, [], [])]
noncomputable def pc_112_1 : List mOp := [(16, 38, 0, 0, 0, 0, 33, [], []), (0, 0, 0, 10, 0, 0, 34, [], []), (2, 3, 0, 0, 0, 0, 35, [], []), (5, 0, 2, 0, 0, 0, 36, [], []), (2, 4, 0, 0, 0, 0, 37, [], []), (5, 0, 0, 0, 0, 0, 38, [], []), (34, 0, 1, 0, 0, 1, 39, [], [0, 1, 2, 3, 4])]
noncomputable def pc_112 : List (List mOp) := [pc_112_0, pc_112_1]
/-- 113: PotAndFineModel.readRule()I -/
noncomputable def pc_113_0 : List mOp := [(2, 0, 2, 0, 0, 1, 1, [], []), (0, 0, 0, 0, 0, 0, 2, [], []), (21, 3, 0, 0, 0, 0, 3, [7], []), (2, 0, 2, 0, 0, 0, 4, [], []), (0, 0, 0, 0, 0, 0, 5, [], []), (21, 6, 0, 0, 0, 0, 6, [7], []), (2, 0, 2, 0, 0, 0, 7, [], []), (20, 5, 1, 0, 0, 0, 8, [7], []), (0, 0, 0, 0, 0, 0, 9, [], []), (0, 0, 0, 20, 0, 0, 10, [], []), (26, 0, 0, 0, 0, 0, 11, [], []), (2, 0, 2, 0, 0, 0, 12, [], []), (20, 5, 1, 0, 0, 0, 13, [7], []), (0, 0, 0, 1, 0, 0, 14, [], []), (0, 0, 0, 16, 0, 0, 15, [], []), (26, 0, 0, 0, 0, 0, 16, [], []), (2, 0, 2, 0, 0, 0, 17, [], []), (20, 5, 1, 0, 0, 0, 18, [7], []), (0, 0, 0, 2, 0, 0, 19, [], []), (0, 0, 0, 0, 0, 0, 20, [], []), (26, 0, 0, 0, 0, 0, 21, [], []), (2, 0, 2, 0, 0, 0, 22, [], []), (20, 5, 1, 0, 0, 0, 23, [7], []), (0, 0, 0, 3, 0, 0, 24, [], []), (0, 0, 0, 1, 0, 0, 25, [], []), (26, 0, 0, 0, 0, 0, 26, [], []), (0, 0, 0, 0, 0, 0, 27, [], []), (3, 1, 0, 0, 0, 0, 28, [], []), (2, 0, 2, 0, 0, 1, 29, [], [2, 3, 4]), (20, 3, 0, 0, 0, 0, 30, [7], []), (2, 0, 2, 0, 0, 0, 31, [], []), (20, 2, 0, 0, 0, 0, 32, [7], [])]
noncomputable def pc_113_1 : List mOp := [(18, 129, 3, 0, 0, 0, 33, [], []), (2, 0, 2, 0, 0, 0, 34, [], []), (20, 1, 1, 0, 0, 0, 35, [7], []), (2, 0, 2, 0, 0, 0, 36, [], []), (20, 3, 0, 0, 0, 0, 37, [7], []), (23, 0, 0, 0, 0, 0, 38, [], []), (3, 2, 0, 0, 0, 0, 39, [], []), (2, 2, 0, 0, 0, 0, 40, [], []), (0, 0, 0, 69, 0, 0, 41, [], []), (18, 44, 1, 0, 0, 0, 42, [], []), (0, 0, 0, 0, 0, 0, 43, [], []), (16, 60, 0, 0, 0, 0, 44, [], []), (2, 2, 0, 0, 0, 0, 45, [], []), (0, 0, 0, 77, 0, 0, 46, [], []), (18, 49, 1, 0, 0, 0, 47, [], []), (0, 0, 0, 1, 0, 0, 48, [], []), (16, 60, 0, 0, 0, 0, 49, [], []), (2, 2, 0, 0, 0, 0, 50, [], []), (0, 0, 0, 70, 0, 0, 51, [], []), (18, 54, 1, 0, 0, 0, 52, [], []), (0, 0, 0, 2, 0, 0, 53, [], []), (16, 60, 0, 0, 0, 0, 54, [], []), (2, 2, 0, 0, 0, 0, 55, [], []), (0, 0, 0, 67, 0, 0, 56, [], []), (18, 59, 1, 0, 0, 0, 57, [], []), (0, 0, 0, 3, 0, 0, 58, [], []), (16, 60, 0, 0, 0, 0, 59, [], []), (0, 0, 0, (-9), 0, 0, 60, [], []), (3, 3, 0, 0, 0, 1, 61, [], [2, 3, 4]), (2, 3, 0, 0, 0, 0, 62, [], []), (0, 0, 0, (-9), 0, 0, 63, [], []), (18, 71, 0, 0, 0, 0, 64, [], [])]
noncomputable def pc_113_2 : List mOp := [(2, 1, 0, 0, 0, 0, 65, [], []), (2, 3, 0, 0, 0, 0, 66, [], []), (5, 0, 7, 0, 0, 0, 67, [], []), (0, 0, 0, 1, 0, 0, 68, [], []), (5, 0, 3, 0, 0, 0, 69, [], []), (0, 0, 0, 1, 0, 0, 70, [], []), (18, 74, 1, 0, 0, 0, 71, [], []), (2, 0, 2, 0, 0, 1, 72, [], [1, 2, 3, 4]), (20, 3, 0, 0, 0, 0, 73, [7], []), (34, 0, 1, 0, 0, 0, 74, [], []), (2, 0, 2, 0, 0, 0, 75, [], []), (14, 0, 0, 0, 0, 0, 76, [], []), (20, 3, 0, 0, 0, 0, 77, [7], []), (0, 0, 0, 1, 0, 0, 78, [], []), (5, 0, 0, 0, 0, 0, 79, [], []), (21, 3, 0, 0, 0, 0, 80, [7], []), (2, 3, 0, 0, 0, 0, 81, [], []), (17, 87, 1, 0, 0, 0, 82, [], []), (2, 0, 2, 0, 0, 0, 83, [], []), (0, 0, 0, 1, 0, 0, 84, [], []), (0, 0, 0, 20, 0, 0, 85, [], []), (33, 112, 3, 0, 0, 0, 86, [], []), (16, 104, 0, 0, 0, 0, 87, [], []), (2, 3, 0, 0, 0, 0, 88, [], []), (0, 0, 0, 1, 0, 0, 89, [], []), (18, 95, 1, 0, 0, 0, 90, [], []), (2, 0, 2, 0, 0, 0, 91, [], []), (0, 0, 0, 0, 0, 0, 92, [], []), (0, 0, 0, 60, 0, 0, 93, [], []), (33, 112, 3, 0, 0, 0, 94, [], []), (16, 104, 0, 0, 0, 0, 95, [], []), (2, 0, 2, 0, 0, 0, 96, [], [])]
noncomputable def pc_113_3 : List mOp := [(2, 3, 0, 0, 0, 0, 97, [], []), (0, 0, 0, 3, 0, 0, 98, [], []), (18, 101, 1, 0, 0, 0, 99, [], []), (0, 0, 0, 1, 0, 0, 100, [], []), (16, 102, 0, 0, 0, 0, 101, [], []), (0, 0, 0, 0, 0, 0, 102, [], []), (0, 0, 0, 9, 0, 1, 103, [], [2, 4]), (33, 111, 3, 0, 0, 0, 104, [], []), (3, 4, 0, 0, 0, 1, 105, [], [2, 4]), (2, 4, 0, 0, 0, 0, 106, [], []), (0, 0, 0, (-9), 0, 0, 107, [], []), (18, 111, 1, 0, 0, 0, 108, [], []), (2, 0, 2, 0, 0, 0, 109, [], []), (20, 3, 0, 0, 0, 0, 110, [7], []), (34, 0, 1, 0, 0, 0, 111, [], []), (2, 0, 2, 0, 0, 0, 112, [], []), (20, 5, 1, 0, 0, 0, 113, [7], []), (2, 3, 0, 0, 0, 0, 114, [], []), (2, 4, 0, 0, 0, 0, 115, [], []), (26, 0, 0, 0, 0, 0, 116, [], []), (2, 1, 0, 0, 0, 0, 117, [], []), (0, 0, 0, 1, 0, 0, 118, [], []), (2, 3, 0, 0, 0, 0, 119, [], []), (5, 0, 6, 0, 0, 0, 120, [], []), (5, 0, 4, 0, 0, 0, 121, [], []), (3, 1, 0, 0, 0, 0, 122, [], []), (2, 0, 2, 0, 0, 0, 123, [], []), (14, 0, 0, 0, 0, 0, 124, [], []), (20, 6, 0, 0, 0, 0, 125, [7], []), (0, 0, 0, 1, 0, 0, 126, [], []), (5, 0, 0, 0, 0, 0, 127, [], []), (21, 6, 0, 0, 0, 0, 128, [7], [])]
noncomputable def pc_113_4 : List mOp := [(16, 28, 0, 0, 0, 0, 129, [], []), (0, 0, 0, (-9), 0, 0, 130, [], []), (34, 0, 1, 0, 0, 0, 131, [], [])]
noncomputable def pc_113 : List (List mOp) := [pc_113_0, pc_113_1, pc_113_2, pc_113_3, pc_113_4]
/-- 114: PotAndFineModel.kind(I)I -/
noncomputable def pc_114_0 : List mOp := [(2, 0, 0, 0, 0, 1, 1, [], []), (0, 0, 0, 80, 0, 0, 2, [], []), (18, 5, 1, 0, 0, 0, 3, [], []), (0, 0, 0, 0, 0, 0, 4, [], []), (16, 36, 0, 0, 0, 0, 5, [], []), (2, 0, 0, 0, 0, 0, 6, [], []), (0, 0, 0, 90, 0, 0, 7, [], []), (18, 10, 1, 0, 0, 0, 8, [], []), (0, 0, 0, 1, 0, 0, 9, [], []), (16, 36, 0, 0, 0, 0, 10, [], []), (2, 0, 0, 0, 0, 0, 11, [], []), (0, 0, 0, 77, 0, 0, 12, [], []), (18, 15, 1, 0, 0, 0, 13, [], []), (0, 0, 0, 2, 0, 0, 14, [], []), (16, 36, 0, 0, 0, 0, 15, [], []), (2, 0, 0, 0, 0, 0, 16, [], []), (0, 0, 0, 71, 0, 0, 17, [], []), (18, 20, 1, 0, 0, 0, 18, [], []), (0, 0, 0, 3, 0, 0, 19, [], []), (16, 36, 0, 0, 0, 0, 20, [], []), (2, 0, 0, 0, 0, 0, 21, [], []), (0, 0, 0, 83, 0, 0, 22, [], []), (18, 25, 1, 0, 0, 0, 23, [], []), (0, 0, 0, 4, 0, 0, 24, [], []), (16, 36, 0, 0, 0, 0, 25, [], []), (2, 0, 0, 0, 0, 0, 26, [], []), (0, 0, 0, 86, 0, 0, 27, [], []), (18, 30, 1, 0, 0, 0, 28, [], []), (0, 0, 0, 5, 0, 0, 29, [], []), (16, 36, 0, 0, 0, 0, 30, [], []), (2, 0, 0, 0, 0, 0, 31, [], []), (0, 0, 0, 76, 0, 0, 32, [], [])]
noncomputable def pc_114_1 : List mOp := [(18, 35, 1, 0, 0, 0, 33, [], []), (0, 0, 0, 6, 0, 0, 34, [], []), (16, 36, 0, 0, 0, 0, 35, [], []), (0, 0, 0, (-9), 0, 0, 36, [], []), (34, 0, 1, 0, 0, 1, 37, [], [0])]
noncomputable def pc_114 : List (List mOp) := [pc_114_0, pc_114_1]
/-- 115: PotAndFineModel.readGroup()I -/
noncomputable def pc_115_0 : List mOp := [(2, 0, 2, 0, 0, 1, 1, [], []), (0, 0, 0, 0, 0, 0, 2, [], []), (21, 3, 0, 0, 0, 0, 3, [7], []), (2, 0, 2, 0, 0, 0, 4, [], []), (0, 0, 0, 0, 0, 0, 5, [], []), (21, 11, 0, 0, 0, 0, 6, [7], []), (2, 0, 2, 0, 0, 1, 7, [], [1, 2, 3]), (20, 3, 0, 0, 0, 0, 8, [7], []), (2, 0, 2, 0, 0, 0, 9, [], []), (20, 2, 0, 0, 0, 0, 10, [7], []), (18, 100, 3, 0, 0, 0, 11, [], []), (2, 0, 2, 0, 0, 0, 12, [], []), (20, 1, 1, 0, 0, 0, 13, [7], []), (2, 0, 2, 0, 0, 0, 14, [], []), (20, 3, 0, 0, 0, 0, 15, [7], []), (23, 0, 0, 0, 0, 0, 16, [], []), (33, 114, 1, 0, 0, 0, 17, [], []), (3, 1, 0, 0, 0, 0, 18, [], []), (2, 1, 0, 0, 0, 0, 19, [], []), (0, 0, 0, (-9), 0, 0, 20, [], []), (18, 25, 0, 0, 0, 0, 21, [], []), (2, 0, 2, 0, 0, 0, 22, [], []), (20, 11, 0, 0, 0, 0, 23, [7], []), (0, 0, 0, 6, 0, 0, 24, [], []), (18, 28, 1, 0, 0, 0, 25, [], []), (2, 0, 2, 0, 0, 1, 26, [], [1, 2, 3]), (20, 3, 0, 0, 0, 0, 27, [7], []), (34, 0, 1, 0, 0, 0, 28, [], []), (2, 0, 2, 0, 0, 0, 29, [], []), (14, 0, 0, 0, 0, 0, 30, [], []), (20, 3, 0, 0, 0, 0, 31, [7], []), (0, 0, 0, 1, 0, 0, 32, [], [])]
noncomputable def pc_115_1 : List mOp := [(5, 0, 0, 0, 0, 0, 33, [], []), (21, 3, 0, 0, 0, 0, 34, [7], []), (2, 1, 0, 0, 0, 0, 35, [], []), (17, 41, 1, 0, 0, 0, 36, [], []), (2, 0, 2, 0, 0, 0, 37, [], []), (0, 0, 0, 0, 0, 0, 38, [], []), (0, 0, 0, 20, 0, 0, 39, [], []), (33, 112, 3, 0, 0, 0, 40, [], []), (16, 50, 0, 0, 0, 0, 41, [], []), (2, 1, 0, 0, 0, 0, 42, [], []), (0, 0, 0, 1, 0, 0, 43, [], []), (18, 46, 1, 0, 0, 0, 44, [], []), (0, 0, 0, 0, 0, 0, 45, [], []), (16, 50, 0, 0, 0, 0, 46, [], []), (2, 0, 2, 0, 0, 0, 47, [], []), (0, 0, 0, 0, 0, 0, 48, [], []), (0, 0, 0, 9, 0, 0, 49, [], []), (33, 111, 3, 0, 0, 0, 50, [], []), (3, 2, 0, 0, 0, 1, 51, [], [2, 3]), (2, 2, 0, 0, 0, 0, 52, [], []), (0, 0, 0, (-9), 0, 0, 53, [], []), (18, 56, 1, 0, 0, 0, 54, [], []), (0, 0, 0, (-9), 0, 0, 55, [], []), (16, 68, 0, 0, 0, 0, 56, [], []), (2, 1, 0, 0, 0, 0, 57, [], []), (12, 0, 0, 0, 0, 0, 58, [], []), (1, 0, 0, 0, 3, 0, 59, [], []), (1, 0, 0, 0, 5, 0, 60, [], []), (33, 105, 3, 0, 0, 0, 61, [], []), (17, 67, 0, 0, 0, 0, 62, [], []), (2, 0, 2, 0, 0, 0, 63, [], []), (0, 0, 0, 0, 0, 0, 64, [], [])]
noncomputable def pc_115_2 : List mOp := [(0, 0, 0, 9, 0, 0, 65, [], []), (33, 111, 3, 0, 0, 0, 66, [], []), (16, 68, 0, 0, 0, 0, 67, [], []), (0, 0, 0, 0, 0, 0, 68, [], []), (3, 3, 0, 0, 0, 1, 69, [], [3]), (2, 3, 0, 0, 0, 0, 70, [], []), (0, 0, 0, (-9), 0, 0, 71, [], []), (18, 75, 1, 0, 0, 0, 72, [], []), (2, 0, 2, 0, 0, 0, 73, [], []), (20, 3, 0, 0, 0, 0, 74, [7], []), (34, 0, 1, 0, 0, 0, 75, [], []), (2, 0, 2, 0, 0, 0, 76, [], []), (20, 12, 1, 0, 0, 0, 77, [7], []), (2, 0, 2, 0, 0, 0, 78, [], []), (20, 11, 0, 0, 0, 0, 79, [7], []), (2, 1, 0, 0, 0, 0, 80, [], []), (26, 0, 0, 0, 0, 0, 81, [], []), (2, 0, 2, 0, 0, 0, 82, [], []), (20, 13, 1, 0, 0, 0, 83, [7], []), (2, 0, 2, 0, 0, 0, 84, [], []), (20, 11, 0, 0, 0, 0, 85, [7], []), (2, 2, 0, 0, 0, 0, 86, [], []), (26, 0, 0, 0, 0, 0, 87, [], []), (2, 0, 2, 0, 0, 0, 88, [], []), (20, 14, 1, 0, 0, 0, 89, [7], []), (2, 0, 2, 0, 0, 0, 90, [], []), (20, 11, 0, 0, 0, 0, 91, [7], []), (2, 3, 0, 0, 0, 0, 92, [], []), (26, 0, 0, 0, 0, 0, 93, [], []), (2, 0, 2, 0, 0, 0, 94, [], []), (14, 0, 0, 0, 0, 0, 95, [], []), (20, 11, 0, 0, 0, 0, 96, [7], [])]
noncomputable def pc_115_3 : List mOp := [(0, 0, 0, 1, 0, 0, 97, [], []), (5, 0, 0, 0, 0, 0, 98, [], []), (21, 11, 0, 0, 0, 0, 99, [7], []), (16, 6, 0, 0, 0, 0, 100, [], []), (2, 0, 2, 0, 0, 0, 101, [], []), (20, 11, 0, 0, 0, 0, 102, [7], []), (0, 0, 0, 2, 0, 0, 103, [], []), (18, 107, 3, 0, 0, 0, 104, [], []), (2, 0, 2, 0, 0, 0, 105, [], []), (20, 3, 0, 0, 0, 0, 106, [7], []), (16, 108, 0, 0, 0, 0, 107, [], []), (0, 0, 0, (-9), 0, 0, 108, [], []), (34, 0, 1, 0, 0, 1, 109, [], [0, 1, 2, 3])]
noncomputable def pc_115 : List (List mOp) := [pc_115_0, pc_115_1, pc_115_2, pc_115_3]
/-- 116: PotAndFineModel.fault(Z)I -/
noncomputable def pc_116_0 : List mOp := [(2, 0, 2, 0, 0, 1, 1, [], []), (0, 0, 0, 0, 0, 0, 2, [], []), (21, 0, 0, 0, 0, 0, 3, [7], []), (2, 1, 0, 0, 0, 0, 4, [], []), (17, 8, 0, 0, 0, 0, 5, [], []), (2, 0, 2, 0, 0, 0, 6, [], []), (33, 115, 1, 0, 0, 0, 7, [], []), (16, 10, 0, 0, 0, 0, 8, [], []), (2, 0, 2, 0, 0, 0, 9, [], []), (33, 113, 1, 0, 0, 0, 10, [], []), (34, 0, 1, 0, 0, 0, 11, [], [])]
noncomputable def pc_116 : List (List mOp) := [pc_116_0]
/-- 117: PotAndFineModel.rule()I -/
noncomputable def pc_117_0 : List mOp := [(2, 0, 2, 0, 0, 1, 1, [], []), (0, 0, 0, 0, 0, 0, 2, [], []), (21, 0, 0, 0, 0, 0, 3, [7], []), (2, 0, 2, 0, 0, 0, 4, [], []), (33, 113, 1, 0, 0, 0, 5, [], []), (0, 0, 0, (-9), 0, 0, 6, [], []), (18, 9, 0, 0, 0, 0, 7, [], []), (0, 0, 0, (-3), 0, 0, 8, [], []), (34, 0, 1, 0, 0, 0, 9, [], []), (0, 0, 0, 0, 0, 0, 10, [], []), (3, 1, 0, 0, 0, 0, 11, [], []), (2, 1, 0, 0, 0, 1, 12, [], []), (0, 0, 0, 4, 0, 0, 13, [], []), (18, 24, 3, 0, 0, 0, 14, [], []), (2, 0, 2, 0, 0, 0, 15, [], []), (20, 4, 1, 0, 0, 0, 16, [7], []), (2, 1, 0, 0, 0, 0, 17, [], []), (2, 0, 2, 0, 0, 0, 18, [], []), (20, 5, 1, 0, 0, 0, 19, [7], []), (2, 1, 0, 0, 0, 0, 20, [], []), (23, 0, 0, 0, 0, 0, 21, [], []), (26, 0, 0, 0, 0, 0, 22, [], []), (4, 1, 0, 1, 0, 0, 23, [], []), (16, 11, 0, 0, 0, 0, 24, [], []), (2, 0, 2, 0, 0, 0, 25, [], []), (20, 6, 0, 0, 0, 0, 26, [7], []), (34, 0, 1, 0, 0, 0, 27, [], [])]
noncomputable def pc_117 : List (List mOp) := [pc_117_0]
/-- 118: PotAndFineModel.group()I -/
noncomputable def pc_118_0 : List mOp := [(2, 0, 2, 0, 0, 1, 1, [], []), (0, 0, 0, 0, 0, 0, 2, [], []), (21, 0, 0, 0, 0, 0, 3, [7], []), (2, 0, 2, 0, 0, 0, 4, [], []), (33, 115, 1, 0, 0, 0, 5, [], []), (0, 0, 0, (-9), 0, 0, 6, [], []), (18, 9, 0, 0, 0, 0, 7, [], []), (0, 0, 0, (-3), 0, 0, 8, [], []), (34, 0, 1, 0, 0, 0, 9, [], []), (2, 0, 2, 0, 0, 0, 10, [], []), (2, 0, 2, 0, 0, 0, 11, [], []), (20, 11, 0, 0, 0, 0, 12, [7], []), (21, 7, 0, 0, 0, 0, 13, [7], []), (0, 0, 0, 0, 0, 0, 14, [], []), (3, 1, 0, 0, 0, 0, 15, [], []), (2, 1, 0, 0, 0, 1, 16, [], []), (0, 0, 0, 6, 0, 0, 17, [], []), (18, 44, 3, 0, 0, 0, 18, [], []), (2, 0, 2, 0, 0, 0, 19, [], []), (20, 8, 1, 0, 0, 0, 20, [7], []), (2, 1, 0, 0, 0, 0, 21, [], []), (2, 0, 2, 0, 0, 0, 22, [], []), (20, 12, 1, 0, 0, 0, 23, [7], []), (2, 1, 0, 0, 0, 0, 24, [], []), (23, 0, 0, 0, 0, 0, 25, [], []), (26, 0, 0, 0, 0, 0, 26, [], []), (2, 0, 2, 0, 0, 0, 27, [], []), (20, 9, 1, 0, 0, 0, 28, [7], []), (2, 1, 0, 0, 0, 0, 29, [], []), (2, 0, 2, 0, 0, 0, 30, [], []), (20, 13, 1, 0, 0, 0, 31, [7], []), (2, 1, 0, 0, 0, 0, 32, [], [])]
noncomputable def pc_118_1 : List mOp := [(23, 0, 0, 0, 0, 0, 33, [], []), (26, 0, 0, 0, 0, 0, 34, [], []), (2, 0, 2, 0, 0, 0, 35, [], []), (20, 10, 1, 0, 0, 0, 36, [7], []), (2, 1, 0, 0, 0, 0, 37, [], []), (2, 0, 2, 0, 0, 0, 38, [], []), (20, 14, 1, 0, 0, 0, 39, [7], []), (2, 1, 0, 0, 0, 0, 40, [], []), (23, 0, 0, 0, 0, 0, 41, [], []), (26, 0, 0, 0, 0, 0, 42, [], []), (4, 1, 0, 1, 0, 0, 43, [], []), (16, 15, 0, 0, 0, 0, 44, [], []), (2, 0, 2, 0, 0, 0, 45, [], []), (33, 106, 1, 0, 0, 0, 46, [], []), (2, 0, 2, 0, 0, 0, 47, [], []), (20, 7, 0, 0, 0, 0, 48, [7], []), (34, 0, 1, 0, 0, 0, 49, [], [])]
noncomputable def pc_118 : List (List mOp) := [pc_118_0, pc_118_1]
/-- 119: PotAndFineModel.ruled(I)I -/
noncomputable def pc_119_0 : List mOp := [(2, 0, 2, 0, 0, 1, 1, [], []), (0, 0, 0, 0, 0, 0, 2, [], []), (21, 0, 0, 0, 0, 0, 3, [7], []), (2, 1, 0, 0, 0, 0, 4, [], []), (12, 0, 0, 0, 0, 0, 5, [], []), (1, 0, 0, 0, 0, 0, 6, [], []), (1, 0, 0, 0, 3, 0, 7, [], []), (33, 105, 3, 0, 0, 0, 8, [], []), (17, 14, 0, 0, 0, 0, 9, [], []), (2, 0, 2, 0, 0, 0, 10, [], []), (20, 4, 1, 0, 0, 0, 11, [7], []), (2, 1, 0, 0, 0, 0, 12, [], []), (23, 0, 0, 0, 0, 0, 13, [], []), (16, 15, 0, 0, 0, 0, 14, [], []), (0, 0, 0, (-2), 0, 0, 15, [], []), (34, 0, 1, 0, 0, 0, 16, [], [])]
noncomputable def pc_119 : List (List mOp) := [pc_119_0]
/-- 120: PotAndFineModel.person(II)I -/
noncomputable def pc_120_0 : List mOp := [(2, 0, 2, 0, 0, 1, 1, [], []), (0, 0, 0, 0, 0, 0, 2, [], []), (21, 0, 0, 0, 0, 0, 3, [7], []), (2, 0, 2, 0, 0, 0, 4, [], []), (2, 1, 0, 0, 0, 0, 5, [], []), (33, 107, 2, 0, 0, 0, 6, [], []), (17, 9, 0, 0, 0, 0, 7, [], []), (0, 0, 0, (-1), 0, 0, 8, [], []), (34, 0, 1, 0, 0, 0, 9, [], []), (2, 2, 0, 0, 0, 0, 10, [], []), (17, 16, 1, 0, 0, 0, 11, [], []), (2, 0, 2, 0, 0, 0, 12, [], []), (20, 8, 1, 0, 0, 0, 13, [7], []), (2, 1, 0, 0, 0, 0, 14, [], []), (23, 0, 0, 0, 0, 0, 15, [], []), (16, 33, 0, 0, 0, 0, 16, [], []), (2, 2, 0, 0, 0, 0, 17, [], []), (0, 0, 0, 1, 0, 0, 18, [], []), (18, 24, 1, 0, 0, 0, 19, [], []), (2, 0, 2, 0, 0, 0, 20, [], []), (20, 9, 1, 0, 0, 0, 21, [7], []), (2, 1, 0, 0, 0, 0, 22, [], []), (23, 0, 0, 0, 0, 0, 23, [], []), (16, 33, 0, 0, 0, 0, 24, [], []), (2, 2, 0, 0, 0, 0, 25, [], []), (0, 0, 0, 2, 0, 0, 26, [], []), (18, 32, 1, 0, 0, 0, 27, [], []), (2, 0, 2, 0, 0, 0, 28, [], []), (20, 10, 1, 0, 0, 0, 29, [7], []), (2, 1, 0, 0, 0, 0, 30, [], []), (23, 0, 0, 0, 0, 0, 31, [], []), (16, 33, 0, 0, 0, 0, 32, [], [])]
noncomputable def pc_120_1 : List mOp := [(0, 0, 0, (-2), 0, 0, 33, [], []), (34, 0, 1, 0, 0, 0, 34, [], [])]
noncomputable def pc_120 : List (List mOp) := [pc_120_0, pc_120_1]
/-- 121: PotAndFineModel.tell(III)I -/
noncomputable def pc_121_0 : List mOp := [(2, 0, 2, 0, 0, 1, 1, [], []), (0, 0, 0, 0, 0, 0, 2, [], []), (21, 0, 0, 0, 0, 0, 3, [7], []), (2, 0, 2, 0, 0, 0, 4, [], []), (2, 1, 0, 0, 0, 0, 5, [], []), (33, 107, 2, 0, 0, 0, 6, [], []), (17, 10, 1, 0, 0, 0, 7, [], []), (2, 2, 0, 0, 0, 0, 8, [], []), (33, 108, 1, 0, 0, 0, 9, [], []), (17, 12, 0, 0, 0, 0, 10, [], []), (0, 0, 0, (-1), 0, 0, 11, [], []), (34, 0, 1, 0, 0, 0, 12, [], []), (2, 3, 0, 0, 0, 0, 13, [], []), (12, 0, 0, 0, 0, 0, 14, [], []), (1, 0, 0, 0, 0, 0, 15, [], []), (1, 0, 0, 0, 20, 0, 16, [], []), (33, 105, 3, 0, 0, 0, 17, [], []), (17, 23, 1, 0, 0, 0, 18, [], []), (2, 3, 0, 0, 0, 0, 19, [], []), (0, 0, 0, (-9), 0, 0, 20, [], []), (18, 23, 0, 0, 0, 0, 21, [], []), (0, 0, 0, (-2), 0, 0, 22, [], []), (34, 0, 1, 0, 0, 0, 23, [], []), (2, 0, 2, 0, 0, 0, 24, [], []), (20, 15, 1, 0, 0, 0, 25, [7], []), (0, 0, 0, 40, 0, 0, 26, [], []), (2, 1, 0, 0, 0, 0, 27, [], []), (5, 0, 2, 0, 0, 0, 28, [], []), (2, 2, 0, 0, 0, 0, 29, [], []), (5, 0, 0, 0, 0, 0, 30, [], []), (23, 0, 0, 0, 0, 0, 31, [], []), (3, 4, 0, 0, 0, 0, 32, [], [])]
noncomputable def pc_121_1 : List mOp := [(2, 0, 2, 0, 0, 0, 33, [], []), (20, 15, 1, 0, 0, 0, 34, [7], []), (0, 0, 0, 40, 0, 0, 35, [], []), (2, 1, 0, 0, 0, 0, 36, [], []), (5, 0, 2, 0, 0, 0, 37, [], []), (2, 2, 0, 0, 0, 0, 38, [], []), (5, 0, 0, 0, 0, 0, 39, [], []), (2, 3, 0, 0, 0, 0, 40, [], []), (26, 0, 0, 0, 0, 0, 41, [], []), (2, 4, 0, 0, 0, 0, 42, [], []), (34, 0, 1, 0, 0, 0, 43, [], [])]
noncomputable def pc_121 : List (List mOp) := [pc_121_0, pc_121_1]
/-- 122: PotAndFineModel.staying()I -/
noncomputable def pc_122_0 : List mOp := [(0, 0, 0, 0, 0, 1, 1, [], []), (3, 1, 0, 0, 0, 0, 2, [], []), (0, 0, 0, 0, 0, 0, 3, [], []), (3, 2, 0, 0, 0, 0, 4, [], []), (2, 2, 0, 0, 0, 1, 5, [], []), (2, 0, 2, 0, 0, 0, 6, [], []), (20, 7, 0, 0, 0, 0, 7, [7], []), (18, 22, 3, 0, 0, 0, 8, [], []), (2, 1, 0, 0, 0, 0, 9, [], []), (2, 0, 2, 0, 0, 0, 10, [], []), (20, 16, 1, 0, 0, 0, 11, [7], []), (2, 2, 0, 0, 0, 0, 12, [], []), (23, 0, 0, 0, 0, 0, 13, [], []), (0, 0, 0, 40, 0, 0, 14, [], []), (18, 17, 1, 0, 0, 0, 15, [], []), (0, 0, 0, 1, 0, 0, 16, [], []), (16, 18, 0, 0, 0, 0, 17, [], []), (0, 0, 0, 0, 0, 0, 18, [], []), (5, 0, 0, 0, 0, 0, 19, [], []), (3, 1, 0, 0, 0, 0, 20, [], []), (4, 2, 0, 1, 0, 0, 21, [], []), (16, 4, 0, 0, 0, 0, 22, [], []), (2, 1, 0, 0, 0, 0, 23, [], []), (34, 0, 1, 0, 0, 0, 24, [], [])]
noncomputable def pc_122 : List (List mOp) := [pc_122_0]
/-- 123: PotAndFineModel.send(II)I -/
noncomputable def pc_123_0 : List mOp := [(2, 0, 2, 0, 0, 1, 1, [], []), (0, 0, 0, 0, 0, 0, 2, [], []), (21, 0, 0, 0, 0, 0, 3, [7], []), (2, 0, 2, 0, 0, 0, 4, [], []), (2, 1, 0, 0, 0, 0, 5, [], []), (33, 107, 2, 0, 0, 0, 6, [], []), (17, 9, 0, 0, 0, 0, 7, [], []), (0, 0, 0, (-1), 0, 0, 8, [], []), (34, 0, 1, 0, 0, 0, 9, [], []), (2, 2, 0, 0, 0, 0, 10, [], []), (12, 0, 0, 0, 0, 0, 11, [], []), (1, 0, 0, 0, 0, 0, 12, [], []), (1, 0, 0, 0, 40, 0, 13, [], []), (33, 105, 3, 0, 0, 0, 14, [], []), (17, 17, 1, 0, 0, 0, 15, [], []), (0, 0, 0, (-2), 0, 0, 16, [], []), (34, 0, 1, 0, 0, 0, 17, [], []), (2, 0, 2, 0, 0, 0, 18, [], []), (20, 16, 1, 0, 0, 0, 19, [7], []), (2, 1, 0, 0, 0, 0, 20, [], []), (23, 0, 0, 0, 0, 0, 21, [], []), (3, 3, 0, 0, 0, 0, 22, [], []), (2, 0, 2, 0, 0, 0, 23, [], []), (20, 16, 1, 0, 0, 0, 24, [7], []), (2, 1, 0, 0, 0, 0, 25, [], []), (2, 2, 0, 0, 0, 0, 26, [], []), (26, 0, 0, 0, 0, 0, 27, [], []), (2, 0, 2, 0, 0, 0, 28, [], []), (33, 122, 1, 0, 0, 0, 29, [], []), (0, 0, 0, 2, 0, 0, 30, [], []), (18, 38, 3, 0, 0, 0, 31, [], []), (2, 0, 2, 0, 0, 0, 32, [], [])]
noncomputable def pc_123_1 : List mOp := [(20, 16, 1, 0, 0, 0, 33, [7], []), (2, 1, 0, 0, 0, 0, 34, [], []), (2, 3, 0, 0, 0, 0, 35, [], []), (26, 0, 0, 0, 0, 0, 36, [], []), (0, 0, 0, (-3), 0, 0, 37, [], []), (34, 0, 1, 0, 0, 0, 38, [], []), (2, 3, 0, 0, 0, 0, 39, [], []), (34, 0, 1, 0, 0, 0, 40, [], [])]
noncomputable def pc_123 : List (List mOp) := [pc_123_0, pc_123_1]
/-- 124: PotAndFineModel.fine(I)I -/
noncomputable def pc_124_0 : List mOp := [(2, 0, 2, 0, 0, 1, 1, [], []), (0, 0, 0, 0, 0, 0, 2, [], []), (21, 0, 0, 0, 0, 0, 3, [7], []), (2, 1, 0, 0, 0, 0, 4, [], []), (12, 0, 0, 0, 0, 0, 5, [], []), (1, 0, 0, 0, 0, 0, 6, [], []), (1, 0, 0, 0, 9, 0, 7, [], []), (33, 105, 3, 0, 0, 0, 8, [], []), (17, 11, 1, 0, 0, 0, 9, [], []), (0, 0, 0, (-2), 0, 0, 10, [], []), (34, 0, 1, 0, 0, 0, 11, [], []), (2, 0, 2, 0, 0, 0, 12, [], []), (20, 4, 1, 0, 0, 0, 13, [7], []), (0, 0, 0, 2, 0, 0, 14, [], []), (23, 0, 0, 0, 0, 0, 15, [], []), (3, 2, 0, 0, 0, 0, 16, [], []), (2, 0, 2, 0, 0, 0, 17, [], []), (20, 4, 1, 0, 0, 0, 18, [7], []), (0, 0, 0, 2, 0, 0, 19, [], []), (2, 1, 0, 0, 0, 0, 20, [], []), (26, 0, 0, 0, 0, 0, 21, [], []), (2, 2, 0, 0, 0, 0, 22, [], []), (34, 0, 1, 0, 0, 0, 23, [], [])]
noncomputable def pc_124 : List (List mOp) := [pc_124_0]
/-- 125: PotAndFineModel.isIn(II)Z -/
noncomputable def pc_125_0 : List mOp := [(2, 0, 2, 0, 0, 1, 1, [], []), (20, 24, 0, 0, 0, 0, 2, [7], []), (17, 12, 1, 0, 0, 0, 3, [], []), (2, 0, 2, 0, 0, 0, 4, [], []), (20, 16, 1, 0, 0, 0, 5, [7], []), (2, 0, 2, 0, 0, 0, 6, [], []), (20, 22, 1, 0, 0, 0, 7, [7], []), (2, 1, 0, 0, 0, 0, 8, [], []), (23, 0, 0, 0, 0, 0, 9, [], []), (23, 0, 0, 0, 0, 0, 10, [], []), (2, 2, 0, 0, 0, 0, 11, [], []), (18, 14, 5, 0, 0, 0, 12, [], []), (0, 0, 0, 1, 0, 0, 13, [], []), (16, 15, 0, 0, 0, 0, 14, [], []), (0, 0, 0, 0, 0, 0, 15, [], []), (34, 0, 4, 0, 0, 0, 16, [], [])]
noncomputable def pc_125 : List (List mOp) := [pc_125_0]
/-- 126: PotAndFineModel.inMany(I)I -/
noncomputable def pc_126_0 : List mOp := [(0, 0, 0, 0, 0, 1, 1, [], []), (3, 2, 0, 0, 0, 0, 2, [], []), (0, 0, 0, 0, 0, 0, 3, [], []), (3, 3, 0, 0, 0, 0, 4, [], []), (2, 3, 0, 0, 0, 1, 5, [], []), (2, 0, 2, 0, 0, 0, 6, [], []), (20, 23, 0, 0, 0, 0, 7, [7], []), (18, 21, 3, 0, 0, 0, 8, [], []), (2, 2, 0, 0, 0, 0, 9, [], []), (2, 0, 2, 0, 0, 0, 10, [], []), (2, 3, 0, 0, 0, 0, 11, [], []), (2, 1, 0, 0, 0, 0, 12, [], []), (33, 125, 3, 0, 0, 0, 13, [], []), (17, 16, 0, 0, 0, 0, 14, [], []), (0, 0, 0, 1, 0, 0, 15, [], []), (16, 17, 0, 0, 0, 0, 16, [], []), (0, 0, 0, 0, 0, 0, 17, [], []), (5, 0, 0, 0, 0, 0, 18, [], []), (3, 2, 0, 0, 0, 0, 19, [], []), (4, 3, 0, 1, 0, 0, 20, [], []), (16, 4, 0, 0, 0, 0, 21, [], []), (2, 2, 0, 0, 0, 0, 22, [], []), (34, 0, 1, 0, 0, 0, 23, [], [])]
noncomputable def pc_126 : List (List mOp) := [pc_126_0]
/-- 127: PotAndFineModel.bound(I)I -/
noncomputable def pc_127_0 : List mOp := [(2, 1, 0, 0, 0, 1, 1, [], []), (17, 4, 3, 0, 0, 0, 2, [], []), (0, 0, 0, 0, 0, 0, 3, [], []), (16, 16, 0, 0, 0, 0, 4, [], []), (2, 1, 0, 0, 0, 0, 5, [], []), (2, 0, 2, 0, 0, 0, 6, [], []), (20, 4, 1, 0, 0, 0, 7, [7], []), (0, 0, 0, 0, 0, 0, 8, [], []), (23, 0, 0, 0, 0, 0, 9, [], []), (18, 15, 5, 0, 0, 0, 10, [], []), (2, 0, 2, 0, 0, 0, 11, [], []), (20, 4, 1, 0, 0, 0, 12, [7], []), (0, 0, 0, 0, 0, 0, 13, [], []), (23, 0, 0, 0, 0, 0, 14, [], []), (16, 16, 0, 0, 0, 0, 15, [], []), (2, 1, 0, 0, 0, 0, 16, [], []), (34, 0, 1, 0, 0, 0, 17, [], [])]
noncomputable def pc_127 : List (List mOp) := [pc_127_0]
/-- 128: PotAndFineModel.meanOf(II)I -/
noncomputable def pc_128_0 : List mOp := [(0, 0, 0, 0, 0, 1, 1, [], []), (3, 3, 0, 0, 0, 0, 2, [], []), (0, 0, 0, 0, 0, 0, 3, [], []), (3, 4, 0, 0, 0, 0, 4, [], []), (0, 0, 0, 0, 0, 0, 5, [], []), (3, 5, 0, 0, 0, 0, 6, [], []), (2, 5, 0, 0, 0, 1, 7, [], []), (2, 0, 2, 0, 0, 0, 8, [], []), (20, 23, 0, 0, 0, 0, 9, [7], []), (18, 34, 3, 0, 0, 0, 10, [], []), (2, 5, 0, 0, 0, 0, 11, [], []), (2, 1, 0, 0, 0, 0, 12, [], []), (18, 32, 0, 0, 0, 0, 13, [], []), (2, 0, 2, 0, 0, 0, 14, [], []), (2, 5, 0, 0, 0, 0, 15, [], []), (2, 2, 0, 0, 0, 0, 16, [], []), (33, 125, 3, 0, 0, 0, 17, [], []), (17, 32, 0, 0, 0, 0, 18, [], []), (2, 3, 0, 0, 0, 0, 19, [], []), (2, 0, 2, 0, 0, 0, 20, [], []), (20, 25, 1, 0, 0, 0, 21, [7], []), (0, 0, 0, 6, 0, 0, 22, [], []), (2, 2, 0, 0, 0, 0, 23, [], []), (0, 0, 0, 1, 0, 0, 24, [], []), (5, 0, 1, 0, 0, 0, 25, [], []), (5, 0, 2, 0, 0, 0, 26, [], []), (2, 5, 0, 0, 0, 0, 27, [], []), (5, 0, 0, 0, 0, 0, 28, [], []), (23, 0, 0, 0, 0, 0, 29, [], []), (5, 0, 0, 0, 0, 0, 30, [], []), (3, 3, 0, 0, 0, 0, 31, [], []), (4, 4, 0, 1, 0, 0, 32, [], [])]
noncomputable def pc_128_1 : List mOp := [(4, 5, 0, 1, 0, 0, 33, [], []), (16, 6, 0, 0, 0, 0, 34, [], []), (2, 3, 0, 0, 0, 0, 35, [], []), (2, 4, 0, 0, 0, 0, 36, [], []), (6, 0, 0, 0, 0, 0, 37, [], []), (34, 0, 1, 0, 0, 0, 38, [], [])]
noncomputable def pc_128 : List (List mOp) := [pc_128_0, pc_128_1]
/-- 129: PotAndFineModel.taken(II)I -/
noncomputable def pc_129_0 : List mOp := [(0, 0, 0, 0, 0, 1, 1, [], []), (3, 3, 0, 0, 0, 0, 2, [], []), (0, 0, 0, 0, 0, 0, 3, [], []), (3, 4, 0, 0, 0, 0, 4, [], []), (2, 4, 0, 0, 0, 1, 5, [], []), (2, 0, 2, 0, 0, 0, 6, [], []), (20, 23, 0, 0, 0, 0, 7, [7], []), (18, 25, 3, 0, 0, 0, 8, [], []), (2, 3, 0, 0, 0, 0, 9, [], []), (2, 0, 2, 0, 0, 0, 10, [], []), (20, 26, 1, 0, 0, 0, 11, [7], []), (0, 0, 0, 36, 0, 0, 12, [], []), (2, 2, 0, 0, 0, 0, 13, [], []), (5, 0, 2, 0, 0, 0, 14, [], []), (0, 0, 0, 6, 0, 0, 15, [], []), (2, 4, 0, 0, 0, 0, 16, [], []), (5, 0, 2, 0, 0, 0, 17, [], []), (5, 0, 0, 0, 0, 0, 18, [], []), (2, 1, 0, 0, 0, 0, 19, [], []), (5, 0, 0, 0, 0, 0, 20, [], []), (23, 0, 0, 0, 0, 0, 21, [], []), (5, 0, 0, 0, 0, 0, 22, [], []), (3, 3, 0, 0, 0, 0, 23, [], []), (4, 4, 0, 1, 0, 0, 24, [], []), (16, 4, 0, 0, 0, 0, 25, [], []), (2, 3, 0, 0, 0, 0, 26, [], []), (34, 0, 1, 0, 0, 0, 27, [], [])]
noncomputable def pc_129 : List (List mOp) := [pc_129_0]
/-- 130: PotAndFineModel.putOf(II)I -/
noncomputable def pc_130_0 : List mOp := [(2, 0, 2, 0, 0, 1, 1, [], []), (20, 22, 1, 0, 0, 0, 2, [7], []), (2, 1, 0, 0, 0, 0, 3, [], []), (23, 0, 0, 0, 0, 0, 4, [], []), (3, 3, 0, 0, 0, 0, 5, [], []), (2, 0, 2, 0, 0, 0, 6, [], []), (20, 24, 0, 0, 0, 0, 7, [7], []), (17, 29, 1, 0, 0, 0, 8, [], []), (2, 0, 2, 0, 0, 0, 9, [], []), (20, 15, 1, 0, 0, 0, 10, [7], []), (0, 0, 0, 40, 0, 0, 11, [], []), (2, 3, 0, 0, 0, 0, 12, [], []), (5, 0, 2, 0, 0, 0, 13, [], []), (2, 2, 0, 0, 0, 0, 14, [], []), (5, 0, 0, 0, 0, 0, 15, [], []), (23, 0, 0, 0, 0, 0, 16, [], []), (0, 0, 0, (-9), 0, 0, 17, [], []), (18, 29, 0, 0, 0, 0, 18, [], []), (2, 0, 2, 0, 0, 0, 19, [], []), (2, 0, 2, 0, 0, 0, 20, [], []), (20, 15, 1, 0, 0, 0, 21, [7], []), (0, 0, 0, 40, 0, 0, 22, [], []), (2, 3, 0, 0, 0, 0, 23, [], []), (5, 0, 2, 0, 0, 0, 24, [], []), (2, 2, 0, 0, 0, 0, 25, [], []), (5, 0, 0, 0, 0, 0, 26, [], []), (23, 0, 0, 0, 0, 0, 27, [], []), (33, 127, 2, 0, 0, 0, 28, [], []), (34, 0, 1, 0, 0, 0, 29, [], []), (2, 0, 2, 0, 0, 1, 30, [], [4]), (20, 8, 1, 0, 0, 0, 31, [7], []), (2, 3, 0, 0, 0, 0, 32, [], [])]
noncomputable def pc_130_1 : List mOp := [(23, 0, 0, 0, 0, 0, 33, [], []), (0, 0, 0, 2, 0, 0, 34, [], []), (18, 49, 3, 0, 0, 0, 35, [], []), (2, 0, 2, 0, 0, 0, 36, [], []), (2, 0, 2, 0, 0, 0, 37, [], []), (20, 8, 1, 0, 0, 0, 38, [7], []), (2, 3, 0, 0, 0, 0, 39, [], []), (23, 0, 0, 0, 0, 0, 40, [], []), (17, 46, 1, 0, 0, 0, 41, [], []), (2, 0, 2, 0, 0, 0, 42, [], []), (20, 9, 1, 0, 0, 0, 43, [7], []), (2, 3, 0, 0, 0, 0, 44, [], []), (23, 0, 0, 0, 0, 0, 45, [], []), (16, 47, 0, 0, 0, 0, 46, [], []), (0, 0, 0, 0, 0, 0, 47, [], []), (33, 127, 2, 0, 0, 1, 48, [], [0, 1, 2, 3, 4]), (34, 0, 1, 0, 0, 0, 49, [], []), (2, 2, 0, 0, 0, 0, 50, [], []), (17, 58, 1, 0, 0, 0, 51, [], []), (2, 0, 2, 0, 0, 0, 52, [], []), (20, 4, 1, 0, 0, 0, 53, [7], []), (0, 0, 0, 0, 0, 0, 54, [], []), (23, 0, 0, 0, 0, 0, 55, [], []), (0, 0, 0, 2, 0, 0, 56, [], []), (6, 0, 0, 0, 0, 0, 57, [], []), (34, 0, 1, 0, 0, 0, 58, [], []), (2, 0, 2, 0, 0, 0, 59, [], []), (20, 8, 1, 0, 0, 0, 60, [7], []), (2, 3, 0, 0, 0, 0, 61, [], []), (23, 0, 0, 0, 0, 0, 62, [], []), (0, 0, 0, 6, 0, 0, 63, [], []), (18, 76, 3, 0, 0, 0, 64, [], [])]
noncomputable def pc_130_2 : List mOp := [(2, 0, 2, 0, 0, 0, 65, [], []), (2, 0, 2, 0, 0, 0, 66, [], []), (2, 1, 0, 0, 0, 0, 67, [], []), (2, 2, 0, 0, 0, 0, 68, [], []), (33, 128, 3, 0, 0, 0, 69, [], []), (2, 0, 2, 0, 0, 0, 70, [], []), (20, 9, 1, 0, 0, 0, 71, [7], []), (2, 3, 0, 0, 0, 0, 72, [], []), (23, 0, 0, 0, 0, 0, 73, [], []), (5, 0, 1, 0, 0, 0, 74, [], []), (33, 127, 2, 0, 0, 0, 75, [], []), (34, 0, 1, 0, 0, 0, 76, [], []), (2, 0, 2, 0, 0, 0, 77, [], []), (2, 1, 0, 0, 0, 0, 78, [], []), (2, 2, 0, 0, 0, 0, 79, [], []), (0, 0, 0, 1, 0, 0, 80, [], []), (5, 0, 1, 0, 0, 0, 81, [], []), (33, 129, 3, 0, 0, 0, 82, [], []), (3, 4, 0, 0, 0, 0, 83, [], []), (2, 0, 2, 0, 0, 0, 84, [], []), (2, 0, 2, 0, 0, 0, 85, [], []), (20, 25, 1, 0, 0, 0, 86, [7], []), (0, 0, 0, 6, 0, 0, 87, [], []), (2, 2, 0, 0, 0, 0, 88, [], []), (0, 0, 0, 1, 0, 0, 89, [], []), (5, 0, 1, 0, 0, 0, 90, [], []), (5, 0, 2, 0, 0, 0, 91, [], []), (2, 1, 0, 0, 0, 0, 92, [], []), (5, 0, 0, 0, 0, 0, 93, [], []), (23, 0, 0, 0, 0, 0, 94, [], []), (2, 4, 0, 0, 0, 0, 95, [], []), (17, 103, 5, 0, 0, 0, 96, [], [])]
noncomputable def pc_130_3 : List mOp := [(2, 0, 2, 0, 0, 0, 97, [], []), (20, 4, 1, 0, 0, 0, 98, [7], []), (0, 0, 0, 2, 0, 0, 99, [], []), (23, 0, 0, 0, 0, 0, 100, [], []), (2, 4, 0, 0, 0, 0, 101, [], []), (5, 0, 2, 0, 0, 0, 102, [], []), (16, 108, 0, 0, 0, 0, 103, [], []), (2, 0, 2, 0, 0, 0, 104, [], []), (20, 9, 1, 0, 0, 0, 105, [7], []), (2, 3, 0, 0, 0, 0, 106, [], []), (23, 0, 0, 0, 0, 0, 107, [], []), (8, 0, 0, 0, 0, 0, 108, [], []), (5, 0, 0, 0, 0, 1, 109, [], [0, 1, 2, 3, 4]), (33, 127, 2, 0, 0, 0, 110, [], []), (34, 0, 1, 0, 0, 0, 111, [], [])]
noncomputable def pc_130 : List (List mOp) := [pc_130_0, pc_130_1, pc_130_2, pc_130_3]
/-- 131: PotAndFineModel.layFines(I)V -/
noncomputable def pc_131_0 : List mOp := [(0, 0, 0, 0, 0, 1, 1, [], []), (3, 2, 0, 0, 0, 0, 2, [], []), (0, 0, 0, 0, 0, 0, 3, [], []), (3, 3, 0, 0, 0, 0, 4, [], []), (0, 0, 0, 0, 0, 0, 5, [], []), (3, 4, 0, 0, 0, 0, 6, [], []), (2, 4, 0, 0, 0, 1, 7, [], [5]), (0, 0, 0, 36, 0, 0, 8, [], []), (18, 16, 3, 0, 0, 0, 9, [], []), (2, 0, 2, 0, 0, 0, 10, [], []), (20, 30, 1, 0, 0, 0, 11, [7], []), (2, 4, 0, 0, 0, 0, 12, [], []), (0, 0, 0, 0, 0, 0, 13, [], []), (26, 0, 0, 0, 0, 0, 14, [], []), (4, 4, 0, 1, 0, 0, 15, [], []), (16, 6, 0, 0, 0, 0, 16, [], []), (0, 0, 0, 0, 0, 0, 17, [], []), (3, 4, 0, 0, 0, 0, 18, [], []), (2, 4, 0, 0, 0, 1, 19, [], [5]), (2, 0, 2, 0, 0, 0, 20, [], []), (20, 23, 0, 0, 0, 0, 21, [7], []), (18, 37, 3, 0, 0, 0, 22, [], []), (2, 0, 2, 0, 0, 0, 23, [], []), (2, 4, 0, 0, 0, 0, 24, [], []), (2, 1, 0, 0, 0, 0, 25, [], []), (33, 125, 3, 0, 0, 0, 26, [], []), (17, 35, 0, 0, 0, 0, 27, [], []), (2, 2, 0, 0, 0, 0, 28, [], []), (2, 0, 2, 0, 0, 0, 29, [], []), (20, 29, 1, 0, 0, 0, 30, [7], []), (2, 4, 0, 0, 0, 0, 31, [], []), (23, 0, 0, 0, 0, 0, 32, [], [])]
noncomputable def pc_131_1 : List mOp := [(5, 0, 0, 0, 0, 0, 33, [], []), (3, 2, 0, 0, 0, 0, 34, [], []), (4, 3, 0, 1, 0, 0, 35, [], []), (4, 4, 0, 1, 0, 0, 36, [], []), (16, 18, 0, 0, 0, 0, 37, [], []), (2, 2, 0, 0, 0, 0, 38, [], []), (2, 3, 0, 0, 0, 0, 39, [], []), (6, 0, 0, 0, 0, 0, 40, [], []), (3, 4, 0, 0, 0, 0, 41, [], []), (0, 0, 0, 0, 0, 0, 42, [], []), (3, 5, 0, 0, 0, 0, 43, [], []), (2, 5, 0, 0, 0, 1, 44, [], [2, 3]), (2, 0, 2, 0, 0, 0, 45, [], []), (20, 23, 0, 0, 0, 0, 46, [7], []), (18, 64, 3, 0, 0, 0, 47, [], []), (2, 0, 2, 0, 0, 0, 48, [], []), (20, 4, 1, 0, 0, 0, 49, [7], []), (0, 0, 0, 2, 0, 0, 50, [], []), (23, 0, 0, 0, 0, 0, 51, [], []), (17, 64, 5, 0, 0, 0, 52, [], []), (2, 0, 2, 0, 0, 0, 53, [], []), (2, 5, 0, 0, 0, 0, 54, [], []), (2, 1, 0, 0, 0, 0, 55, [], []), (33, 125, 3, 0, 0, 0, 56, [], []), (17, 62, 0, 0, 0, 0, 57, [], []), (2, 0, 2, 0, 0, 0, 58, [], []), (2, 5, 0, 0, 0, 0, 59, [], []), (2, 1, 0, 0, 0, 0, 60, [], []), (2, 4, 0, 0, 0, 0, 61, [], []), (33, 133, 4, 0, 0, 0, 62, [], []), (4, 5, 0, 1, 0, 0, 63, [], []), (16, 43, 0, 0, 0, 0, 64, [], [])]
noncomputable def pc_131_2 : List mOp := [(34, 0, 0, 0, 0, 0, 65, [], [])]
noncomputable def pc_131 : List (List mOp) := [pc_131_0, pc_131_1, pc_131_2]
/-- 132: PotAndFineModel.nine(I)I -/
noncomputable def pc_132_0 : List mOp := [(2, 0, 0, 0, 0, 1, 1, [], []), (0, 0, 0, 9, 0, 0, 2, [], []), (18, 5, 5, 0, 0, 0, 3, [], []), (0, 0, 0, 9, 0, 0, 4, [], []), (16, 6, 0, 0, 0, 0, 5, [], []), (2, 0, 0, 0, 0, 0, 6, [], []), (34, 0, 1, 0, 0, 0, 7, [], [])]
noncomputable def pc_132 : List (List mOp) := [pc_132_0]
/-- 133: PotAndFineModel.layBy(III)V -/
noncomputable def pc_133_0 : List mOp := [(2, 0, 2, 0, 0, 1, 1, [], []), (20, 8, 1, 0, 0, 0, 2, [7], []), (2, 0, 2, 0, 0, 0, 3, [], []), (20, 22, 1, 0, 0, 0, 4, [7], []), (2, 1, 0, 0, 0, 0, 5, [], []), (23, 0, 0, 0, 0, 0, 6, [], []), (23, 0, 0, 0, 0, 0, 7, [], []), (3, 4, 0, 0, 0, 0, 8, [], []), (2, 0, 2, 0, 0, 0, 9, [], []), (20, 10, 1, 0, 0, 0, 10, [7], []), (2, 0, 2, 0, 0, 0, 11, [], []), (20, 22, 1, 0, 0, 0, 12, [7], []), (2, 1, 0, 0, 0, 0, 13, [], []), (23, 0, 0, 0, 0, 0, 14, [], []), (23, 0, 0, 0, 0, 0, 15, [], []), (3, 5, 0, 0, 0, 0, 16, [], []), (2, 4, 0, 0, 0, 0, 17, [], []), (0, 0, 0, 4, 0, 0, 18, [], []), (18, 77, 1, 0, 0, 0, 19, [], []), (0, 0, 0, (-9), 0, 0, 20, [], []), (3, 6, 0, 0, 0, 0, 21, [], []), (0, 0, 0, 0, 0, 0, 22, [], []), (3, 7, 0, 0, 0, 0, 23, [], []), (2, 7, 0, 0, 0, 1, 24, [], [4, 8]), (2, 0, 2, 0, 0, 0, 25, [], []), (20, 23, 0, 0, 0, 0, 26, [7], []), (18, 51, 3, 0, 0, 0, 27, [], []), (2, 7, 0, 0, 0, 0, 28, [], []), (2, 1, 0, 0, 0, 0, 29, [], []), (18, 49, 0, 0, 0, 0, 30, [], []), (2, 0, 2, 0, 0, 0, 31, [], []), (2, 7, 0, 0, 0, 0, 32, [], [])]
noncomputable def pc_133_1 : List mOp := [(2, 2, 0, 0, 0, 0, 33, [], []), (33, 125, 3, 0, 0, 0, 34, [], []), (17, 49, 0, 0, 0, 0, 35, [], []), (2, 6, 0, 0, 0, 0, 36, [], []), (0, 0, 0, (-9), 0, 0, 37, [], []), (18, 47, 0, 0, 0, 0, 38, [], []), (2, 0, 2, 0, 0, 0, 39, [], []), (20, 29, 1, 0, 0, 0, 40, [7], []), (2, 7, 0, 0, 0, 0, 41, [], []), (23, 0, 0, 0, 0, 0, 42, [], []), (2, 0, 2, 0, 0, 0, 43, [], []), (20, 29, 1, 0, 0, 0, 44, [7], []), (2, 6, 0, 0, 0, 0, 45, [], []), (23, 0, 0, 0, 0, 0, 46, [], []), (18, 49, 5, 0, 0, 0, 47, [], []), (2, 7, 0, 0, 0, 1, 48, [], [4, 6, 8]), (3, 6, 0, 0, 0, 0, 49, [], []), (4, 7, 0, 1, 0, 1, 50, [], [4, 8]), (16, 23, 0, 0, 0, 0, 51, [], []), (2, 0, 2, 0, 0, 0, 52, [], []), (20, 29, 1, 0, 0, 0, 53, [7], []), (2, 6, 0, 0, 0, 0, 54, [], []), (23, 0, 0, 0, 0, 0, 55, [], []), (2, 3, 0, 0, 0, 0, 56, [], []), (18, 76, 5, 0, 0, 0, 57, [], []), (2, 0, 2, 0, 0, 0, 58, [], []), (20, 30, 1, 0, 0, 0, 59, [7], []), (0, 0, 0, 6, 0, 0, 60, [], []), (2, 1, 0, 0, 0, 0, 61, [], []), (5, 0, 2, 0, 0, 0, 62, [], []), (2, 6, 0, 0, 0, 0, 63, [], []), (5, 0, 0, 0, 0, 0, 64, [], [])]
noncomputable def pc_133_2 : List mOp := [(2, 0, 2, 0, 0, 0, 65, [], []), (20, 29, 1, 0, 0, 0, 66, [7], []), (2, 6, 0, 0, 0, 0, 67, [], []), (23, 0, 0, 0, 0, 0, 68, [], []), (2, 3, 0, 0, 0, 0, 69, [], []), (5, 0, 1, 0, 0, 0, 70, [], []), (2, 5, 0, 0, 0, 0, 71, [], []), (5, 0, 2, 0, 0, 0, 72, [], []), (0, 0, 0, 9, 0, 0, 73, [], []), (6, 0, 0, 0, 0, 0, 74, [], []), (33, 132, 1, 0, 0, 0, 75, [], []), (26, 0, 0, 0, 0, 0, 76, [], []), (16, 153, 0, 0, 0, 1, 77, [], [0, 1, 2, 3, 4, 5, 6, 7, 8]), (2, 4, 0, 0, 0, 0, 78, [], []), (0, 0, 0, 3, 0, 0, 79, [], []), (18, 83, 0, 0, 0, 0, 80, [], []), (2, 4, 0, 0, 0, 0, 81, [], []), (0, 0, 0, 5, 0, 0, 82, [], []), (18, 153, 1, 0, 0, 0, 83, [], []), (0, 0, 0, 0, 0, 0, 84, [], []), (3, 6, 0, 0, 0, 0, 85, [], []), (2, 6, 0, 0, 0, 1, 86, [], [7, 8]), (2, 0, 2, 0, 0, 0, 87, [], []), (20, 23, 0, 0, 0, 0, 88, [7], []), (18, 153, 3, 0, 0, 0, 89, [], []), (2, 6, 0, 0, 0, 0, 90, [], []), (2, 1, 0, 0, 0, 0, 91, [], []), (18, 151, 0, 0, 0, 0, 92, [], []), (2, 0, 2, 0, 0, 0, 93, [], []), (2, 6, 0, 0, 0, 0, 94, [], []), (2, 2, 0, 0, 0, 0, 95, [], []), (33, 125, 3, 0, 0, 0, 96, [], [])]
noncomputable def pc_133_3 : List mOp := [(17, 151, 0, 0, 0, 0, 97, [], []), (2, 0, 2, 0, 0, 0, 98, [], []), (20, 29, 1, 0, 0, 0, 99, [7], []), (2, 6, 0, 0, 0, 0, 100, [], []), (23, 0, 0, 0, 0, 0, 101, [], []), (2, 3, 0, 0, 0, 0, 102, [], []), (18, 115, 3, 0, 0, 0, 103, [], []), (2, 3, 0, 0, 0, 0, 104, [], []), (2, 0, 2, 0, 0, 0, 105, [], []), (20, 29, 1, 0, 0, 0, 106, [7], []), (2, 6, 0, 0, 0, 0, 107, [], []), (23, 0, 0, 0, 0, 0, 108, [], []), (5, 0, 1, 0, 0, 0, 109, [], []), (2, 5, 0, 0, 0, 0, 110, [], []), (5, 0, 2, 0, 0, 0, 111, [], []), (0, 0, 0, 9, 0, 0, 112, [], []), (6, 0, 0, 0, 0, 0, 113, [], []), (33, 132, 1, 0, 0, 0, 114, [], []), (16, 116, 0, 0, 0, 0, 115, [], []), (0, 0, 0, 0, 0, 0, 116, [], []), (3, 7, 0, 0, 0, 1, 117, [], [7, 8]), (2, 4, 0, 0, 0, 0, 118, [], []), (0, 0, 0, 5, 0, 0, 119, [], []), (18, 137, 1, 0, 0, 0, 120, [], []), (2, 2, 0, 0, 0, 0, 121, [], []), (17, 137, 5, 0, 0, 0, 122, [], []), (2, 0, 2, 0, 0, 0, 123, [], []), (20, 26, 1, 0, 0, 0, 124, [7], []), (0, 0, 0, 36, 0, 0, 125, [], []), (2, 2, 0, 0, 0, 0, 126, [], []), (0, 0, 0, 1, 0, 0, 127, [], []), (5, 0, 1, 0, 0, 0, 128, [], [])]
noncomputable def pc_133_4 : List mOp := [(5, 0, 2, 0, 0, 0, 129, [], []), (0, 0, 0, 6, 0, 0, 130, [], []), (2, 6, 0, 0, 0, 0, 131, [], []), (5, 0, 2, 0, 0, 0, 132, [], []), (5, 0, 0, 0, 0, 0, 133, [], []), (2, 1, 0, 0, 0, 0, 134, [], []), (5, 0, 0, 0, 0, 0, 135, [], []), (23, 0, 0, 0, 0, 0, 136, [], []), (16, 138, 0, 0, 0, 0, 137, [], []), (0, 0, 0, 0, 0, 1, 138, [], [8]), (3, 8, 0, 0, 0, 1, 139, [], [8]), (2, 0, 2, 0, 0, 0, 140, [], []), (20, 30, 1, 0, 0, 0, 141, [7], []), (0, 0, 0, 6, 0, 0, 142, [], []), (2, 1, 0, 0, 0, 0, 143, [], []), (5, 0, 2, 0, 0, 0, 144, [], []), (2, 6, 0, 0, 0, 0, 145, [], []), (5, 0, 0, 0, 0, 0, 146, [], []), (2, 7, 0, 0, 0, 0, 147, [], []), (2, 8, 0, 0, 0, 0, 148, [], []), (5, 0, 0, 0, 0, 0, 149, [], []), (33, 132, 1, 0, 0, 0, 150, [], []), (26, 0, 0, 0, 0, 0, 151, [], []), (4, 6, 0, 1, 0, 1, 152, [], [7, 8]), (16, 85, 0, 0, 0, 0, 153, [], []), (34, 0, 0, 0, 0, 0, 154, [], [])]
noncomputable def pc_133 : List (List mOp) := [pc_133_0, pc_133_1, pc_133_2, pc_133_3, pc_133_4]
/-- 134: PotAndFineModel.gets(II)J -/
noncomputable def pc_134_0 : List mOp := [(1, 0, 0, 0, 0, 1, 1, [], []), (3, 3, 1, 0, 0, 0, 2, [], []), (0, 0, 0, 0, 0, 0, 3, [], []), (3, 5, 0, 0, 0, 0, 4, [], []), (0, 0, 0, 0, 0, 0, 5, [], []), (3, 6, 0, 0, 0, 0, 6, [], []), (0, 0, 0, 0, 0, 0, 7, [], []), (3, 7, 0, 0, 0, 0, 8, [], []), (2, 7, 0, 0, 0, 1, 9, [], [4, 8]), (2, 0, 2, 0, 0, 0, 10, [], []), (20, 23, 0, 0, 0, 0, 11, [7], []), (18, 51, 3, 0, 0, 0, 12, [], []), (2, 3, 1, 0, 0, 0, 13, [], []), (2, 0, 2, 0, 0, 0, 14, [], []), (2, 7, 0, 0, 0, 0, 15, [], []), (2, 2, 0, 0, 0, 0, 16, [], []), (33, 125, 3, 0, 0, 0, 17, [], []), (17, 24, 0, 0, 0, 0, 18, [], []), (2, 0, 2, 0, 0, 0, 19, [], []), (20, 29, 1, 0, 0, 0, 20, [7], []), (2, 7, 0, 0, 0, 0, 21, [], []), (23, 0, 0, 0, 0, 0, 22, [], []), (12, 0, 0, 0, 0, 0, 23, [], []), (16, 25, 0, 0, 0, 0, 24, [], []), (1, 0, 0, 0, 0, 0, 25, [], []), (9, 0, 0, 0, 0, 0, 26, [], []), (3, 3, 1, 0, 0, 0, 27, [], []), (2, 5, 0, 0, 0, 0, 28, [], []), (2, 0, 2, 0, 0, 0, 29, [], []), (20, 30, 1, 0, 0, 0, 30, [7], []), (0, 0, 0, 6, 0, 0, 31, [], []), (2, 1, 0, 0, 0, 0, 32, [], [])]
noncomputable def pc_134_1 : List mOp := [(5, 0, 2, 0, 0, 0, 33, [], []), (2, 7, 0, 0, 0, 0, 34, [], []), (5, 0, 0, 0, 0, 0, 35, [], []), (23, 0, 0, 0, 0, 0, 36, [], []), (5, 0, 0, 0, 0, 0, 37, [], []), (3, 5, 0, 0, 0, 0, 38, [], []), (2, 6, 0, 0, 0, 0, 39, [], []), (2, 0, 2, 0, 0, 0, 40, [], []), (20, 30, 1, 0, 0, 0, 41, [7], []), (0, 0, 0, 6, 0, 0, 42, [], []), (2, 7, 0, 0, 0, 0, 43, [], []), (5, 0, 2, 0, 0, 0, 44, [], []), (2, 1, 0, 0, 0, 0, 45, [], []), (5, 0, 0, 0, 0, 0, 46, [], []), (23, 0, 0, 0, 0, 0, 47, [], []), (5, 0, 0, 0, 0, 0, 48, [], []), (3, 6, 0, 0, 0, 0, 49, [], []), (4, 7, 0, 1, 0, 0, 50, [], []), (16, 8, 0, 0, 0, 0, 51, [], []), (1, 0, 0, 0, 60, 0, 52, [], []), (2, 3, 1, 0, 0, 0, 53, [], []), (9, 0, 2, 0, 0, 0, 54, [], []), (2, 0, 2, 0, 0, 0, 55, [], []), (20, 4, 1, 0, 0, 0, 56, [7], []), (0, 0, 0, 1, 0, 0, 57, [], []), (23, 0, 0, 0, 0, 0, 58, [], []), (12, 0, 0, 0, 0, 0, 59, [], []), (9, 0, 2, 0, 0, 0, 60, [], []), (2, 0, 2, 0, 0, 0, 61, [], []), (2, 2, 0, 0, 0, 0, 62, [], []), (33, 126, 2, 0, 0, 0, 63, [], []), (12, 0, 0, 0, 0, 0, 64, [], [])]
noncomputable def pc_134_2 : List mOp := [(10, 0, 0, 0, 0, 0, 65, [], []), (3, 7, 1, 0, 0, 0, 66, [], []), (1, 0, 0, 0, 600, 0, 67, [], []), (2, 0, 2, 0, 0, 0, 68, [], []), (20, 4, 1, 0, 0, 0, 69, [7], []), (0, 0, 0, 0, 0, 0, 70, [], []), (23, 0, 0, 0, 0, 0, 71, [], []), (2, 0, 2, 0, 0, 0, 72, [], []), (20, 29, 1, 0, 0, 0, 73, [7], []), (2, 1, 0, 0, 0, 0, 74, [], []), (23, 0, 0, 0, 0, 0, 75, [], []), (5, 0, 1, 0, 0, 0, 76, [], []), (12, 0, 0, 0, 0, 0, 77, [], []), (9, 0, 2, 0, 0, 0, 78, [], []), (2, 7, 1, 0, 0, 0, 79, [], []), (9, 0, 0, 0, 0, 0, 80, [], []), (1, 0, 0, 0, 600, 0, 81, [], []), (2, 0, 2, 0, 0, 0, 82, [], []), (20, 4, 1, 0, 0, 0, 83, [7], []), (0, 0, 0, 3, 0, 0, 84, [], []), (23, 0, 0, 0, 0, 0, 85, [], []), (12, 0, 0, 0, 0, 0, 86, [], []), (9, 0, 2, 0, 0, 0, 87, [], []), (2, 5, 0, 0, 0, 0, 88, [], []), (12, 0, 0, 0, 0, 0, 89, [], []), (9, 0, 2, 0, 0, 0, 90, [], []), (9, 0, 1, 0, 0, 0, 91, [], []), (1, 0, 0, 0, 600, 0, 92, [], []), (2, 0, 2, 0, 0, 0, 93, [], []), (20, 4, 1, 0, 0, 0, 94, [7], []), (0, 0, 0, 2, 0, 0, 95, [], []), (23, 0, 0, 0, 0, 0, 96, [], [])]
noncomputable def pc_134_3 : List mOp := [(12, 0, 0, 0, 0, 0, 97, [], []), (9, 0, 2, 0, 0, 0, 98, [], []), (2, 6, 0, 0, 0, 0, 99, [], []), (12, 0, 0, 0, 0, 0, 100, [], []), (9, 0, 2, 0, 0, 0, 101, [], []), (9, 0, 1, 0, 0, 0, 102, [], []), (34, 0, 2, 0, 0, 0, 103, [], [])]
noncomputable def pc_134 : List (List mOp) := [pc_134_0, pc_134_1, pc_134_2, pc_134_3]
/-- 135: PotAndFineModel.run()V -/
noncomputable def pc_135_0 : List mOp := [(0, 0, 0, 0, 0, 1, 1, [], []), (3, 1, 0, 0, 0, 0, 2, [], []), (2, 1, 0, 0, 0, 1, 3, [], [2, 3, 4]), (0, 0, 0, 40, 0, 0, 4, [], []), (18, 108, 3, 0, 0, 0, 5, [], []), (0, 0, 0, 0, 0, 0, 6, [], []), (3, 2, 0, 0, 0, 0, 7, [], []), (2, 2, 0, 0, 0, 1, 8, [], [3, 4]), (2, 0, 2, 0, 0, 0, 9, [], []), (20, 23, 0, 0, 0, 0, 10, [7], []), (18, 28, 3, 0, 0, 0, 11, [], []), (2, 0, 2, 0, 0, 0, 12, [], []), (20, 29, 1, 0, 0, 0, 13, [7], []), (2, 2, 0, 0, 0, 0, 14, [], []), (2, 0, 2, 0, 0, 0, 15, [], []), (2, 2, 0, 0, 0, 0, 16, [], []), (2, 1, 0, 0, 0, 0, 17, [], []), (33, 125, 3, 0, 0, 0, 18, [], []), (17, 24, 0, 0, 0, 0, 19, [], []), (2, 0, 2, 0, 0, 0, 20, [], []), (2, 2, 0, 0, 0, 0, 21, [], []), (2, 1, 0, 0, 0, 0, 22, [], []), (33, 130, 3, 0, 0, 0, 23, [], []), (16, 25, 0, 0, 0, 0, 24, [], []), (0, 0, 0, 0, 0, 0, 25, [], []), (26, 0, 0, 0, 0, 0, 26, [], []), (4, 2, 0, 1, 0, 0, 27, [], []), (16, 7, 0, 0, 0, 0, 28, [], []), (2, 0, 2, 0, 0, 0, 29, [], []), (2, 1, 0, 0, 0, 0, 30, [], []), (33, 131, 2, 0, 0, 0, 31, [], []), (0, 0, 0, 0, 0, 0, 32, [], [])]
noncomputable def pc_135_1 : List mOp := [(3, 2, 0, 0, 0, 0, 33, [], []), (2, 2, 0, 0, 0, 1, 34, [], [3, 4]), (2, 0, 2, 0, 0, 0, 35, [], []), (20, 23, 0, 0, 0, 0, 36, [7], []), (18, 87, 3, 0, 0, 0, 37, [], []), (2, 1, 0, 0, 0, 0, 38, [], []), (17, 41, 1, 0, 0, 0, 39, [], []), (1, 0, 0, 0, 0, 0, 40, [], []), (16, 51, 0, 0, 0, 0, 41, [], []), (2, 0, 2, 0, 0, 0, 42, [], []), (20, 27, 1, 0, 0, 0, 43, [7], []), (0, 0, 0, 6, 0, 0, 44, [], []), (2, 1, 0, 0, 0, 0, 45, [], []), (0, 0, 0, 1, 0, 0, 46, [], []), (5, 0, 1, 0, 0, 0, 47, [], []), (5, 0, 2, 0, 0, 0, 48, [], []), (2, 2, 0, 0, 0, 0, 49, [], []), (5, 0, 0, 0, 0, 0, 50, [], []), (24, 0, 0, 0, 0, 0, 51, [], []), (3, 3, 1, 0, 0, 0, 52, [], []), (2, 0, 2, 0, 0, 0, 53, [], []), (20, 27, 1, 0, 0, 0, 54, [7], []), (0, 0, 0, 6, 0, 0, 55, [], []), (2, 1, 0, 0, 0, 0, 56, [], []), (5, 0, 2, 0, 0, 0, 57, [], []), (2, 2, 0, 0, 0, 0, 58, [], []), (5, 0, 0, 0, 0, 0, 59, [], []), (2, 3, 1, 0, 0, 0, 60, [], []), (2, 0, 2, 0, 0, 0, 61, [], []), (2, 2, 0, 0, 0, 0, 62, [], []), (2, 1, 0, 0, 0, 0, 63, [], []), (33, 125, 3, 0, 0, 0, 64, [], [])]
noncomputable def pc_135_2 : List mOp := [(17, 70, 0, 0, 0, 0, 65, [], []), (2, 0, 2, 0, 0, 0, 66, [], []), (2, 2, 0, 0, 0, 0, 67, [], []), (2, 1, 0, 0, 0, 0, 68, [], []), (33, 134, 3, 0, 0, 0, 69, [], []), (16, 71, 0, 0, 0, 0, 70, [], []), (1, 0, 0, 0, 0, 0, 71, [], []), (9, 0, 0, 0, 0, 0, 72, [], []), (27, 0, 0, 0, 0, 0, 73, [], []), (2, 0, 2, 0, 0, 0, 74, [], []), (20, 25, 1, 0, 0, 0, 75, [7], []), (0, 0, 0, 6, 0, 0, 76, [], []), (2, 1, 0, 0, 0, 0, 77, [], []), (5, 0, 2, 0, 0, 0, 78, [], []), (2, 2, 0, 0, 0, 0, 79, [], []), (5, 0, 0, 0, 0, 0, 80, [], []), (2, 0, 2, 0, 0, 0, 81, [], []), (20, 29, 1, 0, 0, 0, 82, [7], []), (2, 2, 0, 0, 0, 0, 83, [], []), (23, 0, 0, 0, 0, 0, 84, [], []), (26, 0, 0, 0, 0, 0, 85, [], []), (4, 2, 0, 1, 0, 0, 86, [], []), (16, 33, 0, 0, 0, 0, 87, [], []), (0, 0, 0, 0, 0, 0, 88, [], []), (3, 2, 0, 0, 0, 0, 89, [], []), (2, 2, 0, 0, 0, 1, 90, [], [3, 4]), (0, 0, 0, 36, 0, 0, 91, [], []), (18, 106, 3, 0, 0, 0, 92, [], []), (2, 0, 2, 0, 0, 0, 93, [], []), (20, 26, 1, 0, 0, 0, 94, [7], []), (0, 0, 0, 36, 0, 0, 95, [], []), (2, 1, 0, 0, 0, 0, 96, [], [])]
noncomputable def pc_135_3 : List mOp := [(5, 0, 2, 0, 0, 0, 97, [], []), (2, 2, 0, 0, 0, 0, 98, [], []), (5, 0, 0, 0, 0, 0, 99, [], []), (2, 0, 2, 0, 0, 0, 100, [], []), (20, 30, 1, 0, 0, 0, 101, [7], []), (2, 2, 0, 0, 0, 0, 102, [], []), (23, 0, 0, 0, 0, 0, 103, [], []), (26, 0, 0, 0, 0, 0, 104, [], []), (4, 2, 0, 1, 0, 0, 105, [], []), (16, 89, 0, 0, 0, 0, 106, [], []), (4, 1, 0, 1, 0, 0, 107, [], []), (16, 2, 0, 0, 0, 0, 108, [], []), (34, 0, 0, 0, 0, 0, 109, [], [])]
noncomputable def pc_135 : List (List mOp) := [pc_135_0, pc_135_1, pc_135_2, pc_135_3]
/-- 136: PotAndFineModel.runAll()V -/
noncomputable def pc_136_0 : List mOp := [(2, 0, 2, 0, 0, 1, 1, [], []), (2, 0, 2, 0, 0, 0, 2, [], []), (20, 7, 0, 0, 0, 0, 3, [7], []), (21, 23, 0, 0, 0, 0, 4, [7], []), (2, 0, 2, 0, 0, 0, 5, [], []), (39, 24, 0, 0, 0, 0, 6, [7], []), (0, 0, 0, 0, 0, 0, 7, [], []), (3, 1, 0, 0, 0, 0, 8, [], []), (2, 1, 0, 0, 0, 1, 9, [], []), (2, 0, 2, 0, 0, 0, 10, [], []), (20, 7, 0, 0, 0, 0, 11, [7], []), (18, 19, 3, 0, 0, 0, 12, [], []), (2, 0, 2, 0, 0, 0, 13, [], []), (20, 22, 1, 0, 0, 0, 14, [7], []), (2, 1, 0, 0, 0, 0, 15, [], []), (2, 1, 0, 0, 0, 0, 16, [], []), (26, 0, 0, 0, 0, 0, 17, [], []), (4, 1, 0, 1, 0, 0, 18, [], []), (16, 8, 0, 0, 0, 0, 19, [], []), (2, 0, 2, 0, 0, 0, 20, [], []), (33, 135, 1, 0, 0, 0, 21, [], []), (34, 0, 0, 0, 0, 0, 22, [], [])]
noncomputable def pc_136 : List (List mOp) := [pc_136_0]
/-- 137: PotAndFineModel.sumAt(I)J -/
noncomputable def pc_137_0 : List mOp := [(1, 0, 0, 0, 0, 1, 1, [], []), (3, 2, 1, 0, 0, 0, 2, [], []), (0, 0, 0, 0, 0, 0, 3, [], []), (3, 4, 0, 0, 0, 0, 4, [], []), (2, 4, 0, 0, 0, 1, 5, [], [3]), (2, 0, 2, 0, 0, 0, 6, [], []), (20, 23, 0, 0, 0, 0, 7, [7], []), (18, 21, 3, 0, 0, 0, 8, [], []), (2, 2, 1, 0, 0, 0, 9, [], []), (2, 0, 2, 0, 0, 0, 10, [], []), (20, 27, 1, 0, 0, 0, 11, [7], []), (0, 0, 0, 6, 0, 0, 12, [], []), (2, 1, 0, 0, 0, 0, 13, [], []), (5, 0, 2, 0, 0, 0, 14, [], []), (2, 4, 0, 0, 0, 0, 15, [], []), (5, 0, 0, 0, 0, 0, 16, [], []), (24, 0, 0, 0, 0, 0, 17, [], []), (9, 0, 0, 0, 0, 0, 18, [], []), (3, 2, 1, 0, 0, 0, 19, [], []), (4, 4, 0, 1, 0, 0, 20, [], []), (16, 4, 0, 0, 0, 0, 21, [], []), (2, 2, 1, 0, 0, 0, 22, [], []), (34, 0, 2, 0, 0, 0, 23, [], [])]
noncomputable def pc_137 : List (List mOp) := [pc_137_0]
/-- 138: PotAndFineModel.runBoth()V -/
noncomputable def pc_138_0 : List mOp := [(2, 0, 2, 0, 0, 1, 1, [], []), (20, 4, 1, 0, 0, 0, 2, [7], []), (0, 0, 0, 2, 0, 0, 3, [], []), (23, 0, 0, 0, 0, 0, 4, [], []), (3, 1, 0, 0, 0, 0, 5, [], []), (2, 0, 2, 0, 0, 0, 6, [], []), (20, 4, 1, 0, 0, 0, 7, [7], []), (0, 0, 0, 2, 0, 0, 8, [], []), (0, 0, 0, 0, 0, 0, 9, [], []), (26, 0, 0, 0, 0, 0, 10, [], []), (2, 0, 2, 0, 0, 0, 11, [], []), (33, 136, 1, 0, 0, 0, 12, [], []), (2, 0, 2, 0, 0, 0, 13, [], []), (20, 4, 1, 0, 0, 0, 14, [7], []), (0, 0, 0, 2, 0, 0, 15, [], []), (2, 1, 0, 0, 0, 0, 16, [], []), (26, 0, 0, 0, 0, 0, 17, [], []), (0, 0, 0, 0, 0, 0, 18, [], []), (3, 2, 0, 0, 0, 0, 19, [], []), (2, 2, 0, 0, 0, 1, 20, [], [1]), (0, 0, 0, 240, 0, 0, 21, [], []), (18, 32, 3, 0, 0, 0, 22, [], []), (2, 0, 2, 0, 0, 0, 23, [], []), (20, 28, 1, 0, 0, 0, 24, [7], []), (2, 2, 0, 0, 0, 0, 25, [], []), (2, 0, 2, 0, 0, 0, 26, [], []), (20, 27, 1, 0, 0, 0, 27, [7], []), (2, 2, 0, 0, 0, 0, 28, [], []), (24, 0, 0, 0, 0, 0, 29, [], []), (27, 0, 0, 0, 0, 0, 30, [], []), (4, 2, 0, 1, 0, 0, 31, [], []), (16, 19, 0, 0, 0, 0, 32, [], [])]
noncomputable def pc_138_1 : List mOp := [(2, 0, 2, 0, 0, 0, 33, [], []), (33, 136, 1, 0, 0, 0, 34, [], []), (34, 0, 0, 0, 0, 0, 35, [], [])]
noncomputable def pc_138 : List (List mOp) := [pc_138_0, pc_138_1]
/-- 139: PotAndFineModel.otherAt(I)J -/
noncomputable def pc_139_0 : List mOp := [(1, 0, 0, 0, 0, 1, 1, [], []), (3, 2, 1, 0, 0, 0, 2, [], []), (0, 0, 0, 0, 0, 0, 3, [], []), (3, 4, 0, 0, 0, 0, 4, [], []), (2, 4, 0, 0, 0, 1, 5, [], [3]), (2, 0, 2, 0, 0, 0, 6, [], []), (20, 23, 0, 0, 0, 0, 7, [7], []), (18, 21, 3, 0, 0, 0, 8, [], []), (2, 2, 1, 0, 0, 0, 9, [], []), (2, 0, 2, 0, 0, 0, 10, [], []), (20, 28, 1, 0, 0, 0, 11, [7], []), (0, 0, 0, 6, 0, 0, 12, [], []), (2, 1, 0, 0, 0, 0, 13, [], []), (5, 0, 2, 0, 0, 0, 14, [], []), (2, 4, 0, 0, 0, 0, 15, [], []), (5, 0, 0, 0, 0, 0, 16, [], []), (24, 0, 0, 0, 0, 0, 17, [], []), (9, 0, 0, 0, 0, 0, 18, [], []), (3, 2, 1, 0, 0, 0, 19, [], []), (4, 4, 0, 1, 0, 0, 20, [], []), (16, 4, 0, 0, 0, 0, 21, [], []), (2, 2, 1, 0, 0, 0, 22, [], []), (34, 0, 2, 0, 0, 0, 23, [], [])]
noncomputable def pc_139 : List (List mOp) := [pc_139_0]
/-- 140: PotAndFineModel.put(II)I -/
noncomputable def pc_140_0 : List mOp := [(2, 0, 2, 0, 0, 1, 1, [], []), (0, 0, 0, 0, 0, 0, 2, [], []), (21, 0, 0, 0, 0, 0, 3, [7], []), (2, 0, 2, 0, 0, 0, 4, [], []), (2, 1, 0, 0, 0, 0, 5, [], []), (33, 107, 2, 0, 0, 0, 6, [], []), (17, 10, 1, 0, 0, 0, 7, [], []), (2, 2, 0, 0, 0, 0, 8, [], []), (33, 108, 1, 0, 0, 0, 9, [], []), (17, 12, 0, 0, 0, 0, 10, [], []), (0, 0, 0, (-1), 0, 0, 11, [], []), (34, 0, 1, 0, 0, 0, 12, [], []), (2, 0, 2, 0, 0, 0, 13, [], []), (33, 136, 1, 0, 0, 0, 14, [], []), (2, 0, 2, 0, 0, 0, 15, [], []), (2, 1, 0, 0, 0, 0, 16, [], []), (2, 2, 0, 0, 0, 0, 17, [], []), (33, 125, 3, 0, 0, 0, 18, [], []), (17, 28, 0, 0, 0, 0, 19, [], []), (2, 0, 2, 0, 0, 0, 20, [], []), (20, 25, 1, 0, 0, 0, 21, [7], []), (0, 0, 0, 6, 0, 0, 22, [], []), (2, 2, 0, 0, 0, 0, 23, [], []), (5, 0, 2, 0, 0, 0, 24, [], []), (2, 1, 0, 0, 0, 0, 25, [], []), (5, 0, 0, 0, 0, 0, 26, [], []), (23, 0, 0, 0, 0, 0, 27, [], []), (16, 29, 0, 0, 0, 0, 28, [], []), (0, 0, 0, (-9), 0, 0, 29, [], []), (34, 0, 1, 0, 0, 0, 30, [], [])]
noncomputable def pc_140 : List (List mOp) := [pc_140_0]
/-- 141: PotAndFineModel.paid(III)I -/
noncomputable def pc_141_0 : List mOp := [(2, 0, 2, 0, 0, 1, 1, [], []), (0, 0, 0, 0, 0, 0, 2, [], []), (21, 0, 0, 0, 0, 0, 3, [7], []), (2, 0, 2, 0, 0, 0, 4, [], []), (2, 1, 0, 0, 0, 0, 5, [], []), (33, 107, 2, 0, 0, 0, 6, [], []), (17, 14, 1, 0, 0, 0, 7, [], []), (2, 0, 2, 0, 0, 0, 8, [], []), (2, 2, 0, 0, 0, 0, 9, [], []), (33, 107, 2, 0, 0, 0, 10, [], []), (17, 14, 1, 0, 0, 0, 11, [], []), (2, 3, 0, 0, 0, 0, 12, [], []), (33, 108, 1, 0, 0, 0, 13, [], []), (17, 16, 0, 0, 0, 0, 14, [], []), (0, 0, 0, (-1), 0, 0, 15, [], []), (34, 0, 1, 0, 0, 0, 16, [], []), (2, 1, 0, 0, 0, 0, 17, [], []), (2, 2, 0, 0, 0, 0, 18, [], []), (18, 21, 1, 0, 0, 0, 19, [], []), (0, 0, 0, (-2), 0, 0, 20, [], []), (34, 0, 1, 0, 0, 0, 21, [], []), (2, 0, 2, 0, 0, 0, 22, [], []), (33, 136, 1, 0, 0, 0, 23, [], []), (2, 0, 2, 0, 0, 0, 24, [], []), (20, 26, 1, 0, 0, 0, 25, [7], []), (0, 0, 0, 36, 0, 0, 26, [], []), (2, 3, 0, 0, 0, 0, 27, [], []), (5, 0, 2, 0, 0, 0, 28, [], []), (0, 0, 0, 6, 0, 0, 29, [], []), (2, 1, 0, 0, 0, 0, 30, [], []), (5, 0, 2, 0, 0, 0, 31, [], []), (5, 0, 0, 0, 0, 0, 32, [], [])]
noncomputable def pc_141_1 : List mOp := [(2, 2, 0, 0, 0, 0, 33, [], []), (5, 0, 0, 0, 0, 0, 34, [], []), (23, 0, 0, 0, 0, 0, 35, [], []), (34, 0, 1, 0, 0, 0, 36, [], [])]
noncomputable def pc_141 : List (List mOp) := [pc_141_0, pc_141_1]
/-- 142: PotAndFineModel.potOf(I)I -/
noncomputable def pc_142_0 : List mOp := [(0, 0, 0, 0, 0, 1, 1, [], []), (3, 2, 0, 0, 0, 0, 2, [], []), (0, 0, 0, 0, 0, 0, 3, [], []), (3, 3, 0, 0, 0, 0, 4, [], []), (2, 3, 0, 0, 0, 1, 5, [], []), (2, 0, 2, 0, 0, 0, 6, [], []), (20, 23, 0, 0, 0, 0, 7, [7], []), (18, 21, 3, 0, 0, 0, 8, [], []), (2, 2, 0, 0, 0, 0, 9, [], []), (2, 0, 2, 0, 0, 0, 10, [], []), (20, 25, 1, 0, 0, 0, 11, [7], []), (0, 0, 0, 6, 0, 0, 12, [], []), (2, 1, 0, 0, 0, 0, 13, [], []), (5, 0, 2, 0, 0, 0, 14, [], []), (2, 3, 0, 0, 0, 0, 15, [], []), (5, 0, 0, 0, 0, 0, 16, [], []), (23, 0, 0, 0, 0, 0, 17, [], []), (5, 0, 0, 0, 0, 0, 18, [], []), (3, 2, 0, 0, 0, 0, 19, [], []), (4, 3, 0, 1, 0, 0, 20, [], []), (16, 4, 0, 0, 0, 0, 21, [], []), (2, 2, 0, 0, 0, 0, 22, [], []), (34, 0, 1, 0, 0, 0, 23, [], [])]
noncomputable def pc_142 : List (List mOp) := [pc_142_0]
/-- 143: PotAndFineModel.pot(I)I -/
noncomputable def pc_143_0 : List mOp := [(2, 0, 2, 0, 0, 1, 1, [], []), (0, 0, 0, 0, 0, 0, 2, [], []), (21, 0, 0, 0, 0, 0, 3, [7], []), (2, 1, 0, 0, 0, 0, 4, [], []), (33, 108, 1, 0, 0, 0, 5, [], []), (17, 8, 0, 0, 0, 0, 6, [], []), (0, 0, 0, (-1), 0, 0, 7, [], []), (34, 0, 1, 0, 0, 0, 8, [], []), (2, 0, 2, 0, 0, 0, 9, [], []), (33, 136, 1, 0, 0, 0, 10, [], []), (2, 0, 2, 0, 0, 0, 11, [], []), (2, 1, 0, 0, 0, 0, 12, [], []), (33, 142, 2, 0, 0, 0, 13, [], []), (34, 0, 1, 0, 0, 0, 14, [], [])]
noncomputable def pc_143 : List (List mOp) := [pc_143_0]
/-- 144: PotAndFineModel.here(I)I -/
noncomputable def pc_144_0 : List mOp := [(2, 0, 2, 0, 0, 1, 1, [], []), (0, 0, 0, 0, 0, 0, 2, [], []), (21, 0, 0, 0, 0, 0, 3, [7], []), (2, 1, 0, 0, 0, 0, 4, [], []), (33, 108, 1, 0, 0, 0, 5, [], []), (17, 8, 0, 0, 0, 0, 6, [], []), (0, 0, 0, (-1), 0, 0, 7, [], []), (34, 0, 1, 0, 0, 0, 8, [], []), (2, 0, 2, 0, 0, 0, 9, [], []), (33, 136, 1, 0, 0, 0, 10, [], []), (2, 0, 2, 0, 0, 0, 11, [], []), (2, 1, 0, 0, 0, 0, 12, [], []), (33, 126, 2, 0, 0, 0, 13, [], []), (34, 0, 1, 0, 0, 0, 14, [], [])]
noncomputable def pc_144 : List (List mOp) := [pc_144_0]
/-- 145: PotAndFineModel.holds(II)J -/
noncomputable def pc_145_0 : List mOp := [(2, 0, 2, 0, 0, 1, 1, [], []), (0, 0, 0, 0, 0, 0, 2, [], []), (21, 0, 0, 0, 0, 0, 3, [7], []), (2, 0, 2, 0, 0, 0, 4, [], []), (2, 1, 0, 0, 0, 0, 5, [], []), (33, 107, 2, 0, 0, 0, 6, [], []), (17, 10, 1, 0, 0, 0, 7, [], []), (2, 2, 0, 0, 0, 0, 8, [], []), (33, 108, 1, 0, 0, 0, 9, [], []), (17, 12, 0, 0, 0, 0, 10, [], []), (1, 0, 0, 0, (-1), 0, 11, [], []), (34, 0, 2, 0, 0, 0, 12, [], []), (2, 0, 2, 0, 0, 0, 13, [], []), (33, 136, 1, 0, 0, 0, 14, [], []), (1, 0, 0, 0, 1000000000, 0, 15, [], []), (2, 0, 2, 0, 0, 0, 16, [], []), (20, 27, 1, 0, 0, 0, 17, [7], []), (0, 0, 0, 6, 0, 0, 18, [], []), (2, 2, 0, 0, 0, 0, 19, [], []), (5, 0, 2, 0, 0, 0, 20, [], []), (2, 1, 0, 0, 0, 0, 21, [], []), (5, 0, 0, 0, 0, 0, 22, [], []), (24, 0, 0, 0, 0, 0, 23, [], []), (9, 0, 0, 0, 0, 0, 24, [], []), (34, 0, 2, 0, 0, 0, 25, [], [])]
noncomputable def pc_145 : List (List mOp) := [pc_145_0]
/-- 146: PotAndFineModel.all(IZ)J -/
noncomputable def pc_146_0 : List mOp := [(2, 0, 2, 0, 0, 1, 1, [], []), (0, 0, 0, 0, 0, 0, 2, [], []), (21, 0, 0, 0, 0, 0, 3, [7], []), (2, 1, 0, 0, 0, 0, 4, [], []), (33, 108, 1, 0, 0, 0, 5, [], []), (17, 8, 0, 0, 0, 0, 6, [], []), (1, 0, 0, 0, (-1), 0, 7, [], []), (34, 0, 2, 0, 0, 0, 8, [], []), (2, 0, 2, 0, 0, 0, 9, [], []), (33, 138, 1, 0, 0, 0, 10, [], []), (1, 0, 0, 0, 1000000000, 0, 11, [], []), (2, 2, 0, 0, 0, 0, 12, [], []), (17, 17, 0, 0, 0, 0, 13, [], []), (2, 0, 2, 0, 0, 0, 14, [], []), (2, 1, 0, 0, 0, 0, 15, [], []), (33, 139, 2, 0, 0, 0, 16, [], []), (16, 20, 0, 0, 0, 0, 17, [], []), (2, 0, 2, 0, 0, 0, 18, [], []), (2, 1, 0, 0, 0, 0, 19, [], []), (33, 137, 2, 0, 0, 0, 20, [], []), (9, 0, 0, 0, 0, 0, 21, [], []), (34, 0, 2, 0, 0, 0, 22, [], [])]
noncomputable def pc_146 : List (List mOp) := [pc_146_0]
/-- 147: PotAndFineModel.lost(II)I -/
noncomputable def pc_147_0 : List mOp := [(2, 0, 2, 0, 0, 1, 1, [], []), (0, 0, 0, 0, 0, 0, 2, [], []), (21, 0, 0, 0, 0, 0, 3, [7], []), (2, 0, 2, 0, 0, 0, 4, [], []), (2, 1, 0, 0, 0, 0, 5, [], []), (33, 107, 2, 0, 0, 0, 6, [], []), (17, 10, 1, 0, 0, 0, 7, [], []), (2, 2, 0, 0, 0, 0, 8, [], []), (33, 108, 1, 0, 0, 0, 9, [], []), (17, 12, 0, 0, 0, 0, 10, [], []), (0, 0, 0, (-1), 0, 0, 11, [], []), (34, 0, 1, 0, 0, 0, 12, [], []), (2, 0, 2, 0, 0, 0, 13, [], []), (33, 136, 1, 0, 0, 0, 14, [], []), (0, 0, 0, 0, 0, 0, 15, [], []), (3, 3, 0, 0, 0, 0, 16, [], []), (0, 0, 0, 0, 0, 0, 17, [], []), (3, 4, 0, 0, 0, 0, 18, [], []), (2, 4, 0, 0, 0, 1, 19, [], [5]), (2, 2, 0, 0, 0, 0, 20, [], []), (18, 69, 4, 0, 0, 0, 21, [], []), (0, 0, 0, 0, 0, 0, 22, [], []), (3, 5, 0, 0, 0, 0, 23, [], []), (2, 5, 0, 0, 0, 1, 24, [], []), (2, 0, 2, 0, 0, 0, 25, [], []), (20, 23, 0, 0, 0, 0, 26, [7], []), (18, 67, 3, 0, 0, 0, 27, [], []), (2, 3, 0, 0, 0, 0, 28, [], []), (2, 0, 2, 0, 0, 0, 29, [], []), (20, 4, 1, 0, 0, 0, 30, [7], []), (0, 0, 0, 3, 0, 0, 31, [], []), (23, 0, 0, 0, 0, 0, 32, [], [])]
noncomputable def pc_147_1 : List mOp := [(2, 0, 2, 0, 0, 0, 33, [], []), (20, 26, 1, 0, 0, 0, 34, [7], []), (0, 0, 0, 36, 0, 0, 35, [], []), (2, 4, 0, 0, 0, 0, 36, [], []), (5, 0, 2, 0, 0, 0, 37, [], []), (0, 0, 0, 6, 0, 0, 38, [], []), (2, 1, 0, 0, 0, 0, 39, [], []), (5, 0, 2, 0, 0, 0, 40, [], []), (5, 0, 0, 0, 0, 0, 41, [], []), (2, 5, 0, 0, 0, 0, 42, [], []), (5, 0, 0, 0, 0, 0, 43, [], []), (23, 0, 0, 0, 0, 0, 44, [], []), (5, 0, 2, 0, 0, 0, 45, [], []), (2, 0, 2, 0, 0, 0, 46, [], []), (20, 4, 1, 0, 0, 0, 47, [7], []), (0, 0, 0, 2, 0, 0, 48, [], []), (23, 0, 0, 0, 0, 0, 49, [], []), (2, 0, 2, 0, 0, 0, 50, [], []), (20, 26, 1, 0, 0, 0, 51, [7], []), (0, 0, 0, 36, 0, 0, 52, [], []), (2, 4, 0, 0, 0, 0, 53, [], []), (5, 0, 2, 0, 0, 0, 54, [], []), (0, 0, 0, 6, 0, 0, 55, [], []), (2, 5, 0, 0, 0, 0, 56, [], []), (5, 0, 2, 0, 0, 0, 57, [], []), (5, 0, 0, 0, 0, 0, 58, [], []), (2, 1, 0, 0, 0, 0, 59, [], []), (5, 0, 0, 0, 0, 0, 60, [], []), (23, 0, 0, 0, 0, 0, 61, [], []), (5, 0, 2, 0, 0, 0, 62, [], []), (5, 0, 0, 0, 0, 0, 63, [], []), (5, 0, 0, 0, 0, 0, 64, [], [])]
noncomputable def pc_147_2 : List mOp := [(3, 3, 0, 0, 0, 0, 65, [], []), (4, 5, 0, 1, 0, 0, 66, [], []), (16, 23, 0, 0, 0, 0, 67, [], []), (4, 4, 0, 1, 0, 0, 68, [], []), (16, 18, 0, 0, 0, 0, 69, [], []), (2, 3, 0, 0, 0, 0, 70, [], []), (34, 0, 1, 0, 0, 0, 71, [], [])]
noncomputable def pc_147 : List (List mOp) := [pc_147_0, pc_147_1, pc_147_2]
/-- 148: PotAndFineModel.fall()I -/
noncomputable def pc_148_0 : List mOp := [(2, 0, 2, 0, 0, 1, 1, [], []), (0, 0, 0, 0, 0, 0, 2, [], []), (21, 0, 0, 0, 0, 0, 3, [7], []), (2, 0, 2, 0, 0, 0, 4, [], []), (33, 136, 1, 0, 0, 0, 5, [], []), (2, 0, 2, 0, 0, 0, 6, [], []), (0, 0, 0, 0, 0, 0, 7, [], []), (33, 142, 2, 0, 0, 0, 8, [], []), (3, 1, 0, 0, 0, 0, 9, [], []), (0, 0, 0, 1, 0, 0, 10, [], []), (3, 2, 0, 0, 0, 0, 11, [], []), (2, 2, 0, 0, 0, 1, 12, [], []), (0, 0, 0, 40, 0, 0, 13, [], []), (18, 27, 3, 0, 0, 0, 14, [], []), (2, 1, 0, 0, 0, 0, 15, [], []), (17, 27, 5, 0, 0, 0, 16, [], []), (0, 0, 0, 2, 0, 0, 17, [], []), (2, 0, 2, 0, 0, 0, 18, [], []), (2, 2, 0, 0, 0, 0, 19, [], []), (33, 142, 2, 0, 0, 0, 20, [], []), (5, 0, 2, 0, 0, 0, 21, [], []), (2, 1, 0, 0, 0, 0, 22, [], []), (18, 25, 4, 0, 0, 0, 23, [], []), (2, 2, 0, 0, 0, 0, 24, [], []), (34, 0, 1, 0, 0, 0, 25, [], []), (4, 2, 0, 1, 0, 0, 26, [], []), (16, 11, 0, 0, 0, 0, 27, [], []), (0, 0, 0, (-9), 0, 0, 28, [], []), (34, 0, 1, 0, 0, 0, 29, [], [])]
noncomputable def pc_148 : List (List mOp) := [pc_148_0]
/-- 149: PotAndFineModel.pays()I -/
noncomputable def pc_149_0 : List mOp := [(2, 0, 2, 0, 0, 1, 1, [], []), (0, 0, 0, 0, 0, 0, 2, [], []), (21, 0, 0, 0, 0, 0, 3, [7], []), (2, 0, 2, 0, 0, 0, 4, [], []), (33, 138, 1, 0, 0, 0, 5, [], []), (0, 0, 0, (-9), 0, 0, 6, [], []), (3, 1, 0, 0, 0, 0, 7, [], []), (0, 0, 0, 39, 0, 0, 8, [], []), (3, 2, 0, 0, 0, 0, 9, [], []), (2, 2, 0, 0, 0, 1, 10, [], []), (17, 23, 2, 0, 0, 0, 11, [], []), (2, 0, 2, 0, 0, 0, 12, [], []), (2, 2, 0, 0, 0, 0, 13, [], []), (33, 137, 2, 0, 0, 0, 14, [], []), (2, 0, 2, 0, 0, 0, 15, [], []), (2, 2, 0, 0, 0, 0, 16, [], []), (33, 139, 2, 0, 0, 0, 17, [], []), (13, 0, 0, 0, 0, 0, 18, [], []), (17, 23, 5, 0, 0, 0, 19, [], []), (2, 2, 0, 0, 0, 0, 20, [], []), (3, 1, 0, 0, 0, 0, 21, [], []), (4, 2, 0, (-1), 0, 0, 22, [], []), (16, 9, 0, 0, 0, 0, 23, [], []), (2, 1, 0, 0, 0, 0, 24, [], []), (34, 0, 1, 0, 0, 0, 25, [], [])]
noncomputable def pc_149 : List (List mOp) := [pc_149_0]
/-- 150: PotAndFineModel.vote(I)I -/
noncomputable def pc_150_0 : List mOp := [(2, 0, 2, 0, 0, 1, 1, [], []), (0, 0, 0, 0, 0, 0, 2, [], []), (21, 0, 0, 0, 0, 0, 3, [7], []), (2, 1, 0, 0, 0, 0, 4, [], []), (33, 108, 1, 0, 0, 0, 5, [], []), (17, 8, 0, 0, 0, 0, 6, [], []), (0, 0, 0, (-1), 0, 0, 7, [], []), (34, 0, 1, 0, 0, 0, 8, [], []), (2, 0, 2, 0, 0, 0, 9, [], []), (33, 138, 1, 0, 0, 0, 10, [], []), (0, 0, 0, 0, 0, 0, 11, [], []), (3, 2, 0, 0, 0, 0, 12, [], []), (0, 0, 0, 0, 0, 0, 13, [], []), (3, 3, 0, 0, 0, 0, 14, [], []), (2, 3, 0, 0, 0, 1, 15, [], []), (2, 0, 2, 0, 0, 0, 16, [], []), (20, 7, 0, 0, 0, 0, 17, [7], []), (18, 46, 3, 0, 0, 0, 18, [], []), (2, 2, 0, 0, 0, 0, 19, [], []), (2, 0, 2, 0, 0, 0, 20, [], []), (20, 27, 1, 0, 0, 0, 21, [7], []), (0, 0, 0, 6, 0, 0, 22, [], []), (2, 1, 0, 0, 0, 0, 23, [], []), (5, 0, 2, 0, 0, 0, 24, [], []), (2, 3, 0, 0, 0, 0, 25, [], []), (5, 0, 0, 0, 0, 0, 26, [], []), (24, 0, 0, 0, 0, 0, 27, [], []), (2, 0, 2, 0, 0, 0, 28, [], []), (20, 28, 1, 0, 0, 0, 29, [7], []), (0, 0, 0, 6, 0, 0, 30, [], []), (2, 1, 0, 0, 0, 0, 31, [], []), (5, 0, 2, 0, 0, 0, 32, [], [])]
noncomputable def pc_150_1 : List mOp := [(2, 3, 0, 0, 0, 0, 33, [], []), (5, 0, 0, 0, 0, 0, 34, [], []), (24, 0, 0, 0, 0, 0, 35, [], []), (13, 0, 0, 0, 0, 0, 36, [], []), (17, 41, 5, 0, 0, 0, 37, [], []), (0, 0, 0, 1, 0, 0, 38, [], []), (2, 3, 0, 0, 0, 0, 39, [], []), (5, 0, 6, 0, 0, 0, 40, [], []), (16, 42, 0, 0, 0, 0, 41, [], []), (0, 0, 0, 0, 0, 0, 42, [], []), (5, 0, 4, 0, 0, 0, 43, [], []), (3, 2, 0, 0, 0, 0, 44, [], []), (4, 3, 0, 1, 0, 0, 45, [], []), (16, 14, 0, 0, 0, 0, 46, [], []), (2, 2, 0, 0, 0, 0, 47, [], []), (34, 0, 1, 0, 0, 0, 48, [], [])]
noncomputable def pc_150 : List (List mOp) := [pc_150_0, pc_150_1]
/-- 151: PotAndFineModel.least(II)I -/
noncomputable def pc_151_0 : List mOp := [(2, 0, 2, 0, 0, 1, 1, [], []), (0, 0, 0, 0, 0, 0, 2, [], []), (21, 0, 0, 0, 0, 0, 3, [7], []), (2, 1, 0, 0, 0, 0, 4, [], []), (33, 108, 1, 0, 0, 0, 5, [], []), (17, 8, 0, 0, 0, 0, 6, [], []), (0, 0, 0, (-1), 0, 0, 7, [], []), (34, 0, 1, 0, 0, 0, 8, [], []), (2, 2, 0, 0, 0, 0, 9, [], []), (12, 0, 0, 0, 0, 0, 10, [], []), (1, 0, 0, 0, 0, 0, 11, [], []), (1, 0, 0, 0, 20, 0, 12, [], []), (33, 105, 3, 0, 0, 0, 13, [], []), (17, 16, 1, 0, 0, 0, 14, [], []), (0, 0, 0, (-2), 0, 0, 15, [], []), (34, 0, 1, 0, 0, 0, 16, [], []), (2, 0, 2, 0, 0, 0, 17, [], []), (20, 4, 1, 0, 0, 0, 18, [7], []), (0, 0, 0, 2, 0, 0, 19, [], []), (23, 0, 0, 0, 0, 0, 20, [], []), (3, 3, 0, 0, 0, 0, 21, [], []), (0, 0, 0, (-9), 0, 0, 22, [], []), (3, 4, 0, 0, 0, 0, 23, [], []), (0, 0, 0, 9, 0, 0, 24, [], []), (3, 5, 0, 0, 0, 0, 25, [], []), (2, 5, 0, 0, 0, 1, 26, [], []), (17, 49, 2, 0, 0, 0, 27, [], []), (2, 0, 2, 0, 0, 0, 28, [], []), (20, 4, 1, 0, 0, 0, 29, [7], []), (0, 0, 0, 2, 0, 0, 30, [], []), (2, 5, 0, 0, 0, 0, 31, [], []), (26, 0, 0, 0, 0, 0, 32, [], [])]
noncomputable def pc_151_1 : List mOp := [(2, 0, 2, 0, 0, 0, 33, [], []), (33, 136, 1, 0, 0, 0, 34, [], []), (2, 0, 2, 0, 0, 0, 35, [], []), (2, 1, 0, 0, 0, 0, 36, [], []), (33, 142, 2, 0, 0, 0, 37, [], []), (2, 2, 0, 0, 0, 0, 38, [], []), (2, 0, 2, 0, 0, 0, 39, [], []), (2, 1, 0, 0, 0, 0, 40, [], []), (33, 126, 2, 0, 0, 0, 41, [], []), (5, 0, 2, 0, 0, 0, 42, [], []), (18, 45, 2, 0, 0, 0, 43, [], []), (2, 5, 0, 0, 0, 0, 44, [], []), (16, 46, 0, 0, 0, 0, 45, [], []), (2, 4, 0, 0, 0, 0, 46, [], []), (3, 4, 0, 0, 0, 0, 47, [], []), (4, 5, 0, (-1), 0, 0, 48, [], []), (16, 25, 0, 0, 0, 0, 49, [], []), (2, 0, 2, 0, 0, 0, 50, [], []), (20, 4, 1, 0, 0, 0, 51, [7], []), (0, 0, 0, 2, 0, 0, 52, [], []), (2, 3, 0, 0, 0, 0, 53, [], []), (26, 0, 0, 0, 0, 0, 54, [], []), (2, 4, 0, 0, 0, 0, 55, [], []), (34, 0, 1, 0, 0, 0, 56, [], [])]
noncomputable def pc_151 : List (List mOp) := [pc_151_0, pc_151_1]
/-- 152: PotAndFineModel.leadBy(I)J -/
noncomputable def pc_152_0 : List mOp := [(2, 0, 2, 0, 0, 1, 1, [], []), (20, 15, 1, 0, 0, 0, 2, [7], []), (0, 0, 0, 40, 0, 0, 3, [], []), (2, 1, 0, 0, 0, 0, 4, [], []), (5, 0, 2, 0, 0, 0, 5, [], []), (23, 0, 0, 0, 0, 0, 6, [], []), (3, 2, 0, 0, 0, 0, 7, [], []), (2, 0, 2, 0, 0, 0, 8, [], []), (20, 15, 1, 0, 0, 0, 9, [7], []), (0, 0, 0, 40, 0, 0, 10, [], []), (2, 1, 0, 0, 0, 0, 11, [], []), (5, 0, 2, 0, 0, 0, 12, [], []), (0, 0, 0, 20, 0, 0, 13, [], []), (26, 0, 0, 0, 0, 0, 14, [], []), (2, 0, 2, 0, 0, 0, 15, [], []), (33, 136, 1, 0, 0, 0, 16, [], []), (2, 0, 2, 0, 0, 0, 17, [], []), (20, 15, 1, 0, 0, 0, 18, [7], []), (0, 0, 0, 40, 0, 0, 19, [], []), (2, 1, 0, 0, 0, 0, 20, [], []), (5, 0, 2, 0, 0, 0, 21, [], []), (2, 2, 0, 0, 0, 0, 22, [], []), (26, 0, 0, 0, 0, 0, 23, [], []), (2, 0, 2, 0, 0, 0, 24, [], []), (0, 0, 0, 39, 0, 0, 25, [], []), (33, 137, 2, 0, 0, 0, 26, [], []), (34, 0, 2, 0, 0, 0, 27, [], [])]
noncomputable def pc_152 : List (List mOp) := [pc_152_0]
/-- 153: PotAndFineModel.findLeader()I -/
noncomputable def pc_153_0 : List mOp := [(0, 0, 0, 0, 0, 1, 1, [], []), (3, 1, 0, 0, 0, 0, 2, [], []), (1, 0, 0, 0, 0, 0, 3, [], []), (3, 2, 1, 0, 0, 0, 4, [], []), (0, 0, 0, 0, 0, 0, 5, [], []), (3, 4, 0, 0, 0, 0, 6, [], []), (2, 4, 0, 0, 0, 1, 7, [], [3, 5, 6]), (2, 0, 2, 0, 0, 0, 8, [], []), (20, 7, 0, 0, 0, 0, 9, [7], []), (18, 26, 3, 0, 0, 0, 10, [], []), (2, 0, 2, 0, 0, 0, 11, [], []), (2, 4, 0, 0, 0, 0, 12, [], []), (33, 152, 2, 0, 0, 0, 13, [], []), (3, 5, 1, 0, 0, 0, 14, [], []), (2, 4, 0, 0, 0, 0, 15, [], []), (17, 20, 0, 0, 0, 0, 16, [], []), (2, 5, 1, 0, 0, 0, 17, [], []), (2, 2, 1, 0, 0, 0, 18, [], []), (13, 0, 0, 0, 0, 0, 19, [], []), (17, 24, 5, 0, 0, 0, 20, [], []), (2, 5, 1, 0, 0, 0, 21, [], []), (3, 2, 1, 0, 0, 0, 22, [], []), (2, 4, 0, 0, 0, 0, 23, [], []), (3, 1, 0, 0, 0, 0, 24, [], []), (4, 4, 0, 1, 0, 0, 25, [], []), (16, 6, 0, 0, 0, 0, 26, [], []), (2, 1, 0, 0, 0, 0, 27, [], []), (34, 0, 1, 0, 0, 0, 28, [], [])]
noncomputable def pc_153 : List (List mOp) := [pc_153_0]
/-- 154: PotAndFineModel.leader()I -/
noncomputable def pc_154_0 : List mOp := [(2, 0, 2, 0, 0, 1, 1, [], []), (0, 0, 0, 0, 0, 0, 2, [], []), (21, 0, 0, 0, 0, 0, 3, [7], []), (2, 0, 2, 0, 0, 0, 4, [], []), (33, 153, 1, 0, 0, 0, 5, [], []), (34, 0, 1, 0, 0, 0, 6, [], [])]
noncomputable def pc_154 : List (List mOp) := [pc_154_0]
/-- 155: PotAndFineModel.led()J -/
noncomputable def pc_155_0 : List mOp := [(2, 0, 2, 0, 0, 1, 1, [], []), (0, 0, 0, 0, 0, 0, 2, [], []), (21, 0, 0, 0, 0, 0, 3, [7], []), (1, 0, 0, 0, 1000000000, 0, 4, [], []), (2, 0, 2, 0, 0, 0, 5, [], []), (2, 0, 2, 0, 0, 0, 6, [], []), (33, 153, 1, 0, 0, 0, 7, [], []), (33, 152, 2, 0, 0, 0, 8, [], []), (9, 0, 0, 0, 0, 0, 9, [], []), (34, 0, 2, 0, 0, 0, 10, [], [])]
noncomputable def pc_155 : List (List mOp) := [pc_155_0]
/-- 156: PotAndFineModel.isFew(I)Z -/
noncomputable def pc_156_0 : List mOp := [(2, 0, 2, 0, 0, 1, 1, [], []), (20, 16, 1, 0, 0, 0, 2, [7], []), (2, 1, 0, 0, 0, 0, 3, [], []), (23, 0, 0, 0, 0, 0, 4, [], []), (3, 2, 0, 0, 0, 0, 5, [], []), (2, 0, 2, 0, 0, 0, 6, [], []), (20, 16, 1, 0, 0, 0, 7, [7], []), (2, 1, 0, 0, 0, 0, 8, [], []), (0, 0, 0, 0, 0, 0, 9, [], []), (26, 0, 0, 0, 0, 0, 10, [], []), (2, 0, 2, 0, 0, 0, 11, [], []), (33, 122, 1, 0, 0, 0, 12, [], []), (0, 0, 0, 2, 0, 0, 13, [], []), (18, 16, 3, 0, 0, 0, 14, [], []), (0, 0, 0, 1, 0, 0, 15, [], []), (16, 17, 0, 0, 0, 0, 16, [], []), (0, 0, 0, 0, 0, 0, 17, [], []), (3, 3, 0, 0, 0, 0, 18, [], []), (2, 0, 2, 0, 0, 0, 19, [], []), (20, 16, 1, 0, 0, 0, 20, [7], []), (2, 1, 0, 0, 0, 0, 21, [], []), (2, 2, 0, 0, 0, 0, 22, [], []), (26, 0, 0, 0, 0, 0, 23, [], []), (2, 3, 0, 0, 0, 0, 24, [], []), (34, 0, 4, 0, 0, 0, 25, [], [])]
noncomputable def pc_156 : List (List mOp) := [pc_156_0]
/-- 157: PotAndFineModel.withoutOne(I)J -/
noncomputable def pc_157_0 : List mOp := [(2, 0, 2, 0, 0, 1, 1, [], []), (20, 16, 1, 0, 0, 0, 2, [7], []), (2, 1, 0, 0, 0, 0, 3, [], []), (23, 0, 0, 0, 0, 0, 4, [], []), (3, 2, 0, 0, 0, 0, 5, [], []), (2, 0, 2, 0, 0, 0, 6, [], []), (20, 16, 1, 0, 0, 0, 7, [7], []), (2, 1, 0, 0, 0, 0, 8, [], []), (0, 0, 0, 0, 0, 0, 9, [], []), (26, 0, 0, 0, 0, 0, 10, [], []), (2, 0, 2, 0, 0, 0, 11, [], []), (33, 136, 1, 0, 0, 0, 12, [], []), (2, 0, 2, 0, 0, 0, 13, [], []), (20, 16, 1, 0, 0, 0, 14, [7], []), (2, 1, 0, 0, 0, 0, 15, [], []), (2, 2, 0, 0, 0, 0, 16, [], []), (26, 0, 0, 0, 0, 0, 17, [], []), (2, 0, 2, 0, 0, 0, 18, [], []), (0, 0, 0, 39, 0, 0, 19, [], []), (33, 137, 2, 0, 0, 0, 20, [], []), (2, 0, 2, 0, 0, 0, 21, [], []), (20, 27, 1, 0, 0, 0, 22, [7], []), (0, 0, 0, 234, 0, 0, 23, [], []), (2, 1, 0, 0, 0, 0, 24, [], []), (5, 0, 0, 0, 0, 0, 25, [], []), (24, 0, 0, 0, 0, 0, 26, [], []), (9, 0, 1, 0, 0, 0, 27, [], []), (34, 0, 2, 0, 0, 0, 28, [], [])]
noncomputable def pc_157 : List (List mOp) := [pc_157_0]
/-- 158: PotAndFineModel.whom()I -/
noncomputable def pc_158_0 : List mOp := [(2, 0, 2, 0, 0, 1, 1, [], []), (0, 0, 0, 0, 0, 0, 2, [], []), (21, 0, 0, 0, 0, 0, 3, [7], []), (0, 0, 0, (-3), 0, 0, 4, [], []), (3, 1, 0, 0, 0, 0, 5, [], []), (1, 0, 0, 0, 0, 0, 6, [], []), (3, 2, 1, 0, 0, 0, 7, [], []), (0, 0, 0, 0, 0, 0, 8, [], []), (3, 4, 0, 0, 0, 0, 9, [], []), (2, 4, 0, 0, 0, 1, 10, [], [3, 5, 6]), (2, 0, 2, 0, 0, 0, 11, [], []), (20, 7, 0, 0, 0, 0, 12, [7], []), (18, 40, 3, 0, 0, 0, 13, [], []), (2, 0, 2, 0, 0, 0, 14, [], []), (2, 4, 0, 0, 0, 0, 15, [], []), (33, 156, 2, 0, 0, 0, 16, [], []), (17, 19, 0, 0, 0, 0, 17, [], []), (1, 0, 0, 0, 0, 0, 18, [], []), (16, 22, 0, 0, 0, 0, 19, [], []), (2, 0, 2, 0, 0, 0, 20, [], []), (2, 4, 0, 0, 0, 0, 21, [], []), (33, 157, 2, 0, 0, 0, 22, [], []), (3, 5, 1, 0, 0, 1, 23, [], [3, 5, 6]), (2, 0, 2, 0, 0, 0, 24, [], []), (2, 4, 0, 0, 0, 0, 25, [], []), (33, 156, 2, 0, 0, 0, 26, [], []), (17, 38, 1, 0, 0, 0, 27, [], []), (2, 1, 0, 0, 0, 0, 28, [], []), (0, 0, 0, (-3), 0, 0, 29, [], []), (18, 34, 0, 0, 0, 0, 30, [], []), (2, 5, 1, 0, 0, 0, 31, [], []), (2, 2, 1, 0, 0, 0, 32, [], [])]
noncomputable def pc_158_1 : List mOp := [(13, 0, 0, 0, 0, 0, 33, [], []), (17, 38, 5, 0, 0, 0, 34, [], []), (2, 5, 1, 0, 0, 1, 35, [], [1, 2, 3, 6]), (3, 2, 1, 0, 0, 0, 36, [], []), (2, 4, 0, 0, 0, 0, 37, [], []), (3, 1, 0, 0, 0, 0, 38, [], []), (4, 4, 0, 1, 0, 1, 39, [], [3, 5, 6]), (16, 9, 0, 0, 0, 0, 40, [], []), (2, 1, 0, 0, 0, 0, 41, [], []), (34, 0, 1, 0, 0, 0, 42, [], [])]
noncomputable def pc_158 : List (List mOp) := [pc_158_0, pc_158_1]
/-- 159: PotAndFineModel.without(I)J -/
noncomputable def pc_159_0 : List mOp := [(2, 0, 2, 0, 0, 1, 1, [], []), (0, 0, 0, 0, 0, 0, 2, [], []), (21, 0, 0, 0, 0, 0, 3, [7], []), (2, 0, 2, 0, 0, 0, 4, [], []), (2, 1, 0, 0, 0, 0, 5, [], []), (33, 107, 2, 0, 0, 0, 6, [], []), (17, 9, 0, 0, 0, 0, 7, [], []), (1, 0, 0, 0, (-1), 0, 8, [], []), (34, 0, 2, 0, 0, 0, 9, [], []), (2, 0, 2, 0, 0, 0, 10, [], []), (2, 1, 0, 0, 0, 0, 11, [], []), (33, 156, 2, 0, 0, 0, 12, [], []), (17, 15, 0, 0, 0, 0, 13, [], []), (1, 0, 0, 0, (-3), 0, 14, [], []), (16, 20, 0, 0, 0, 0, 15, [], []), (1, 0, 0, 0, 1000000000, 0, 16, [], []), (2, 0, 2, 0, 0, 0, 17, [], []), (2, 1, 0, 0, 0, 0, 18, [], []), (33, 157, 2, 0, 0, 0, 19, [], []), (9, 0, 0, 0, 0, 0, 20, [], []), (34, 0, 2, 0, 0, 0, 21, [], [])]
noncomputable def pc_159 : List (List mOp) := [pc_159_0]
/-- 160: PotAndFineModel.halfBy(I)J -/
noncomputable def pc_160_0 : List mOp := [(2, 0, 2, 0, 0, 1, 1, [], []), (0, 0, 0, 0, 0, 0, 2, [], []), (21, 23, 0, 0, 0, 0, 3, [7], []), (2, 0, 2, 0, 0, 0, 4, [], []), (39, 24, 0, 1, 0, 0, 5, [7], []), (0, 0, 0, 0, 0, 0, 6, [], []), (3, 2, 0, 0, 0, 0, 7, [], []), (2, 2, 0, 0, 0, 1, 8, [], []), (2, 0, 2, 0, 0, 0, 9, [], []), (20, 7, 0, 0, 0, 0, 10, [7], []), (18, 32, 3, 0, 0, 0, 11, [], []), (2, 1, 0, 0, 0, 0, 12, [], []), (2, 2, 0, 0, 0, 0, 13, [], []), (5, 0, 7, 0, 0, 0, 14, [], []), (0, 0, 0, 1, 0, 0, 15, [], []), (5, 0, 3, 0, 0, 0, 16, [], []), (0, 0, 0, 1, 0, 0, 17, [], []), (18, 30, 1, 0, 0, 0, 18, [], []), (2, 0, 2, 0, 0, 0, 19, [], []), (20, 22, 1, 0, 0, 0, 20, [7], []), (2, 0, 2, 0, 0, 0, 21, [], []), (20, 23, 0, 0, 0, 0, 22, [7], []), (2, 2, 0, 0, 0, 0, 23, [], []), (26, 0, 0, 0, 0, 0, 24, [], []), (2, 0, 2, 0, 0, 0, 25, [], []), (14, 0, 0, 0, 0, 0, 26, [], []), (20, 23, 0, 0, 0, 0, 27, [7], []), (0, 0, 0, 1, 0, 0, 28, [], []), (5, 0, 0, 0, 0, 0, 29, [], []), (21, 23, 0, 0, 0, 0, 30, [7], []), (4, 2, 0, 1, 0, 0, 31, [], []), (16, 7, 0, 0, 0, 0, 32, [], [])]
noncomputable def pc_160_1 : List mOp := [(2, 0, 2, 0, 0, 0, 33, [], []), (33, 135, 1, 0, 0, 0, 34, [], []), (2, 0, 2, 0, 0, 0, 35, [], []), (0, 0, 0, 39, 0, 0, 36, [], []), (33, 137, 2, 0, 0, 0, 37, [], []), (34, 0, 2, 0, 0, 0, 38, [], [])]
noncomputable def pc_160 : List (List mOp) := [pc_160_0, pc_160_1]
/-- 161: PotAndFineModel.bits(I)I -/
noncomputable def pc_161_0 : List mOp := [(0, 0, 0, 0, 0, 1, 1, [], []), (3, 1, 0, 0, 0, 0, 2, [], []), (0, 0, 0, 0, 0, 0, 3, [], []), (3, 2, 0, 0, 0, 0, 4, [], []), (2, 2, 0, 0, 0, 1, 5, [], []), (0, 0, 0, 6, 0, 0, 6, [], []), (18, 17, 3, 0, 0, 0, 7, [], []), (2, 1, 0, 0, 0, 0, 8, [], []), (2, 0, 0, 0, 0, 0, 9, [], []), (2, 2, 0, 0, 0, 0, 10, [], []), (5, 0, 7, 0, 0, 0, 11, [], []), (0, 0, 0, 1, 0, 0, 12, [], []), (5, 0, 3, 0, 0, 0, 13, [], []), (5, 0, 0, 0, 0, 0, 14, [], []), (3, 1, 0, 0, 0, 0, 15, [], []), (4, 2, 0, 1, 0, 0, 16, [], []), (16, 4, 0, 0, 0, 0, 17, [], []), (2, 1, 0, 0, 0, 0, 18, [], []), (34, 0, 1, 0, 0, 0, 19, [], [])]
noncomputable def pc_161 : List (List mOp) := [pc_161_0]
/-- 162: PotAndFineModel.partBy(I)J -/
noncomputable def pc_162_0 : List mOp := [(2, 0, 2, 0, 0, 1, 1, [], []), (2, 1, 0, 0, 0, 0, 2, [], []), (33, 160, 2, 0, 0, 0, 3, [], []), (2, 0, 2, 0, 0, 0, 4, [], []), (0, 0, 0, 1, 0, 0, 5, [], []), (2, 0, 2, 0, 0, 0, 6, [], []), (20, 7, 0, 0, 0, 0, 7, [7], []), (5, 0, 6, 0, 0, 0, 8, [], []), (0, 0, 0, 1, 0, 0, 9, [], []), (5, 0, 1, 0, 0, 0, 10, [], []), (2, 1, 0, 0, 0, 0, 11, [], []), (0, 0, 0, (-1), 0, 0, 12, [], []), (5, 0, 5, 0, 0, 0, 13, [], []), (5, 0, 3, 0, 0, 0, 14, [], []), (33, 160, 2, 0, 0, 0, 15, [], []), (9, 0, 0, 0, 0, 0, 16, [], []), (34, 0, 2, 0, 0, 0, 17, [], [])]
noncomputable def pc_162 : List (List mOp) := [pc_162_0]
/-- 163: PotAndFineModel.findPart()I -/
noncomputable def pc_163_0 : List mOp := [(0, 0, 0, 0, 0, 1, 1, [], []), (3, 1, 0, 0, 0, 0, 2, [], []), (1, 0, 0, 0, 0, 0, 3, [], []), (3, 2, 1, 0, 0, 0, 4, [], []), (0, 0, 0, 1, 0, 0, 5, [], []), (3, 4, 0, 0, 0, 0, 6, [], []), (2, 4, 0, 0, 0, 1, 7, [], [3, 5, 6]), (0, 0, 0, 1, 0, 0, 8, [], []), (2, 0, 2, 0, 0, 0, 9, [], []), (20, 7, 0, 0, 0, 0, 10, [7], []), (5, 0, 6, 0, 0, 0, 11, [], []), (18, 35, 3, 0, 0, 0, 12, [], []), (2, 4, 0, 0, 0, 0, 13, [], []), (33, 161, 1, 0, 0, 0, 14, [], []), (0, 0, 0, 2, 0, 0, 15, [], []), (5, 0, 2, 0, 0, 0, 16, [], []), (2, 0, 2, 0, 0, 0, 17, [], []), (20, 7, 0, 0, 0, 0, 18, [7], []), (18, 33, 1, 0, 0, 0, 19, [], []), (2, 0, 2, 0, 0, 0, 20, [], []), (2, 4, 0, 0, 0, 0, 21, [], []), (33, 162, 2, 0, 0, 0, 22, [], []), (3, 5, 1, 0, 0, 0, 23, [], []), (2, 1, 0, 0, 0, 0, 24, [], []), (17, 29, 0, 0, 0, 0, 25, [], []), (2, 5, 1, 0, 0, 0, 26, [], []), (2, 2, 1, 0, 0, 0, 27, [], []), (13, 0, 0, 0, 0, 0, 28, [], []), (17, 33, 5, 0, 0, 0, 29, [], []), (2, 5, 1, 0, 0, 0, 30, [], []), (3, 2, 1, 0, 0, 0, 31, [], []), (2, 4, 0, 0, 0, 0, 32, [], [])]
noncomputable def pc_163_1 : List mOp := [(3, 1, 0, 0, 0, 0, 33, [], []), (4, 4, 0, 2, 0, 0, 34, [], []), (16, 6, 0, 0, 0, 0, 35, [], []), (2, 1, 0, 0, 0, 0, 36, [], []), (34, 0, 1, 0, 0, 0, 37, [], [])]
noncomputable def pc_163 : List (List mOp) := [pc_163_0, pc_163_1]
/-- 164: PotAndFineModel.noHalves()Z -/
noncomputable def pc_164_0 : List mOp := [(2, 0, 2, 0, 0, 1, 1, [], []), (20, 7, 0, 0, 0, 0, 2, [7], []), (0, 0, 0, 4, 0, 0, 3, [], []), (18, 10, 0, 0, 0, 0, 4, [], []), (2, 0, 2, 0, 0, 0, 5, [], []), (20, 7, 0, 0, 0, 0, 6, [7], []), (0, 0, 0, 6, 0, 0, 7, [], []), (18, 10, 0, 0, 0, 0, 8, [], []), (0, 0, 0, 1, 0, 0, 9, [], []), (16, 11, 0, 0, 0, 0, 10, [], []), (0, 0, 0, 0, 0, 0, 11, [], []), (34, 0, 4, 0, 0, 0, 12, [], [])]
noncomputable def pc_164 : List (List mOp) := [pc_164_0]
/-- 165: PotAndFineModel.part()I -/
noncomputable def pc_165_0 : List mOp := [(2, 0, 2, 0, 0, 1, 1, [], []), (0, 0, 0, 0, 0, 0, 2, [], []), (21, 0, 0, 0, 0, 0, 3, [7], []), (2, 0, 2, 0, 0, 0, 4, [], []), (33, 164, 1, 0, 0, 0, 5, [], []), (17, 8, 0, 0, 0, 0, 6, [], []), (0, 0, 0, (-3), 0, 0, 7, [], []), (16, 10, 0, 0, 0, 0, 8, [], []), (2, 0, 2, 0, 0, 0, 9, [], []), (33, 163, 1, 0, 0, 0, 10, [], []), (34, 0, 1, 0, 0, 0, 11, [], [])]
noncomputable def pc_165 : List (List mOp) := [pc_165_0]
/-- 166: PotAndFineModel.parted()J -/
noncomputable def pc_166_0 : List mOp := [(2, 0, 2, 0, 0, 1, 1, [], []), (0, 0, 0, 0, 0, 0, 2, [], []), (21, 0, 0, 0, 0, 0, 3, [7], []), (2, 0, 2, 0, 0, 0, 4, [], []), (33, 164, 1, 0, 0, 0, 5, [], []), (17, 8, 0, 0, 0, 0, 6, [], []), (1, 0, 0, 0, (-3), 0, 7, [], []), (16, 14, 0, 0, 0, 0, 8, [], []), (1, 0, 0, 0, 1000000000, 0, 9, [], []), (2, 0, 2, 0, 0, 0, 10, [], []), (2, 0, 2, 0, 0, 0, 11, [], []), (33, 163, 1, 0, 0, 0, 12, [], []), (33, 162, 2, 0, 0, 0, 13, [], []), (9, 0, 0, 0, 0, 0, 14, [], []), (34, 0, 2, 0, 0, 0, 15, [], [])]
noncomputable def pc_166 : List (List mOp) := [pc_166_0]
/-- 167: PotAndFineModel.gainBy(III)J -/
noncomputable def pc_167_0 : List mOp := [(0, 0, 0, 0, 0, 1, 1, [], []), (3, 4, 0, 0, 0, 0, 2, [], []), (2, 4, 0, 0, 0, 1, 3, [], []), (2, 0, 2, 0, 0, 0, 4, [], []), (20, 23, 0, 0, 0, 0, 5, [7], []), (18, 20, 3, 0, 0, 0, 6, [], []), (2, 0, 2, 0, 0, 0, 7, [], []), (20, 29, 1, 0, 0, 0, 8, [7], []), (2, 4, 0, 0, 0, 0, 9, [], []), (2, 0, 2, 0, 0, 0, 10, [], []), (20, 25, 1, 0, 0, 0, 11, [7], []), (0, 0, 0, 6, 0, 0, 12, [], []), (2, 2, 0, 0, 0, 0, 13, [], []), (5, 0, 2, 0, 0, 0, 14, [], []), (2, 4, 0, 0, 0, 0, 15, [], []), (5, 0, 0, 0, 0, 0, 16, [], []), (23, 0, 0, 0, 0, 0, 17, [], []), (26, 0, 0, 0, 0, 0, 18, [], []), (4, 4, 0, 1, 0, 0, 19, [], []), (16, 2, 0, 0, 0, 0, 20, [], []), (2, 0, 2, 0, 0, 0, 21, [], []), (20, 29, 1, 0, 0, 0, 22, [7], []), (2, 1, 0, 0, 0, 0, 23, [], []), (2, 3, 0, 0, 0, 0, 24, [], []), (26, 0, 0, 0, 0, 0, 25, [], []), (2, 0, 2, 0, 0, 0, 26, [], []), (2, 2, 0, 0, 0, 0, 27, [], []), (33, 131, 2, 0, 0, 0, 28, [], []), (2, 0, 2, 0, 0, 0, 29, [], []), (2, 1, 0, 0, 0, 0, 30, [], []), (2, 2, 0, 0, 0, 0, 31, [], []), (33, 134, 3, 0, 0, 0, 32, [], [])]
noncomputable def pc_167_1 : List mOp := [(34, 0, 2, 0, 0, 0, 33, [], [])]
noncomputable def pc_167 : List (List mOp) := [pc_167_0, pc_167_1]
/-- 168: PotAndFineModel.replyOf(II)I -/
noncomputable def pc_168_0 : List mOp := [(0, 0, 0, 0, 0, 1, 1, [], []), (3, 3, 0, 0, 0, 0, 2, [], []), (2, 0, 2, 0, 0, 0, 3, [], []), (2, 1, 0, 0, 0, 0, 4, [], []), (2, 2, 0, 0, 0, 0, 5, [], []), (0, 0, 0, 0, 0, 0, 6, [], []), (33, 167, 4, 0, 0, 0, 7, [], []), (3, 4, 1, 0, 0, 0, 8, [], []), (0, 0, 0, 1, 0, 0, 9, [], []), (3, 6, 0, 0, 0, 0, 10, [], []), (2, 6, 0, 0, 0, 1, 11, [], [5, 7, 8]), (2, 0, 2, 0, 0, 0, 12, [], []), (20, 4, 1, 0, 0, 0, 13, [7], []), (0, 0, 0, 0, 0, 0, 14, [], []), (23, 0, 0, 0, 0, 0, 15, [], []), (18, 32, 4, 0, 0, 0, 16, [], []), (2, 0, 2, 0, 0, 0, 17, [], []), (2, 1, 0, 0, 0, 0, 18, [], []), (2, 2, 0, 0, 0, 0, 19, [], []), (2, 6, 0, 0, 0, 0, 20, [], []), (33, 167, 4, 0, 0, 0, 21, [], []), (3, 7, 1, 0, 0, 0, 22, [], []), (2, 7, 1, 0, 0, 0, 23, [], []), (2, 4, 1, 0, 0, 0, 24, [], []), (13, 0, 0, 0, 0, 0, 25, [], []), (17, 30, 5, 0, 0, 0, 26, [], []), (2, 7, 1, 0, 0, 0, 27, [], []), (3, 4, 1, 0, 0, 0, 28, [], []), (2, 6, 0, 0, 0, 0, 29, [], []), (3, 3, 0, 0, 0, 0, 30, [], []), (4, 6, 0, 1, 0, 0, 31, [], []), (16, 10, 0, 0, 0, 0, 32, [], [])]
noncomputable def pc_168_1 : List mOp := [(2, 3, 0, 0, 0, 0, 33, [], []), (34, 0, 1, 0, 0, 0, 34, [], [])]
noncomputable def pc_168 : List (List mOp) := [pc_168_0, pc_168_1]
/-- 169: PotAndFineModel.reply(II)I -/
noncomputable def pc_169_0 : List mOp := [(2, 0, 2, 0, 0, 1, 1, [], []), (0, 0, 0, 0, 0, 0, 2, [], []), (21, 0, 0, 0, 0, 0, 3, [7], []), (2, 0, 2, 0, 0, 0, 4, [], []), (2, 1, 0, 0, 0, 0, 5, [], []), (33, 107, 2, 0, 0, 0, 6, [], []), (17, 10, 1, 0, 0, 0, 7, [], []), (2, 2, 0, 0, 0, 0, 8, [], []), (33, 108, 1, 0, 0, 0, 9, [], []), (17, 12, 0, 0, 0, 0, 10, [], []), (0, 0, 0, (-1), 0, 0, 11, [], []), (34, 0, 1, 0, 0, 0, 12, [], []), (2, 0, 2, 0, 0, 0, 13, [], []), (33, 136, 1, 0, 0, 0, 14, [], []), (2, 0, 2, 0, 0, 0, 15, [], []), (2, 1, 0, 0, 0, 0, 16, [], []), (2, 2, 0, 0, 0, 0, 17, [], []), (33, 125, 3, 0, 0, 0, 18, [], []), (17, 24, 0, 0, 0, 0, 19, [], []), (2, 0, 2, 0, 0, 0, 20, [], []), (2, 1, 0, 0, 0, 0, 21, [], []), (2, 2, 0, 0, 0, 0, 22, [], []), (33, 168, 3, 0, 0, 0, 23, [], []), (16, 25, 0, 0, 0, 0, 24, [], []), (0, 0, 0, (-3), 0, 0, 25, [], []), (34, 0, 1, 0, 0, 0, 26, [], [])]
noncomputable def pc_169 : List (List mOp) := [pc_169_0]
/-- 170: PotAndFineModel.gain(III)J -/
noncomputable def pc_170_0 : List mOp := [(2, 0, 2, 0, 0, 1, 1, [], []), (0, 0, 0, 0, 0, 0, 2, [], []), (21, 0, 0, 0, 0, 0, 3, [7], []), (2, 0, 2, 0, 0, 0, 4, [], []), (2, 1, 0, 0, 0, 0, 5, [], []), (33, 107, 2, 0, 0, 0, 6, [], []), (17, 10, 1, 0, 0, 0, 7, [], []), (2, 2, 0, 0, 0, 0, 8, [], []), (33, 108, 1, 0, 0, 0, 9, [], []), (17, 12, 0, 0, 0, 0, 10, [], []), (1, 0, 0, 0, (-1), 0, 11, [], []), (34, 0, 2, 0, 0, 0, 12, [], []), (2, 3, 0, 0, 0, 0, 13, [], []), (12, 0, 0, 0, 0, 0, 14, [], []), (1, 0, 0, 0, 0, 0, 15, [], []), (2, 0, 2, 0, 0, 0, 16, [], []), (20, 4, 1, 0, 0, 0, 17, [7], []), (0, 0, 0, 0, 0, 0, 18, [], []), (23, 0, 0, 0, 0, 0, 19, [], []), (12, 0, 0, 0, 0, 0, 20, [], []), (33, 105, 3, 0, 0, 0, 21, [], []), (17, 24, 1, 0, 0, 0, 22, [], []), (1, 0, 0, 0, (-2), 0, 23, [], []), (34, 0, 2, 0, 0, 0, 24, [], []), (2, 0, 2, 0, 0, 0, 25, [], []), (33, 136, 1, 0, 0, 0, 26, [], []), (2, 0, 2, 0, 0, 0, 27, [], []), (2, 1, 0, 0, 0, 0, 28, [], []), (2, 2, 0, 0, 0, 0, 29, [], []), (33, 125, 3, 0, 0, 0, 30, [], []), (17, 39, 0, 0, 0, 0, 31, [], []), (1, 0, 0, 0, 1000000000, 0, 32, [], [])]
noncomputable def pc_170_1 : List mOp := [(2, 0, 2, 0, 0, 0, 33, [], []), (2, 1, 0, 0, 0, 0, 34, [], []), (2, 2, 0, 0, 0, 0, 35, [], []), (2, 3, 0, 0, 0, 0, 36, [], []), (33, 167, 4, 0, 0, 0, 37, [], []), (9, 0, 0, 0, 0, 0, 38, [], []), (16, 40, 0, 0, 0, 0, 39, [], []), (1, 0, 0, 0, (-3), 0, 40, [], []), (34, 0, 2, 0, 0, 0, 41, [], [])]
noncomputable def pc_170 : List (List mOp) := [pc_170_0, pc_170_1]
/-- 171: PotAndFineModel.rest(I)I -/
noncomputable def pc_171_0 : List mOp := [(2, 0, 2, 0, 0, 1, 1, [], []), (0, 0, 0, 0, 0, 0, 2, [], []), (21, 0, 0, 0, 0, 0, 3, [7], []), (2, 1, 0, 0, 0, 0, 4, [], []), (33, 108, 1, 0, 0, 0, 5, [], []), (17, 8, 0, 0, 0, 0, 6, [], []), (0, 0, 0, (-1), 0, 0, 7, [], []), (34, 0, 1, 0, 0, 0, 8, [], []), (2, 0, 2, 0, 0, 0, 9, [], []), (33, 136, 1, 0, 0, 0, 10, [], []), (0, 0, 0, 1, 0, 0, 11, [], []), (3, 2, 0, 0, 0, 0, 12, [], []), (0, 0, 0, 0, 0, 0, 13, [], []), (3, 3, 0, 0, 0, 0, 14, [], []), (2, 3, 0, 0, 0, 1, 15, [], []), (2, 0, 2, 0, 0, 0, 16, [], []), (20, 7, 0, 0, 0, 0, 17, [7], []), (18, 53, 3, 0, 0, 0, 18, [], []), (2, 0, 2, 0, 0, 0, 19, [], []), (2, 3, 0, 0, 0, 0, 20, [], []), (2, 1, 0, 0, 0, 0, 21, [], []), (33, 125, 3, 0, 0, 0, 22, [], []), (17, 51, 0, 0, 0, 0, 23, [], []), (2, 2, 0, 0, 0, 0, 24, [], []), (17, 49, 0, 0, 0, 0, 25, [], []), (2, 0, 2, 0, 0, 0, 26, [], []), (2, 3, 0, 0, 0, 0, 27, [], []), (2, 1, 0, 0, 0, 0, 28, [], []), (2, 0, 2, 0, 0, 0, 29, [], []), (20, 25, 1, 0, 0, 0, 30, [7], []), (0, 0, 0, 6, 0, 0, 31, [], []), (2, 1, 0, 0, 0, 0, 32, [], [])]
noncomputable def pc_171_1 : List mOp := [(5, 0, 2, 0, 0, 0, 33, [], []), (2, 3, 0, 0, 0, 0, 34, [], []), (5, 0, 0, 0, 0, 0, 35, [], []), (23, 0, 0, 0, 0, 0, 36, [], []), (33, 167, 4, 0, 0, 0, 37, [], []), (2, 0, 2, 0, 0, 0, 38, [], []), (2, 3, 0, 0, 0, 0, 39, [], []), (2, 1, 0, 0, 0, 0, 40, [], []), (2, 0, 2, 0, 0, 0, 41, [], []), (2, 3, 0, 0, 0, 0, 42, [], []), (2, 1, 0, 0, 0, 0, 43, [], []), (33, 168, 3, 0, 0, 0, 44, [], []), (33, 167, 4, 0, 0, 0, 45, [], []), (13, 0, 0, 0, 0, 0, 46, [], []), (17, 49, 2, 0, 0, 0, 47, [], []), (0, 0, 0, 1, 0, 0, 48, [], []), (16, 50, 0, 0, 0, 0, 49, [], []), (0, 0, 0, 0, 0, 0, 50, [], []), (3, 2, 0, 0, 0, 0, 51, [], []), (4, 3, 0, 1, 0, 0, 52, [], []), (16, 14, 0, 0, 0, 0, 53, [], []), (2, 2, 0, 0, 0, 0, 54, [], []), (17, 57, 0, 0, 0, 0, 55, [], []), (0, 0, 0, 1, 0, 0, 56, [], []), (16, 58, 0, 0, 0, 0, 57, [], []), (0, 0, 0, 0, 0, 0, 58, [], []), (34, 0, 1, 0, 0, 0, 59, [], [])]
noncomputable def pc_171 : List (List mOp) := [pc_171_0, pc_171_1]
/-- 172: PotAndFineModel.noPlace(II)Z -/
noncomputable def pc_172_0 : List mOp := [(2, 0, 0, 0, 0, 1, 1, [], []), (12, 0, 0, 0, 0, 0, 2, [], []), (1, 0, 0, 0, 0, 0, 3, [], []), (1, 0, 0, 0, 5, 0, 4, [], []), (33, 105, 3, 0, 0, 0, 5, [], []), (17, 12, 0, 0, 0, 0, 6, [], []), (2, 1, 0, 0, 0, 0, 7, [], []), (12, 0, 0, 0, 0, 0, 8, [], []), (1, 0, 0, 0, 0, 0, 9, [], []), (1, 0, 0, 0, 7, 0, 10, [], []), (33, 105, 3, 0, 0, 0, 11, [], []), (17, 14, 1, 0, 0, 0, 12, [], []), (0, 0, 0, 1, 0, 0, 13, [], []), (16, 15, 0, 0, 0, 0, 14, [], []), (0, 0, 0, 0, 0, 0, 15, [], []), (34, 0, 4, 0, 0, 0, 16, [], [])]
noncomputable def pc_172 : List (List mOp) := [pc_172_0]
/-- 173: PotAndFineModel.note(III)I -/
noncomputable def pc_173_0 : List mOp := [(2, 0, 2, 0, 0, 1, 1, [], []), (0, 0, 0, 0, 0, 0, 2, [], []), (21, 0, 0, 0, 0, 0, 3, [7], []), (2, 1, 0, 0, 0, 0, 4, [], []), (2, 2, 0, 0, 0, 0, 5, [], []), (33, 172, 2, 0, 0, 0, 6, [], []), (17, 9, 0, 0, 0, 0, 7, [], []), (0, 0, 0, (-1), 0, 0, 8, [], []), (34, 0, 1, 0, 0, 0, 9, [], []), (2, 3, 0, 0, 0, 0, 10, [], []), (12, 0, 0, 0, 0, 0, 11, [], []), (1, 0, 0, 0, 0, 0, 12, [], []), (1, 0, 0, 0, 20, 0, 13, [], []), (33, 105, 3, 0, 0, 0, 14, [], []), (17, 20, 1, 0, 0, 0, 15, [], []), (2, 3, 0, 0, 0, 0, 16, [], []), (0, 0, 0, (-9), 0, 0, 17, [], []), (18, 20, 0, 0, 0, 0, 18, [], []), (0, 0, 0, (-2), 0, 0, 19, [], []), (34, 0, 1, 0, 0, 0, 20, [], []), (2, 0, 2, 0, 0, 0, 21, [], []), (20, 21, 1, 0, 0, 0, 22, [7], []), (0, 0, 0, 8, 0, 0, 23, [], []), (2, 1, 0, 0, 0, 0, 24, [], []), (5, 0, 2, 0, 0, 0, 25, [], []), (2, 2, 0, 0, 0, 0, 26, [], []), (5, 0, 0, 0, 0, 0, 27, [], []), (23, 0, 0, 0, 0, 0, 28, [], []), (3, 4, 0, 0, 0, 0, 29, [], []), (2, 0, 2, 0, 0, 0, 30, [], []), (20, 21, 1, 0, 0, 0, 31, [7], []), (0, 0, 0, 8, 0, 0, 32, [], [])]
noncomputable def pc_173_1 : List mOp := [(2, 1, 0, 0, 0, 0, 33, [], []), (5, 0, 2, 0, 0, 0, 34, [], []), (2, 2, 0, 0, 0, 0, 35, [], []), (5, 0, 0, 0, 0, 0, 36, [], []), (2, 3, 0, 0, 0, 0, 37, [], []), (26, 0, 0, 0, 0, 0, 38, [], []), (2, 4, 0, 0, 0, 0, 39, [], []), (34, 0, 1, 0, 0, 0, 40, [], [])]
noncomputable def pc_173 : List (List mOp) := [pc_173_0, pc_173_1]
/-- 174: PotAndFineModel.noSort(I)Z -/
noncomputable def pc_174_0 : List mOp := [(2, 0, 0, 0, 0, 1, 1, [], []), (17, 22, 0, 0, 0, 0, 2, [], []), (2, 0, 0, 0, 0, 0, 3, [], []), (12, 0, 0, 0, 0, 0, 4, [], []), (1, 0, 0, 0, 100, 0, 5, [], []), (1, 0, 0, 0, 120, 0, 6, [], []), (33, 105, 3, 0, 0, 0, 7, [], []), (17, 22, 1, 0, 0, 0, 8, [], []), (2, 0, 0, 0, 0, 0, 9, [], []), (12, 0, 0, 0, 0, 0, 10, [], []), (1, 0, 0, 0, 200, 0, 11, [], []), (1, 0, 0, 0, 209, 0, 12, [], []), (33, 105, 3, 0, 0, 0, 13, [], []), (17, 22, 1, 0, 0, 0, 14, [], []), (2, 0, 0, 0, 0, 0, 15, [], []), (12, 0, 0, 0, 0, 0, 16, [], []), (1, 0, 0, 0, 300, 0, 17, [], []), (1, 0, 0, 0, 309, 0, 18, [], []), (33, 105, 3, 0, 0, 0, 19, [], []), (17, 22, 1, 0, 0, 0, 20, [], []), (0, 0, 0, 1, 0, 0, 21, [], []), (16, 23, 0, 0, 0, 0, 22, [], []), (0, 0, 0, 0, 0, 0, 23, [], []), (34, 0, 4, 0, 0, 0, 24, [], [])]
noncomputable def pc_174 : List (List mOp) := [pc_174_0]
/-- 175: PotAndFineModel.wouldBe(III)I -/
noncomputable def pc_175_0 : List mOp := [(2, 1, 0, 0, 0, 1, 1, [], []), (0, 0, 0, 200, 0, 0, 2, [], []), (18, 11, 3, 0, 0, 0, 3, [], []), (2, 1, 0, 0, 0, 0, 4, [], []), (17, 7, 1, 0, 0, 0, 5, [], []), (0, 0, 0, 0, 0, 0, 6, [], []), (16, 10, 0, 0, 0, 0, 7, [], []), (2, 1, 0, 0, 0, 0, 8, [], []), (0, 0, 0, 100, 0, 0, 9, [], []), (5, 0, 1, 0, 0, 0, 10, [], []), (34, 0, 1, 0, 0, 0, 11, [], []), (2, 3, 0, 0, 0, 0, 12, [], []), (17, 15, 1, 0, 0, 0, 13, [], []), (0, 0, 0, (-9), 0, 0, 14, [], []), (34, 0, 1, 0, 0, 0, 15, [], []), (0, 0, 0, 0, 0, 0, 16, [], []), (3, 4, 0, 0, 0, 0, 17, [], []), (0, 0, 0, 0, 0, 0, 18, [], []), (3, 5, 0, 0, 0, 0, 19, [], []), (0, 0, 0, 0, 0, 0, 20, [], []), (3, 6, 0, 0, 0, 0, 21, [], []), (2, 6, 0, 0, 0, 1, 22, [], [7]), (0, 0, 0, 6, 0, 0, 23, [], []), (18, 58, 3, 0, 0, 0, 24, [], []), (2, 0, 2, 0, 0, 0, 25, [], []), (20, 21, 1, 0, 0, 0, 26, [7], []), (0, 0, 0, 8, 0, 0, 27, [], []), (2, 6, 0, 0, 0, 0, 28, [], []), (5, 0, 2, 0, 0, 0, 29, [], []), (2, 3, 0, 0, 0, 0, 30, [], []), (5, 0, 0, 0, 0, 0, 31, [], []), (0, 0, 0, 1, 0, 0, 32, [], [])]
noncomputable def pc_175_1 : List mOp := [(5, 0, 1, 0, 0, 0, 33, [], []), (23, 0, 0, 0, 0, 0, 34, [], []), (3, 7, 0, 0, 0, 0, 35, [], []), (2, 7, 0, 0, 0, 0, 36, [], []), (0, 0, 0, (-9), 0, 0, 37, [], []), (18, 56, 0, 0, 0, 0, 38, [], []), (2, 1, 0, 0, 0, 0, 39, [], []), (0, 0, 0, 300, 0, 0, 40, [], []), (18, 43, 3, 0, 0, 0, 41, [], []), (0, 0, 0, 1, 0, 0, 42, [], []), (16, 44, 0, 0, 0, 0, 43, [], []), (0, 0, 0, 0, 0, 0, 44, [], []), (2, 6, 0, 0, 0, 1, 45, [], []), (2, 2, 0, 0, 0, 0, 46, [], []), (18, 49, 0, 0, 0, 0, 47, [], []), (0, 0, 0, 1, 0, 0, 48, [], []), (16, 50, 0, 0, 0, 0, 49, [], []), (0, 0, 0, 0, 0, 0, 50, [], []), (18, 56, 1, 0, 0, 1, 51, [], []), (2, 4, 0, 0, 0, 0, 52, [], []), (2, 7, 0, 0, 0, 0, 53, [], []), (5, 0, 0, 0, 0, 0, 54, [], []), (3, 4, 0, 0, 0, 0, 55, [], []), (4, 5, 0, 1, 0, 0, 56, [], []), (4, 6, 0, 1, 0, 1, 57, [], [7]), (16, 21, 0, 0, 0, 0, 58, [], []), (2, 5, 0, 0, 0, 0, 59, [], []), (17, 62, 1, 0, 0, 0, 60, [], []), (0, 0, 0, (-9), 0, 0, 61, [], []), (34, 0, 1, 0, 0, 0, 62, [], []), (2, 4, 0, 0, 0, 0, 63, [], []), (2, 5, 0, 0, 0, 0, 64, [], [])]
noncomputable def pc_175_2 : List mOp := [(6, 0, 0, 0, 0, 0, 65, [], []), (2, 1, 0, 0, 0, 0, 66, [], []), (0, 0, 0, 100, 0, 0, 67, [], []), (7, 0, 0, 0, 0, 0, 68, [], []), (5, 0, 1, 0, 0, 0, 69, [], []), (3, 6, 0, 0, 0, 0, 70, [], []), (2, 6, 0, 0, 0, 0, 71, [], []), (17, 74, 3, 0, 0, 0, 72, [], []), (0, 0, 0, 0, 0, 0, 73, [], []), (16, 75, 0, 0, 0, 0, 74, [], []), (2, 6, 0, 0, 0, 0, 75, [], []), (34, 0, 1, 0, 0, 0, 76, [], [])]
noncomputable def pc_175 : List (List mOp) := [pc_175_0, pc_175_1, pc_175_2]
/-- 176: PotAndFineModel.would(III)I -/
noncomputable def pc_176_0 : List mOp := [(2, 0, 2, 0, 0, 1, 1, [], []), (0, 0, 0, 0, 0, 0, 2, [], []), (21, 0, 0, 0, 0, 0, 3, [7], []), (2, 2, 0, 0, 0, 0, 4, [], []), (2, 3, 0, 0, 0, 0, 5, [], []), (33, 172, 2, 0, 0, 0, 6, [], []), (17, 9, 0, 0, 0, 0, 7, [], []), (0, 0, 0, (-1), 0, 0, 8, [], []), (34, 0, 1, 0, 0, 0, 9, [], []), (2, 1, 0, 0, 0, 0, 10, [], []), (33, 174, 1, 0, 0, 0, 11, [], []), (17, 14, 0, 0, 0, 0, 12, [], []), (0, 0, 0, (-2), 0, 0, 13, [], []), (16, 19, 0, 0, 0, 0, 14, [], []), (2, 0, 2, 0, 0, 0, 15, [], []), (2, 1, 0, 0, 0, 0, 16, [], []), (2, 2, 0, 0, 0, 0, 17, [], []), (2, 3, 0, 0, 0, 0, 18, [], []), (33, 175, 4, 0, 0, 0, 19, [], []), (34, 0, 1, 0, 0, 0, 20, [], [])]
noncomputable def pc_176 : List (List mOp) := [pc_176_0]
/-- 177: PotAndFineModel.slipsOf(II)I -/
noncomputable def pc_177_0 : List mOp := [(0, 0, 0, 0, 0, 1, 1, [], []), (3, 3, 0, 0, 0, 0, 2, [], []), (0, 0, 0, 0, 0, 0, 3, [], []), (3, 4, 0, 0, 0, 0, 4, [], []), (2, 4, 0, 0, 0, 1, 5, [], [5, 6]), (0, 0, 0, 8, 0, 0, 6, [], []), (18, 39, 3, 0, 0, 0, 7, [], []), (2, 0, 2, 0, 0, 0, 8, [], []), (20, 21, 1, 0, 0, 0, 9, [7], []), (0, 0, 0, 8, 0, 0, 10, [], []), (2, 2, 0, 0, 0, 0, 11, [], []), (5, 0, 2, 0, 0, 0, 12, [], []), (2, 4, 0, 0, 0, 0, 13, [], []), (5, 0, 0, 0, 0, 0, 14, [], []), (23, 0, 0, 0, 0, 0, 15, [], []), (3, 5, 0, 0, 0, 0, 16, [], []), (2, 0, 2, 0, 0, 0, 17, [], []), (2, 1, 0, 0, 0, 0, 18, [], []), (2, 2, 0, 0, 0, 0, 19, [], []), (2, 4, 0, 0, 0, 0, 20, [], []), (33, 175, 4, 0, 0, 0, 21, [], []), (3, 6, 0, 0, 0, 0, 22, [], []), (2, 3, 0, 0, 0, 0, 23, [], []), (2, 5, 0, 0, 0, 0, 24, [], []), (0, 0, 0, (-9), 0, 0, 25, [], []), (18, 34, 0, 0, 0, 0, 26, [], []), (2, 6, 0, 0, 0, 0, 27, [], []), (0, 0, 0, (-9), 0, 0, 28, [], []), (18, 34, 0, 0, 0, 0, 29, [], []), (2, 5, 0, 0, 0, 0, 30, [], []), (2, 6, 0, 0, 0, 0, 31, [], []), (18, 34, 0, 0, 0, 0, 32, [], [])]
noncomputable def pc_177_1 : List mOp := [(0, 0, 0, 1, 0, 0, 33, [], []), (16, 35, 0, 0, 0, 0, 34, [], []), (0, 0, 0, 0, 0, 0, 35, [], []), (5, 0, 0, 0, 0, 0, 36, [], []), (3, 3, 0, 0, 0, 0, 37, [], []), (4, 4, 0, 1, 0, 0, 38, [], []), (16, 4, 0, 0, 0, 0, 39, [], []), (2, 3, 0, 0, 0, 0, 40, [], []), (34, 0, 1, 0, 0, 0, 41, [], [])]
noncomputable def pc_177 : List (List mOp) := [pc_177_0, pc_177_1]
/-- 178: PotAndFineModel.slips(II)I -/
noncomputable def pc_178_0 : List mOp := [(2, 0, 2, 0, 0, 1, 1, [], []), (0, 0, 0, 0, 0, 0, 2, [], []), (21, 0, 0, 0, 0, 0, 3, [7], []), (2, 2, 0, 0, 0, 0, 4, [], []), (12, 0, 0, 0, 0, 0, 5, [], []), (1, 0, 0, 0, 0, 0, 6, [], []), (1, 0, 0, 0, 5, 0, 7, [], []), (33, 105, 3, 0, 0, 0, 8, [], []), (17, 11, 1, 0, 0, 0, 9, [], []), (0, 0, 0, (-1), 0, 0, 10, [], []), (34, 0, 1, 0, 0, 0, 11, [], []), (2, 1, 0, 0, 0, 0, 12, [], []), (33, 174, 1, 0, 0, 0, 13, [], []), (17, 16, 0, 0, 0, 0, 14, [], []), (0, 0, 0, (-2), 0, 0, 15, [], []), (16, 20, 0, 0, 0, 0, 16, [], []), (2, 0, 2, 0, 0, 0, 17, [], []), (2, 1, 0, 0, 0, 0, 18, [], []), (2, 2, 0, 0, 0, 0, 19, [], []), (33, 177, 3, 0, 0, 0, 20, [], []), (34, 0, 1, 0, 0, 0, 21, [], [])]
noncomputable def pc_178 : List (List mOp) := [pc_178_0]
/-- 179: PotAndFineModel.sort(I)I -/
noncomputable def pc_179_0 : List mOp := [(2, 0, 2, 0, 0, 1, 1, [], []), (0, 0, 0, 0, 0, 0, 2, [], []), (21, 0, 0, 0, 0, 0, 3, [7], []), (2, 1, 0, 0, 0, 0, 4, [], []), (12, 0, 0, 0, 0, 0, 5, [], []), (1, 0, 0, 0, 0, 0, 6, [], []), (1, 0, 0, 0, 5, 0, 7, [], []), (33, 105, 3, 0, 0, 0, 8, [], []), (17, 11, 1, 0, 0, 0, 9, [], []), (0, 0, 0, (-1), 0, 0, 10, [], []), (34, 0, 1, 0, 0, 0, 11, [], []), (0, 0, 0, 0, 0, 0, 12, [], []), (3, 2, 0, 0, 0, 0, 13, [], []), (0, 0, 0, 100, 0, 0, 14, [], []), (3, 3, 0, 0, 0, 0, 15, [], []), (2, 3, 0, 0, 0, 1, 16, [], []), (0, 0, 0, 310, 0, 0, 17, [], []), (18, 36, 3, 0, 0, 0, 18, [], []), (2, 3, 0, 0, 0, 0, 19, [], []), (33, 174, 1, 0, 0, 0, 20, [], []), (17, 32, 1, 0, 0, 0, 21, [], []), (2, 0, 2, 0, 0, 0, 22, [], []), (2, 3, 0, 0, 0, 0, 23, [], []), (2, 1, 0, 0, 0, 0, 24, [], []), (33, 177, 3, 0, 0, 0, 25, [], []), (2, 0, 2, 0, 0, 0, 26, [], []), (2, 2, 0, 0, 0, 0, 27, [], []), (2, 1, 0, 0, 0, 0, 28, [], []), (33, 177, 3, 0, 0, 0, 29, [], []), (18, 32, 3, 0, 0, 0, 30, [], []), (2, 3, 0, 0, 0, 0, 31, [], []), (16, 33, 0, 0, 0, 0, 32, [], [])]
noncomputable def pc_179_1 : List mOp := [(2, 2, 0, 0, 0, 0, 33, [], []), (3, 2, 0, 0, 0, 0, 34, [], []), (4, 3, 0, 1, 0, 0, 35, [], []), (16, 15, 0, 0, 0, 0, 36, [], []), (2, 2, 0, 0, 0, 0, 37, [], []), (34, 0, 1, 0, 0, 0, 38, [], [])]
noncomputable def pc_179 : List (List mOp) := [pc_179_0, pc_179_1]
/-- 180: PotAndFineModel.sorts(II)I -/
noncomputable def pc_180_0 : List mOp := [(2, 0, 2, 0, 0, 1, 1, [], []), (0, 0, 0, 0, 0, 0, 2, [], []), (21, 0, 0, 0, 0, 0, 3, [7], []), (2, 1, 0, 0, 0, 0, 4, [], []), (12, 0, 0, 0, 0, 0, 5, [], []), (1, 0, 0, 0, 0, 0, 6, [], []), (1, 0, 0, 0, 5, 0, 7, [], []), (33, 105, 3, 0, 0, 0, 8, [], []), (17, 11, 1, 0, 0, 0, 9, [], []), (0, 0, 0, (-1), 0, 0, 10, [], []), (34, 0, 1, 0, 0, 0, 11, [], []), (2, 2, 0, 0, 0, 0, 12, [], []), (12, 0, 0, 0, 0, 0, 13, [], []), (1, 0, 0, 0, 0, 0, 14, [], []), (1, 0, 0, 0, 8, 0, 15, [], []), (33, 105, 3, 0, 0, 0, 16, [], []), (17, 19, 1, 0, 0, 0, 17, [], []), (0, 0, 0, (-2), 0, 0, 18, [], []), (34, 0, 1, 0, 0, 0, 19, [], []), (0, 0, 0, 0, 0, 0, 20, [], []), (3, 3, 0, 0, 0, 0, 21, [], []), (0, 0, 0, 0, 0, 0, 22, [], []), (3, 4, 0, 0, 0, 0, 23, [], []), (2, 4, 0, 0, 0, 1, 24, [], []), (0, 0, 0, 310, 0, 0, 25, [], []), (18, 43, 3, 0, 0, 0, 26, [], []), (2, 3, 0, 0, 0, 0, 27, [], []), (2, 4, 0, 0, 0, 0, 28, [], []), (33, 174, 1, 0, 0, 0, 29, [], []), (17, 38, 1, 0, 0, 0, 30, [], []), (2, 0, 2, 0, 0, 0, 31, [], []), (2, 4, 0, 0, 0, 0, 32, [], [])]
noncomputable def pc_180_1 : List mOp := [(2, 1, 0, 0, 0, 0, 33, [], []), (33, 177, 3, 0, 0, 0, 34, [], []), (2, 2, 0, 0, 0, 0, 35, [], []), (18, 38, 4, 0, 0, 0, 36, [], []), (0, 0, 0, 1, 0, 0, 37, [], []), (16, 39, 0, 0, 0, 0, 38, [], []), (0, 0, 0, 0, 0, 0, 39, [], []), (5, 0, 0, 0, 0, 0, 40, [], []), (3, 3, 0, 0, 0, 0, 41, [], []), (4, 4, 0, 1, 0, 0, 42, [], []), (16, 23, 0, 0, 0, 0, 43, [], []), (2, 3, 0, 0, 0, 0, 44, [], []), (34, 0, 1, 0, 0, 0, 45, [], [])]
noncomputable def pc_180 : List (List mOp) := [pc_180_0, pc_180_1]
/-- 181: PotAndFineModel.copy()I -/
noncomputable def pc_181_0 : List mOp := [(2, 0, 2, 0, 0, 1, 1, [], []), (0, 0, 0, 0, 0, 0, 2, [], []), (21, 0, 0, 0, 0, 0, 3, [7], []), (2, 0, 2, 0, 0, 0, 4, [], []), (33, 136, 1, 0, 0, 0, 5, [], []), (0, 0, 0, 0, 0, 0, 6, [], []), (3, 1, 0, 0, 0, 0, 7, [], []), (0, 0, 0, 0, 0, 0, 8, [], []), (3, 2, 0, 0, 0, 0, 9, [], []), (2, 2, 0, 0, 0, 1, 10, [], [3, 4]), (0, 0, 0, 6, 0, 0, 11, [], []), (18, 62, 3, 0, 0, 0, 12, [], []), (0, 0, 0, 0, 0, 0, 13, [], []), (3, 3, 0, 0, 0, 0, 14, [], []), (2, 3, 0, 0, 0, 1, 15, [], [4]), (0, 0, 0, 8, 0, 0, 16, [], []), (18, 60, 3, 0, 0, 0, 17, [], []), (2, 2, 0, 0, 0, 0, 18, [], []), (2, 0, 2, 0, 0, 0, 19, [], []), (20, 7, 0, 0, 0, 0, 20, [7], []), (18, 28, 3, 0, 0, 0, 21, [], []), (2, 0, 2, 0, 0, 0, 22, [], []), (2, 2, 0, 0, 0, 0, 23, [], []), (2, 3, 0, 0, 0, 0, 24, [], []), (33, 125, 3, 0, 0, 0, 25, [], []), (17, 28, 0, 0, 0, 0, 26, [], []), (0, 0, 0, 1, 0, 0, 27, [], []), (16, 29, 0, 0, 0, 0, 28, [], []), (0, 0, 0, 0, 0, 0, 29, [], []), (3, 4, 0, 0, 0, 1, 30, [], [4]), (2, 0, 2, 0, 0, 0, 31, [], []), (20, 21, 1, 0, 0, 0, 32, [7], [])]
noncomputable def pc_181_1 : List mOp := [(0, 0, 0, 8, 0, 0, 33, [], []), (2, 2, 0, 0, 0, 0, 34, [], []), (5, 0, 2, 0, 0, 0, 35, [], []), (2, 3, 0, 0, 0, 0, 36, [], []), (5, 0, 0, 0, 0, 0, 37, [], []), (2, 4, 0, 0, 0, 0, 38, [], []), (17, 48, 0, 0, 0, 0, 39, [], []), (2, 0, 2, 0, 0, 0, 40, [], []), (20, 25, 1, 0, 0, 0, 41, [7], []), (0, 0, 0, 6, 0, 0, 42, [], []), (2, 3, 0, 0, 0, 0, 43, [], []), (5, 0, 2, 0, 0, 0, 44, [], []), (2, 2, 0, 0, 0, 0, 45, [], []), (5, 0, 0, 0, 0, 0, 46, [], []), (23, 0, 0, 0, 0, 0, 47, [], []), (16, 49, 0, 0, 0, 0, 48, [], []), (0, 0, 0, (-9), 0, 0, 49, [], []), (26, 0, 0, 0, 0, 1, 50, [], []), (2, 1, 0, 0, 0, 0, 51, [], []), (2, 4, 0, 0, 0, 0, 52, [], []), (17, 55, 0, 0, 0, 0, 53, [], []), (0, 0, 0, 1, 0, 0, 54, [], []), (16, 56, 0, 0, 0, 0, 55, [], []), (0, 0, 0, 0, 0, 0, 56, [], []), (5, 0, 0, 0, 0, 1, 57, [], [1, 4]), (3, 1, 0, 0, 0, 0, 58, [], []), (4, 3, 0, 1, 0, 0, 59, [], []), (16, 14, 0, 0, 0, 0, 60, [], []), (4, 2, 0, 1, 0, 0, 61, [], []), (16, 9, 0, 0, 0, 0, 62, [], []), (2, 1, 0, 0, 0, 0, 63, [], []), (34, 0, 1, 0, 0, 0, 64, [], [])]
noncomputable def pc_181 : List (List mOp) := [pc_181_0, pc_181_1]
/-- 182: PotAndFineModel.toldMany()I -/
noncomputable def pc_182_0 : List mOp := [(0, 0, 0, 0, 0, 1, 1, [], []), (3, 1, 0, 0, 0, 0, 2, [], []), (0, 0, 0, 0, 0, 0, 3, [], []), (3, 2, 0, 0, 0, 0, 4, [], []), (2, 2, 0, 0, 0, 1, 5, [], []), (0, 0, 0, 240, 0, 0, 6, [], []), (18, 21, 3, 0, 0, 0, 7, [], []), (2, 1, 0, 0, 0, 0, 8, [], []), (2, 0, 2, 0, 0, 0, 9, [], []), (20, 15, 1, 0, 0, 0, 10, [7], []), (2, 2, 0, 0, 0, 0, 11, [], []), (23, 0, 0, 0, 0, 0, 12, [], []), (0, 0, 0, (-9), 0, 0, 13, [], []), (18, 16, 1, 0, 0, 0, 14, [], []), (0, 0, 0, 0, 0, 0, 15, [], []), (16, 17, 0, 0, 0, 0, 16, [], []), (0, 0, 0, 1, 0, 0, 17, [], []), (5, 0, 0, 0, 0, 0, 18, [], []), (3, 1, 0, 0, 0, 0, 19, [], []), (4, 2, 0, 1, 0, 0, 20, [], []), (16, 4, 0, 0, 0, 0, 21, [], []), (2, 1, 0, 0, 0, 0, 22, [], []), (34, 0, 1, 0, 0, 0, 23, [], [])]
noncomputable def pc_182 : List (List mOp) := [pc_182_0]
/-- 183: PotAndFineModel.keep(I)I -/
noncomputable def pc_183_0 : List mOp := [(2, 0, 2, 0, 0, 1, 1, [], []), (0, 0, 0, 0, 0, 0, 2, [], []), (21, 0, 0, 0, 0, 0, 3, [7], []), (2, 1, 0, 0, 0, 0, 4, [], []), (12, 0, 0, 0, 0, 0, 5, [], []), (1, 0, 0, 0, 0, 0, 6, [], []), (1, 0, 0, 0, 1, 0, 7, [], []), (33, 105, 3, 0, 0, 0, 8, [], []), (17, 11, 1, 0, 0, 0, 9, [], []), (0, 0, 0, (-1), 0, 0, 10, [], []), (34, 0, 1, 0, 0, 0, 11, [], []), (2, 0, 2, 0, 0, 0, 12, [], []), (20, 20, 1, 0, 0, 0, 13, [7], []), (2, 1, 0, 0, 0, 0, 14, [], []), (40, 0, 0, 1, 0, 0, 15, [], []), (0, 0, 0, 0, 0, 0, 16, [], []), (3, 2, 0, 0, 0, 0, 17, [], []), (2, 2, 0, 0, 0, 1, 18, [], []), (0, 0, 0, 240, 0, 0, 19, [], []), (18, 34, 3, 0, 0, 0, 20, [], []), (2, 0, 2, 0, 0, 0, 21, [], []), (20, 17, 1, 0, 0, 0, 22, [7], []), (0, 0, 0, 240, 0, 0, 23, [], []), (2, 1, 0, 0, 0, 0, 24, [], []), (5, 0, 2, 0, 0, 0, 25, [], []), (2, 2, 0, 0, 0, 0, 26, [], []), (5, 0, 0, 0, 0, 0, 27, [], []), (2, 0, 2, 0, 0, 0, 28, [], []), (20, 15, 1, 0, 0, 0, 29, [7], []), (2, 2, 0, 0, 0, 0, 30, [], []), (23, 0, 0, 0, 0, 0, 31, [], []), (26, 0, 0, 0, 0, 0, 32, [], [])]
noncomputable def pc_183_1 : List mOp := [(4, 2, 0, 1, 0, 0, 33, [], []), (16, 17, 0, 0, 0, 0, 34, [], []), (0, 0, 0, 0, 0, 0, 35, [], []), (3, 2, 0, 0, 0, 0, 36, [], []), (2, 2, 0, 0, 0, 1, 37, [], []), (0, 0, 0, 6, 0, 0, 38, [], []), (18, 53, 3, 0, 0, 0, 39, [], []), (2, 0, 2, 0, 0, 0, 40, [], []), (20, 18, 1, 0, 0, 0, 41, [7], []), (0, 0, 0, 6, 0, 0, 42, [], []), (2, 1, 0, 0, 0, 0, 43, [], []), (5, 0, 2, 0, 0, 0, 44, [], []), (2, 2, 0, 0, 0, 0, 45, [], []), (5, 0, 0, 0, 0, 0, 46, [], []), (2, 0, 2, 0, 0, 0, 47, [], []), (20, 16, 1, 0, 0, 0, 48, [7], []), (2, 2, 0, 0, 0, 0, 49, [], []), (23, 0, 0, 0, 0, 0, 50, [], []), (26, 0, 0, 0, 0, 0, 51, [], []), (4, 2, 0, 1, 0, 0, 52, [], []), (16, 36, 0, 0, 0, 0, 53, [], []), (0, 0, 0, 0, 0, 0, 54, [], []), (3, 2, 0, 0, 0, 0, 55, [], []), (2, 2, 0, 0, 0, 1, 56, [], []), (0, 0, 0, 48, 0, 0, 57, [], []), (18, 72, 3, 0, 0, 0, 58, [], []), (2, 0, 2, 0, 0, 0, 59, [], []), (20, 19, 1, 0, 0, 0, 60, [7], []), (0, 0, 0, 48, 0, 0, 61, [], []), (2, 1, 0, 0, 0, 0, 62, [], []), (5, 0, 2, 0, 0, 0, 63, [], []), (2, 2, 0, 0, 0, 0, 64, [], [])]
noncomputable def pc_183_2 : List mOp := [(5, 0, 0, 0, 0, 0, 65, [], []), (2, 0, 2, 0, 0, 0, 66, [], []), (20, 21, 1, 0, 0, 0, 67, [7], []), (2, 2, 0, 0, 0, 0, 68, [], []), (23, 0, 0, 0, 0, 0, 69, [], []), (26, 0, 0, 0, 0, 0, 70, [], []), (4, 2, 0, 1, 0, 0, 71, [], []), (16, 55, 0, 0, 0, 0, 72, [], []), (2, 0, 2, 0, 0, 0, 73, [], []), (33, 182, 1, 0, 0, 0, 74, [], []), (34, 0, 1, 0, 0, 0, 75, [], [])]
noncomputable def pc_183 : List (List mOp) := [pc_183_0, pc_183_1, pc_183_2]
/-- 184: PotAndFineModel.again(I)I -/
noncomputable def pc_184_0 : List mOp := [(2, 0, 2, 0, 0, 1, 1, [], []), (0, 0, 0, 0, 0, 0, 2, [], []), (21, 0, 0, 0, 0, 0, 3, [7], []), (2, 1, 0, 0, 0, 0, 4, [], []), (12, 0, 0, 0, 0, 0, 5, [], []), (1, 0, 0, 0, 0, 0, 6, [], []), (1, 0, 0, 0, 1, 0, 7, [], []), (33, 105, 3, 0, 0, 0, 8, [], []), (17, 11, 1, 0, 0, 0, 9, [], []), (0, 0, 0, (-1), 0, 0, 10, [], []), (34, 0, 1, 0, 0, 0, 11, [], []), (2, 0, 2, 0, 0, 0, 12, [], []), (20, 20, 1, 0, 0, 0, 13, [7], []), (2, 1, 0, 0, 0, 0, 14, [], []), (23, 0, 1, 0, 0, 0, 15, [], []), (17, 18, 1, 0, 0, 0, 16, [], []), (0, 0, 0, (-3), 0, 0, 17, [], []), (34, 0, 1, 0, 0, 0, 18, [], []), (0, 0, 0, 0, 0, 0, 19, [], []), (3, 2, 0, 0, 0, 0, 20, [], []), (2, 2, 0, 0, 0, 1, 21, [], []), (0, 0, 0, 240, 0, 0, 22, [], []), (18, 37, 3, 0, 0, 0, 23, [], []), (2, 0, 2, 0, 0, 0, 24, [], []), (20, 15, 1, 0, 0, 0, 25, [7], []), (2, 2, 0, 0, 0, 0, 26, [], []), (2, 0, 2, 0, 0, 0, 27, [], []), (20, 17, 1, 0, 0, 0, 28, [7], []), (0, 0, 0, 240, 0, 0, 29, [], []), (2, 1, 0, 0, 0, 0, 30, [], []), (5, 0, 2, 0, 0, 0, 31, [], []), (2, 2, 0, 0, 0, 0, 32, [], [])]
noncomputable def pc_184_1 : List mOp := [(5, 0, 0, 0, 0, 0, 33, [], []), (23, 0, 0, 0, 0, 0, 34, [], []), (26, 0, 0, 0, 0, 0, 35, [], []), (4, 2, 0, 1, 0, 0, 36, [], []), (16, 20, 0, 0, 0, 0, 37, [], []), (0, 0, 0, 0, 0, 0, 38, [], []), (3, 2, 0, 0, 0, 0, 39, [], []), (2, 2, 0, 0, 0, 1, 40, [], []), (0, 0, 0, 6, 0, 0, 41, [], []), (18, 56, 3, 0, 0, 0, 42, [], []), (2, 0, 2, 0, 0, 0, 43, [], []), (20, 16, 1, 0, 0, 0, 44, [7], []), (2, 2, 0, 0, 0, 0, 45, [], []), (2, 0, 2, 0, 0, 0, 46, [], []), (20, 18, 1, 0, 0, 0, 47, [7], []), (0, 0, 0, 6, 0, 0, 48, [], []), (2, 1, 0, 0, 0, 0, 49, [], []), (5, 0, 2, 0, 0, 0, 50, [], []), (2, 2, 0, 0, 0, 0, 51, [], []), (5, 0, 0, 0, 0, 0, 52, [], []), (23, 0, 0, 0, 0, 0, 53, [], []), (26, 0, 0, 0, 0, 0, 54, [], []), (4, 2, 0, 1, 0, 0, 55, [], []), (16, 39, 0, 0, 0, 0, 56, [], []), (0, 0, 0, 0, 0, 0, 57, [], []), (3, 2, 0, 0, 0, 0, 58, [], []), (2, 2, 0, 0, 0, 1, 59, [], []), (0, 0, 0, 48, 0, 0, 60, [], []), (18, 75, 3, 0, 0, 0, 61, [], []), (2, 0, 2, 0, 0, 0, 62, [], []), (20, 21, 1, 0, 0, 0, 63, [7], []), (2, 2, 0, 0, 0, 0, 64, [], [])]
noncomputable def pc_184_2 : List mOp := [(2, 0, 2, 0, 0, 0, 65, [], []), (20, 19, 1, 0, 0, 0, 66, [7], []), (0, 0, 0, 48, 0, 0, 67, [], []), (2, 1, 0, 0, 0, 0, 68, [], []), (5, 0, 2, 0, 0, 0, 69, [], []), (2, 2, 0, 0, 0, 0, 70, [], []), (5, 0, 0, 0, 0, 0, 71, [], []), (23, 0, 0, 0, 0, 0, 72, [], []), (26, 0, 0, 0, 0, 0, 73, [], []), (4, 2, 0, 1, 0, 0, 74, [], []), (16, 58, 0, 0, 0, 0, 75, [], []), (2, 0, 2, 0, 0, 0, 76, [], []), (33, 182, 1, 0, 0, 0, 77, [], []), (34, 0, 1, 0, 0, 0, 78, [], [])]
noncomputable def pc_184 : List (List mOp) := [pc_184_0, pc_184_1, pc_184_2]
/-- 185: PotAndFineModel.count(I)I -/
noncomputable def pc_185_0 : List mOp := [(2, 0, 2, 0, 0, 1, 1, [], []), (0, 0, 0, 0, 0, 0, 2, [], []), (21, 0, 0, 0, 0, 0, 3, [7], []), (0, 0, 0, 0, 0, 0, 4, [], []), (3, 2, 0, 0, 0, 0, 5, [], []), (0, 0, 0, 0, 0, 0, 6, [], []), (3, 3, 0, 0, 0, 0, 7, [], []), (2, 3, 0, 0, 0, 1, 8, [], [4]), (2, 0, 2, 0, 0, 0, 9, [], []), (20, 7, 0, 0, 0, 0, 10, [7], []), (18, 25, 3, 0, 0, 0, 11, [], []), (2, 2, 0, 0, 0, 0, 12, [], []), (2, 0, 2, 0, 0, 0, 13, [], []), (20, 16, 1, 0, 0, 0, 14, [7], []), (2, 3, 0, 0, 0, 0, 15, [], []), (23, 0, 0, 0, 0, 0, 16, [], []), (0, 0, 0, 40, 0, 0, 17, [], []), (18, 20, 1, 0, 0, 0, 18, [], []), (0, 0, 0, 0, 0, 0, 19, [], []), (16, 21, 0, 0, 0, 0, 20, [], []), (0, 0, 0, 1, 0, 0, 21, [], []), (5, 0, 0, 0, 0, 0, 22, [], []), (3, 2, 0, 0, 0, 0, 23, [], []), (4, 3, 0, 1, 0, 0, 24, [], []), (16, 7, 0, 0, 0, 0, 25, [], []), (0, 0, 0, 0, 0, 0, 26, [], []), (3, 3, 0, 0, 0, 0, 27, [], []), (0, 0, 0, 0, 0, 0, 28, [], []), (3, 4, 0, 0, 0, 0, 29, [], []), (2, 4, 0, 0, 0, 1, 30, [], []), (0, 0, 0, 48, 0, 0, 31, [], []), (18, 46, 3, 0, 0, 0, 32, [], [])]
noncomputable def pc_185_1 : List mOp := [(2, 3, 0, 0, 0, 0, 33, [], []), (2, 0, 2, 0, 0, 0, 34, [], []), (20, 21, 1, 0, 0, 0, 35, [7], []), (2, 4, 0, 0, 0, 0, 36, [], []), (23, 0, 0, 0, 0, 0, 37, [], []), (0, 0, 0, (-9), 0, 0, 38, [], []), (18, 41, 1, 0, 0, 0, 39, [], []), (0, 0, 0, 0, 0, 0, 40, [], []), (16, 42, 0, 0, 0, 0, 41, [], []), (0, 0, 0, 1, 0, 0, 42, [], []), (5, 0, 0, 0, 0, 1, 43, [], [3]), (3, 3, 0, 0, 0, 0, 44, [], []), (4, 4, 0, 1, 0, 0, 45, [], []), (16, 29, 0, 0, 0, 0, 46, [], []), (2, 1, 0, 0, 0, 0, 47, [], []), (19, 61, 0, 0, 0, 0, 48, [48, 51, 54, 56, 58], []), (2, 0, 2, 0, 0, 0, 49, [], []), (20, 7, 0, 0, 0, 0, 50, [7], []), (34, 0, 1, 0, 0, 0, 51, [], []), (2, 0, 2, 0, 0, 0, 52, [], []), (33, 182, 1, 0, 0, 0, 53, [], []), (34, 0, 1, 0, 0, 0, 54, [], []), (2, 2, 0, 0, 0, 0, 55, [], []), (34, 0, 1, 0, 0, 0, 56, [], []), (2, 3, 0, 0, 0, 0, 57, [], []), (34, 0, 1, 0, 0, 0, 58, [], []), (2, 0, 2, 0, 0, 0, 59, [], []), (20, 2, 0, 0, 0, 0, 60, [7], []), (34, 0, 1, 0, 0, 0, 61, [], []), (0, 0, 0, (-2), 0, 0, 62, [], []), (34, 0, 1, 0, 0, 0, 63, [], [])]
noncomputable def pc_185 : List (List mOp) := [pc_185_0, pc_185_1]
/-- 186: java/lang/String.indexOf(I)I -/
noncomputable def pc_186_0 : List mOp := [(2, 0, 2, 0, 0, 1, 1, [], []), (2, 1, 0, 0, 0, 0, 2, [], []), (0, 0, 0, 0, 0, 0, 3, [], []), (33, 187, 3, 0, 0, 0, 4, [], []), (34, 0, 1, 0, 0, 0, 5, [], [])]
noncomputable def pc_186 : List (List mOp) := [pc_186_0]
/-- 187: java/lang/String.indexOf(II)I -/
noncomputable def pc_187_0 : List mOp := [(2, 0, 2, 0, 0, 1, 1, [], []), (33, 188, 1, 0, 0, 0, 2, [], []), (17, 11, 0, 0, 0, 0, 3, [], []), (2, 0, 2, 0, 0, 0, 4, [], []), (20, 0, 1, 0, 0, 0, 5, [8], []), (2, 1, 0, 0, 0, 0, 6, [], []), (2, 2, 0, 0, 0, 0, 7, [], []), (2, 0, 2, 0, 0, 0, 8, [], []), (33, 189, 1, 0, 0, 0, 9, [], []), (33, 192, 4, 0, 0, 0, 10, [], []), (16, 18, 0, 0, 0, 0, 11, [], []), (2, 0, 2, 0, 0, 0, 12, [], []), (20, 0, 1, 0, 0, 0, 13, [8], []), (2, 1, 0, 0, 0, 0, 14, [], []), (2, 2, 0, 0, 0, 0, 15, [], []), (2, 0, 2, 0, 0, 0, 16, [], []), (33, 189, 1, 0, 0, 0, 17, [], []), (99, 0, 0, 0, 0, 0, 18, [], []), (34, 0, 1, 0, 0, 0, 19, [], [])]
noncomputable def pc_187 : List (List mOp) := [pc_187_0]
/-- 188: java/lang/String.isLatin1()Z -/
noncomputable def pc_188_0 : List mOp := [(0, 0, 0, 1, 0, 1, 1, [], []), (17, 7, 0, 0, 0, 0, 2, [], []), (2, 0, 2, 0, 0, 0, 3, [], []), (20, 1, 0, 0, 0, 0, 4, [8], []), (17, 7, 1, 0, 0, 0, 5, [], []), (0, 0, 0, 1, 0, 0, 6, [], []), (16, 8, 0, 0, 0, 0, 7, [], []), (0, 0, 0, 0, 0, 0, 8, [], []), (34, 0, 4, 0, 0, 0, 9, [], [])]
noncomputable def pc_188 : List (List mOp) := [pc_188_0]
/-- 189: java/lang/String.length()I -/
noncomputable def pc_189_0 : List mOp := [(2, 0, 2, 0, 0, 1, 1, [], []), (20, 0, 1, 0, 0, 0, 2, [8], []), (29, 0, 0, 0, 0, 0, 3, [], []), (2, 0, 2, 0, 0, 0, 4, [], []), (33, 190, 1, 0, 0, 0, 5, [], []), (5, 0, 7, 0, 0, 0, 6, [], []), (34, 0, 1, 0, 0, 0, 7, [], [])]
noncomputable def pc_189 : List (List mOp) := [pc_189_0]
/-- 190: java/lang/String.coder()B -/
noncomputable def pc_190_0 : List mOp := [(0, 0, 0, 1, 0, 1, 1, [], []), (17, 5, 0, 0, 0, 0, 2, [], []), (2, 0, 2, 0, 0, 0, 3, [], []), (20, 1, 0, 0, 0, 0, 4, [8], []), (16, 6, 0, 0, 0, 0, 5, [], []), (0, 0, 0, 1, 0, 0, 6, [], []), (34, 0, 5, 0, 0, 0, 7, [], [])]
noncomputable def pc_190 : List (List mOp) := [pc_190_0]
/-- 191: java/lang/StringLatin1.canEncode(I)Z -/
noncomputable def pc_191_0 : List mOp := [(2, 0, 0, 0, 0, 1, 1, [], []), (17, 7, 2, 0, 0, 0, 2, [], []), (2, 0, 0, 0, 0, 0, 3, [], []), (0, 0, 0, 255, 0, 0, 4, [], []), (18, 7, 4, 0, 0, 0, 5, [], []), (0, 0, 0, 1, 0, 0, 6, [], []), (16, 8, 0, 0, 0, 0, 7, [], []), (0, 0, 0, 0, 0, 0, 8, [], []), (34, 0, 4, 0, 0, 0, 9, [], [])]
noncomputable def pc_191 : List (List mOp) := [pc_191_0]
/-- 192: java/lang/StringLatin1.indexOf([BIII)I -/
noncomputable def pc_192_0 : List mOp := [(2, 1, 0, 0, 0, 1, 1, [], []), (33, 191, 1, 0, 0, 0, 2, [], []), (17, 5, 1, 0, 0, 0, 3, [], []), (0, 0, 0, (-1), 0, 0, 4, [], []), (34, 0, 1, 0, 0, 0, 5, [], []), (2, 2, 0, 0, 0, 0, 6, [], []), (0, 0, 0, 0, 0, 0, 7, [], []), (41, 0, 0, 0, 0, 0, 8, [], []), (3, 2, 0, 0, 0, 0, 9, [], []), (2, 3, 0, 0, 0, 0, 10, [], []), (2, 0, 2, 0, 0, 0, 11, [], []), (29, 0, 0, 0, 0, 0, 12, [], []), (41, 0, 1, 0, 0, 0, 13, [], []), (3, 3, 0, 0, 0, 0, 14, [], []), (2, 2, 0, 0, 0, 0, 15, [], []), (2, 3, 0, 0, 0, 0, 16, [], []), (18, 19, 2, 0, 0, 0, 17, [], []), (0, 0, 0, (-1), 0, 0, 18, [], []), (34, 0, 1, 0, 0, 0, 19, [], []), (2, 0, 2, 0, 0, 0, 20, [], []), (2, 1, 0, 0, 0, 0, 21, [], []), (2, 2, 0, 0, 0, 0, 22, [], []), (2, 3, 0, 0, 0, 0, 23, [], []), (33, 193, 4, 0, 0, 0, 24, [], []), (34, 0, 1, 0, 0, 0, 25, [], [])]
noncomputable def pc_192 : List (List mOp) := [pc_192_0]
/-- 193: java/lang/StringLatin1.indexOfChar([BIII)I -/
noncomputable def pc_193_0 : List mOp := [(2, 1, 0, 0, 0, 1, 1, [], []), (12, 0, 3, 0, 0, 0, 2, [], []), (3, 4, 0, 0, 0, 0, 3, [], []), (2, 2, 0, 0, 0, 0, 4, [], []), (3, 5, 0, 0, 0, 0, 5, [], []), (2, 5, 0, 0, 0, 1, 6, [], [1, 2]), (2, 3, 0, 0, 0, 0, 7, [], []), (18, 17, 3, 0, 0, 0, 8, [], []), (2, 0, 2, 0, 0, 0, 9, [], []), (2, 5, 0, 0, 0, 0, 10, [], []), (23, 0, 1, 0, 0, 0, 11, [], []), (2, 4, 0, 0, 0, 0, 12, [], []), (18, 15, 1, 0, 0, 0, 13, [], []), (2, 5, 0, 0, 0, 0, 14, [], []), (34, 0, 1, 0, 0, 0, 15, [], []), (4, 5, 0, 1, 0, 0, 16, [], []), (16, 5, 0, 0, 0, 0, 17, [], []), (0, 0, 0, (-1), 0, 0, 18, [], []), (34, 0, 1, 0, 0, 0, 19, [], [])]
noncomputable def pc_193 : List (List mOp) := [pc_193_0]
/-- 194: java/lang/Integer.bitCount(I)I -/
noncomputable def pc_194_0 : List mOp := [(2, 0, 0, 0, 0, 1, 1, [], []), (2, 0, 0, 0, 0, 0, 2, [], []), (0, 0, 0, 1, 0, 0, 3, [], []), (5, 0, 8, 0, 0, 0, 4, [], []), (0, 0, 0, 1431655765, 0, 0, 5, [], []), (5, 0, 3, 0, 0, 0, 6, [], []), (5, 0, 1, 0, 0, 0, 7, [], []), (3, 0, 0, 0, 0, 0, 8, [], []), (2, 0, 0, 0, 0, 0, 9, [], []), (0, 0, 0, 858993459, 0, 0, 10, [], []), (5, 0, 3, 0, 0, 0, 11, [], []), (2, 0, 0, 0, 0, 0, 12, [], []), (0, 0, 0, 2, 0, 0, 13, [], []), (5, 0, 8, 0, 0, 0, 14, [], []), (0, 0, 0, 858993459, 0, 0, 15, [], []), (5, 0, 3, 0, 0, 0, 16, [], []), (5, 0, 0, 0, 0, 0, 17, [], []), (3, 0, 0, 0, 0, 0, 18, [], []), (2, 0, 0, 0, 0, 0, 19, [], []), (2, 0, 0, 0, 0, 0, 20, [], []), (0, 0, 0, 4, 0, 0, 21, [], []), (5, 0, 8, 0, 0, 0, 22, [], []), (5, 0, 0, 0, 0, 0, 23, [], []), (0, 0, 0, 252645135, 0, 0, 24, [], []), (5, 0, 3, 0, 0, 0, 25, [], []), (3, 0, 0, 0, 0, 0, 26, [], []), (2, 0, 0, 0, 0, 0, 27, [], []), (2, 0, 0, 0, 0, 0, 28, [], []), (0, 0, 0, 8, 0, 0, 29, [], []), (5, 0, 8, 0, 0, 0, 30, [], []), (5, 0, 0, 0, 0, 0, 31, [], []), (3, 0, 0, 0, 0, 0, 32, [], [])]
noncomputable def pc_194_1 : List mOp := [(2, 0, 0, 0, 0, 0, 33, [], []), (2, 0, 0, 0, 0, 0, 34, [], []), (0, 0, 0, 16, 0, 0, 35, [], []), (5, 0, 8, 0, 0, 0, 36, [], []), (5, 0, 0, 0, 0, 0, 37, [], []), (3, 0, 0, 0, 0, 0, 38, [], []), (2, 0, 0, 0, 0, 0, 39, [], []), (0, 0, 0, 63, 0, 0, 40, [], []), (5, 0, 3, 0, 0, 0, 41, [], []), (34, 0, 1, 0, 0, 0, 42, [], [])]
noncomputable def pc_194 : List (List mOp) := [pc_194_0, pc_194_1]
/-- 195: java/util/Arrays.fill([II)V -/
noncomputable def pc_195_0 : List mOp := [(0, 0, 0, 0, 0, 1, 1, [], []), (3, 2, 0, 0, 0, 0, 2, [], []), (2, 0, 2, 0, 0, 0, 3, [], []), (29, 0, 0, 0, 0, 0, 4, [], []), (3, 3, 0, 0, 0, 0, 5, [], []), (2, 2, 0, 0, 0, 1, 6, [], []), (2, 3, 0, 0, 0, 0, 7, [], []), (18, 14, 3, 0, 0, 0, 8, [], []), (2, 0, 2, 0, 0, 0, 9, [], []), (2, 2, 0, 0, 0, 0, 10, [], []), (2, 1, 0, 0, 0, 0, 11, [], []), (26, 0, 0, 0, 0, 0, 12, [], []), (4, 2, 0, 1, 0, 0, 13, [], []), (16, 5, 0, 0, 0, 0, 14, [], []), (34, 0, 0, 0, 0, 0, 15, [], [])]
noncomputable def pc_195 : List (List mOp) := [pc_195_0]
/-- 196: PotAndFineLaw.law -/
noncomputable def pc_196_0 : List mOp := [(30, 6, 10, 0, 0, 1, 1, [], []), (14, 0, 0, 0, 0, 0, 2, [], []), (33, 45, 1, 0, 0, 0, 3, [], []), (3, 1, 2, 0, 0, 0, 4, [], []), (30, 7, 31, 0, 0, 0, 5, [], []), (14, 0, 0, 0, 0, 0, 6, [], []), (33, 104, 1, 0, 0, 0, 7, [], []), (3, 2, 2, 0, 0, 0, 8, [], []), (0, 0, 0, 0, 0, 0, 9, [], []), (3, 3, 0, 0, 0, 0, 10, [], []), (2, 3, 0, 0, 0, 1, 11, [], []), (2, 0, 2, 0, 0, 0, 12, [], []), (29, 0, 0, 0, 0, 0, 13, [], []), (0, 0, 0, 4, 0, 0, 14, [], []), (5, 0, 1, 0, 0, 0, 15, [], []), (18, 833, 4, 0, 0, 0, 16, [], []), (2, 0, 2, 0, 0, 0, 17, [], []), (2, 3, 0, 0, 0, 0, 18, [], []), (23, 0, 0, 0, 0, 0, 19, [], []), (0, 0, 0, 63, 0, 0, 20, [], []), (5, 0, 3, 0, 0, 0, 21, [], []), (19, 831, 0, 0, 0, 0, 22, [22, 73, 80, 105, 112, 119, 136, 163, 200, 227, 244, 271, 308, 325, 342, 370, 406, 433, 440, 447, 464, 491, 498, 506, 513, 531, 538, 546, 573, 611, 628, 665, 702, 729, 746, 773, 780, 797, 814], []), (2, 1, 2, 0, 0, 1, 23, [], []), (2, 0, 2, 0, 0, 0, 24, [], []), (2, 3, 0, 0, 0, 0, 25, [], []), (0, 0, 0, 1, 0, 0, 26, [], []), (5, 0, 0, 0, 0, 0, 27, [], []), (23, 0, 0, 0, 0, 0, 28, [], []), (2, 0, 2, 0, 0, 0, 29, [], []), (2, 3, 0, 0, 0, 0, 30, [], []), (0, 0, 0, 2, 0, 0, 31, [], []), (5, 0, 0, 0, 0, 0, 32, [], [])]
noncomputable def pc_196_1 : List mOp := [(23, 0, 0, 0, 0, 0, 33, [], []), (12, 0, 0, 0, 0, 0, 34, [], []), (0, 0, 0, 32, 0, 0, 35, [], []), (11, 0, 0, 0, 0, 0, 36, [], []), (2, 0, 2, 0, 0, 0, 37, [], []), (2, 3, 0, 0, 0, 0, 38, [], []), (0, 0, 0, 3, 0, 0, 39, [], []), (5, 0, 0, 0, 0, 0, 40, [], []), (23, 0, 0, 0, 0, 0, 41, [], []), (12, 0, 0, 0, 0, 0, 42, [], []), (1, 0, 0, 0, 4294967295, 0, 43, [], []), (9, 0, 3, 0, 0, 0, 44, [], []), (9, 0, 4, 0, 0, 0, 45, [], []), (33, 46, 3, 0, 0, 0, 46, [], []), (2, 2, 2, 0, 0, 0, 47, [], []), (2, 0, 2, 0, 0, 0, 48, [], []), (2, 3, 0, 0, 0, 0, 49, [], []), (0, 0, 0, 1, 0, 0, 50, [], []), (5, 0, 0, 0, 0, 0, 51, [], []), (23, 0, 0, 0, 0, 0, 52, [], []), (2, 0, 2, 0, 0, 0, 53, [], []), (2, 3, 0, 0, 0, 0, 54, [], []), (0, 0, 0, 2, 0, 0, 55, [], []), (5, 0, 0, 0, 0, 0, 56, [], []), (23, 0, 0, 0, 0, 0, 57, [], []), (12, 0, 0, 0, 0, 0, 58, [], []), (0, 0, 0, 32, 0, 0, 59, [], []), (11, 0, 0, 0, 0, 0, 60, [], []), (2, 0, 2, 0, 0, 0, 61, [], []), (2, 3, 0, 0, 0, 0, 62, [], []), (0, 0, 0, 3, 0, 0, 63, [], []), (5, 0, 0, 0, 0, 0, 64, [], [])]
noncomputable def pc_196_2 : List mOp := [(23, 0, 0, 0, 0, 0, 65, [], []), (12, 0, 0, 0, 0, 0, 66, [], []), (1, 0, 0, 0, 4294967295, 0, 67, [], []), (9, 0, 3, 0, 0, 0, 68, [], []), (9, 0, 4, 0, 0, 0, 69, [], []), (33, 109, 3, 0, 0, 0, 70, [], []), (18, 831, 0, 0, 0, 0, 71, [], []), (0, 0, 0, 0, 0, 0, 72, [], []), (34, 0, 4, 0, 0, 0, 73, [], []), (2, 1, 2, 0, 0, 1, 74, [], []), (33, 47, 1, 0, 0, 0, 75, [], []), (2, 2, 2, 0, 0, 0, 76, [], []), (33, 110, 1, 0, 0, 0, 77, [], []), (18, 831, 0, 0, 0, 0, 78, [], []), (0, 0, 0, 0, 0, 0, 79, [], []), (34, 0, 4, 0, 0, 0, 80, [], []), (2, 1, 2, 0, 0, 1, 81, [], []), (2, 0, 2, 0, 0, 0, 82, [], []), (2, 3, 0, 0, 0, 0, 83, [], []), (0, 0, 0, 1, 0, 0, 84, [], []), (5, 0, 0, 0, 0, 0, 85, [], []), (23, 0, 0, 0, 0, 0, 86, [], []), (17, 89, 0, 0, 0, 0, 87, [], []), (0, 0, 0, 1, 0, 0, 88, [], []), (16, 90, 0, 0, 0, 0, 89, [], []), (0, 0, 0, 0, 0, 0, 90, [], []), (33, 48, 2, 0, 0, 0, 91, [], []), (2, 2, 2, 0, 0, 0, 92, [], []), (2, 0, 2, 0, 0, 0, 93, [], []), (2, 3, 0, 0, 0, 0, 94, [], []), (0, 0, 0, 1, 0, 0, 95, [], []), (5, 0, 0, 0, 0, 0, 96, [], [])]
noncomputable def pc_196_3 : List mOp := [(23, 0, 0, 0, 0, 0, 97, [], []), (17, 100, 0, 0, 0, 0, 98, [], []), (0, 0, 0, 1, 0, 0, 99, [], []), (16, 101, 0, 0, 0, 0, 100, [], []), (0, 0, 0, 0, 0, 0, 101, [], []), (33, 116, 2, 0, 0, 1, 102, [], []), (18, 831, 0, 0, 0, 0, 103, [], []), (0, 0, 0, 0, 0, 0, 104, [], []), (34, 0, 4, 0, 0, 0, 105, [], []), (2, 1, 2, 0, 0, 1, 106, [], []), (33, 49, 1, 0, 0, 0, 107, [], []), (2, 2, 2, 0, 0, 0, 108, [], []), (33, 117, 1, 0, 0, 0, 109, [], []), (18, 831, 0, 0, 0, 0, 110, [], []), (0, 0, 0, 0, 0, 0, 111, [], []), (34, 0, 4, 0, 0, 0, 112, [], []), (2, 1, 2, 0, 0, 1, 113, [], []), (33, 50, 1, 0, 0, 0, 114, [], []), (2, 2, 2, 0, 0, 0, 115, [], []), (33, 118, 1, 0, 0, 0, 116, [], []), (18, 831, 0, 0, 0, 0, 117, [], []), (0, 0, 0, 0, 0, 0, 118, [], []), (34, 0, 4, 0, 0, 0, 119, [], []), (2, 1, 2, 0, 0, 1, 120, [], []), (2, 0, 2, 0, 0, 0, 121, [], []), (2, 3, 0, 0, 0, 0, 122, [], []), (0, 0, 0, 1, 0, 0, 123, [], []), (5, 0, 0, 0, 0, 0, 124, [], []), (23, 0, 0, 0, 0, 0, 125, [], []), (33, 51, 2, 0, 0, 0, 126, [], []), (2, 2, 2, 0, 0, 0, 127, [], []), (2, 0, 2, 0, 0, 0, 128, [], [])]
noncomputable def pc_196_4 : List mOp := [(2, 3, 0, 0, 0, 0, 129, [], []), (0, 0, 0, 1, 0, 0, 130, [], []), (5, 0, 0, 0, 0, 0, 131, [], []), (23, 0, 0, 0, 0, 0, 132, [], []), (33, 119, 2, 0, 0, 0, 133, [], []), (18, 831, 0, 0, 0, 0, 134, [], []), (0, 0, 0, 0, 0, 0, 135, [], []), (34, 0, 4, 0, 0, 0, 136, [], []), (2, 1, 2, 0, 0, 1, 137, [], []), (2, 0, 2, 0, 0, 0, 138, [], []), (2, 3, 0, 0, 0, 0, 139, [], []), (0, 0, 0, 1, 0, 0, 140, [], []), (5, 0, 0, 0, 0, 0, 141, [], []), (23, 0, 0, 0, 0, 0, 142, [], []), (2, 0, 2, 0, 0, 0, 143, [], []), (2, 3, 0, 0, 0, 0, 144, [], []), (0, 0, 0, 2, 0, 0, 145, [], []), (5, 0, 0, 0, 0, 0, 146, [], []), (23, 0, 0, 0, 0, 0, 147, [], []), (33, 52, 3, 0, 0, 0, 148, [], []), (2, 2, 2, 0, 0, 0, 149, [], []), (2, 0, 2, 0, 0, 0, 150, [], []), (2, 3, 0, 0, 0, 0, 151, [], []), (0, 0, 0, 1, 0, 0, 152, [], []), (5, 0, 0, 0, 0, 0, 153, [], []), (23, 0, 0, 0, 0, 0, 154, [], []), (2, 0, 2, 0, 0, 0, 155, [], []), (2, 3, 0, 0, 0, 0, 156, [], []), (0, 0, 0, 2, 0, 0, 157, [], []), (5, 0, 0, 0, 0, 0, 158, [], []), (23, 0, 0, 0, 0, 0, 159, [], []), (33, 120, 3, 0, 0, 0, 160, [], [])]
noncomputable def pc_196_5 : List mOp := [(18, 831, 0, 0, 0, 0, 161, [], []), (0, 0, 0, 0, 0, 0, 162, [], []), (34, 0, 4, 0, 0, 0, 163, [], []), (2, 1, 2, 0, 0, 1, 164, [], []), (2, 0, 2, 0, 0, 0, 165, [], []), (2, 3, 0, 0, 0, 0, 166, [], []), (0, 0, 0, 1, 0, 0, 167, [], []), (5, 0, 0, 0, 0, 0, 168, [], []), (23, 0, 0, 0, 0, 0, 169, [], []), (2, 0, 2, 0, 0, 0, 170, [], []), (2, 3, 0, 0, 0, 0, 171, [], []), (0, 0, 0, 2, 0, 0, 172, [], []), (5, 0, 0, 0, 0, 0, 173, [], []), (23, 0, 0, 0, 0, 0, 174, [], []), (2, 0, 2, 0, 0, 0, 175, [], []), (2, 3, 0, 0, 0, 0, 176, [], []), (0, 0, 0, 3, 0, 0, 177, [], []), (5, 0, 0, 0, 0, 0, 178, [], []), (23, 0, 0, 0, 0, 0, 179, [], []), (33, 53, 4, 0, 0, 0, 180, [], []), (2, 2, 2, 0, 0, 0, 181, [], []), (2, 0, 2, 0, 0, 0, 182, [], []), (2, 3, 0, 0, 0, 0, 183, [], []), (0, 0, 0, 1, 0, 0, 184, [], []), (5, 0, 0, 0, 0, 0, 185, [], []), (23, 0, 0, 0, 0, 0, 186, [], []), (2, 0, 2, 0, 0, 0, 187, [], []), (2, 3, 0, 0, 0, 0, 188, [], []), (0, 0, 0, 2, 0, 0, 189, [], []), (5, 0, 0, 0, 0, 0, 190, [], []), (23, 0, 0, 0, 0, 0, 191, [], []), (2, 0, 2, 0, 0, 0, 192, [], [])]
noncomputable def pc_196_6 : List mOp := [(2, 3, 0, 0, 0, 0, 193, [], []), (0, 0, 0, 3, 0, 0, 194, [], []), (5, 0, 0, 0, 0, 0, 195, [], []), (23, 0, 0, 0, 0, 0, 196, [], []), (33, 121, 4, 0, 0, 0, 197, [], []), (18, 831, 0, 0, 0, 0, 198, [], []), (0, 0, 0, 0, 0, 0, 199, [], []), (34, 0, 4, 0, 0, 0, 200, [], []), (2, 1, 2, 0, 0, 1, 201, [], []), (2, 0, 2, 0, 0, 0, 202, [], []), (2, 3, 0, 0, 0, 0, 203, [], []), (0, 0, 0, 1, 0, 0, 204, [], []), (5, 0, 0, 0, 0, 0, 205, [], []), (23, 0, 0, 0, 0, 0, 206, [], []), (2, 0, 2, 0, 0, 0, 207, [], []), (2, 3, 0, 0, 0, 0, 208, [], []), (0, 0, 0, 2, 0, 0, 209, [], []), (5, 0, 0, 0, 0, 0, 210, [], []), (23, 0, 0, 0, 0, 0, 211, [], []), (33, 54, 3, 0, 0, 0, 212, [], []), (2, 2, 2, 0, 0, 0, 213, [], []), (2, 0, 2, 0, 0, 0, 214, [], []), (2, 3, 0, 0, 0, 0, 215, [], []), (0, 0, 0, 1, 0, 0, 216, [], []), (5, 0, 0, 0, 0, 0, 217, [], []), (23, 0, 0, 0, 0, 0, 218, [], []), (2, 0, 2, 0, 0, 0, 219, [], []), (2, 3, 0, 0, 0, 0, 220, [], []), (0, 0, 0, 2, 0, 0, 221, [], []), (5, 0, 0, 0, 0, 0, 222, [], []), (23, 0, 0, 0, 0, 0, 223, [], []), (33, 123, 3, 0, 0, 0, 224, [], [])]
noncomputable def pc_196_7 : List mOp := [(18, 831, 0, 0, 0, 0, 225, [], []), (0, 0, 0, 0, 0, 0, 226, [], []), (34, 0, 4, 0, 0, 0, 227, [], []), (2, 1, 2, 0, 0, 1, 228, [], []), (2, 0, 2, 0, 0, 0, 229, [], []), (2, 3, 0, 0, 0, 0, 230, [], []), (0, 0, 0, 1, 0, 0, 231, [], []), (5, 0, 0, 0, 0, 0, 232, [], []), (23, 0, 0, 0, 0, 0, 233, [], []), (33, 55, 2, 0, 0, 0, 234, [], []), (2, 2, 2, 0, 0, 0, 235, [], []), (2, 0, 2, 0, 0, 0, 236, [], []), (2, 3, 0, 0, 0, 0, 237, [], []), (0, 0, 0, 1, 0, 0, 238, [], []), (5, 0, 0, 0, 0, 0, 239, [], []), (23, 0, 0, 0, 0, 0, 240, [], []), (33, 124, 2, 0, 0, 0, 241, [], []), (18, 831, 0, 0, 0, 0, 242, [], []), (0, 0, 0, 0, 0, 0, 243, [], []), (34, 0, 4, 0, 0, 0, 244, [], []), (2, 1, 2, 0, 0, 1, 245, [], []), (2, 0, 2, 0, 0, 0, 246, [], []), (2, 3, 0, 0, 0, 0, 247, [], []), (0, 0, 0, 1, 0, 0, 248, [], []), (5, 0, 0, 0, 0, 0, 249, [], []), (23, 0, 0, 0, 0, 0, 250, [], []), (2, 0, 2, 0, 0, 0, 251, [], []), (2, 3, 0, 0, 0, 0, 252, [], []), (0, 0, 0, 2, 0, 0, 253, [], []), (5, 0, 0, 0, 0, 0, 254, [], []), (23, 0, 0, 0, 0, 0, 255, [], []), (33, 56, 3, 0, 0, 0, 256, [], [])]
noncomputable def pc_196_8 : List mOp := [(2, 2, 2, 0, 0, 0, 257, [], []), (2, 0, 2, 0, 0, 0, 258, [], []), (2, 3, 0, 0, 0, 0, 259, [], []), (0, 0, 0, 1, 0, 0, 260, [], []), (5, 0, 0, 0, 0, 0, 261, [], []), (23, 0, 0, 0, 0, 0, 262, [], []), (2, 0, 2, 0, 0, 0, 263, [], []), (2, 3, 0, 0, 0, 0, 264, [], []), (0, 0, 0, 2, 0, 0, 265, [], []), (5, 0, 0, 0, 0, 0, 266, [], []), (23, 0, 0, 0, 0, 0, 267, [], []), (33, 140, 3, 0, 0, 0, 268, [], []), (18, 831, 0, 0, 0, 0, 269, [], []), (0, 0, 0, 0, 0, 0, 270, [], []), (34, 0, 4, 0, 0, 0, 271, [], []), (2, 1, 2, 0, 0, 1, 272, [], []), (2, 0, 2, 0, 0, 0, 273, [], []), (2, 3, 0, 0, 0, 0, 274, [], []), (0, 0, 0, 1, 0, 0, 275, [], []), (5, 0, 0, 0, 0, 0, 276, [], []), (23, 0, 0, 0, 0, 0, 277, [], []), (2, 0, 2, 0, 0, 0, 278, [], []), (2, 3, 0, 0, 0, 0, 279, [], []), (0, 0, 0, 2, 0, 0, 280, [], []), (5, 0, 0, 0, 0, 0, 281, [], []), (23, 0, 0, 0, 0, 0, 282, [], []), (2, 0, 2, 0, 0, 0, 283, [], []), (2, 3, 0, 0, 0, 0, 284, [], []), (0, 0, 0, 3, 0, 0, 285, [], []), (5, 0, 0, 0, 0, 0, 286, [], []), (23, 0, 0, 0, 0, 0, 287, [], []), (33, 57, 4, 0, 0, 0, 288, [], [])]
noncomputable def pc_196_9 : List mOp := [(2, 2, 2, 0, 0, 0, 289, [], []), (2, 0, 2, 0, 0, 0, 290, [], []), (2, 3, 0, 0, 0, 0, 291, [], []), (0, 0, 0, 1, 0, 0, 292, [], []), (5, 0, 0, 0, 0, 0, 293, [], []), (23, 0, 0, 0, 0, 0, 294, [], []), (2, 0, 2, 0, 0, 0, 295, [], []), (2, 3, 0, 0, 0, 0, 296, [], []), (0, 0, 0, 2, 0, 0, 297, [], []), (5, 0, 0, 0, 0, 0, 298, [], []), (23, 0, 0, 0, 0, 0, 299, [], []), (2, 0, 2, 0, 0, 0, 300, [], []), (2, 3, 0, 0, 0, 0, 301, [], []), (0, 0, 0, 3, 0, 0, 302, [], []), (5, 0, 0, 0, 0, 0, 303, [], []), (23, 0, 0, 0, 0, 0, 304, [], []), (33, 141, 4, 0, 0, 0, 305, [], []), (18, 831, 0, 0, 0, 0, 306, [], []), (0, 0, 0, 0, 0, 0, 307, [], []), (34, 0, 4, 0, 0, 0, 308, [], []), (2, 1, 2, 0, 0, 1, 309, [], []), (2, 0, 2, 0, 0, 0, 310, [], []), (2, 3, 0, 0, 0, 0, 311, [], []), (0, 0, 0, 1, 0, 0, 312, [], []), (5, 0, 0, 0, 0, 0, 313, [], []), (23, 0, 0, 0, 0, 0, 314, [], []), (33, 58, 2, 0, 0, 0, 315, [], []), (2, 2, 2, 0, 0, 0, 316, [], []), (2, 0, 2, 0, 0, 0, 317, [], []), (2, 3, 0, 0, 0, 0, 318, [], []), (0, 0, 0, 1, 0, 0, 319, [], []), (5, 0, 0, 0, 0, 0, 320, [], [])]
noncomputable def pc_196_10 : List mOp := [(23, 0, 0, 0, 0, 0, 321, [], []), (33, 143, 2, 0, 0, 0, 322, [], []), (18, 831, 0, 0, 0, 0, 323, [], []), (0, 0, 0, 0, 0, 0, 324, [], []), (34, 0, 4, 0, 0, 0, 325, [], []), (2, 1, 2, 0, 0, 1, 326, [], []), (2, 0, 2, 0, 0, 0, 327, [], []), (2, 3, 0, 0, 0, 0, 328, [], []), (0, 0, 0, 1, 0, 0, 329, [], []), (5, 0, 0, 0, 0, 0, 330, [], []), (23, 0, 0, 0, 0, 0, 331, [], []), (33, 59, 2, 0, 0, 0, 332, [], []), (2, 2, 2, 0, 0, 0, 333, [], []), (2, 0, 2, 0, 0, 0, 334, [], []), (2, 3, 0, 0, 0, 0, 335, [], []), (0, 0, 0, 1, 0, 0, 336, [], []), (5, 0, 0, 0, 0, 0, 337, [], []), (23, 0, 0, 0, 0, 0, 338, [], []), (33, 144, 2, 0, 0, 0, 339, [], []), (18, 831, 0, 0, 0, 0, 340, [], []), (0, 0, 0, 0, 0, 0, 341, [], []), (34, 0, 4, 0, 0, 0, 342, [], []), (2, 1, 2, 0, 0, 1, 343, [], []), (2, 0, 2, 0, 0, 0, 344, [], []), (2, 3, 0, 0, 0, 0, 345, [], []), (0, 0, 0, 1, 0, 0, 346, [], []), (5, 0, 0, 0, 0, 0, 347, [], []), (23, 0, 0, 0, 0, 0, 348, [], []), (2, 0, 2, 0, 0, 0, 349, [], []), (2, 3, 0, 0, 0, 0, 350, [], []), (0, 0, 0, 2, 0, 0, 351, [], []), (5, 0, 0, 0, 0, 0, 352, [], [])]
noncomputable def pc_196_11 : List mOp := [(23, 0, 0, 0, 0, 0, 353, [], []), (33, 60, 3, 0, 0, 0, 354, [], []), (2, 2, 2, 0, 0, 0, 355, [], []), (2, 0, 2, 0, 0, 0, 356, [], []), (2, 3, 0, 0, 0, 0, 357, [], []), (0, 0, 0, 1, 0, 0, 358, [], []), (5, 0, 0, 0, 0, 0, 359, [], []), (23, 0, 0, 0, 0, 0, 360, [], []), (2, 0, 2, 0, 0, 0, 361, [], []), (2, 3, 0, 0, 0, 0, 362, [], []), (0, 0, 0, 2, 0, 0, 363, [], []), (5, 0, 0, 0, 0, 0, 364, [], []), (23, 0, 0, 0, 0, 0, 365, [], []), (33, 145, 3, 0, 0, 0, 366, [], []), (13, 0, 0, 0, 0, 0, 367, [], []), (17, 831, 0, 0, 0, 0, 368, [], []), (0, 0, 0, 0, 0, 0, 369, [], []), (34, 0, 4, 0, 0, 0, 370, [], []), (2, 1, 2, 0, 0, 1, 371, [], []), (2, 0, 2, 0, 0, 0, 372, [], []), (2, 3, 0, 0, 0, 0, 373, [], []), (0, 0, 0, 1, 0, 0, 374, [], []), (5, 0, 0, 0, 0, 0, 375, [], []), (23, 0, 0, 0, 0, 0, 376, [], []), (2, 0, 2, 0, 0, 0, 377, [], []), (2, 3, 0, 0, 0, 0, 378, [], []), (0, 0, 0, 2, 0, 0, 379, [], []), (5, 0, 0, 0, 0, 0, 380, [], []), (23, 0, 0, 0, 0, 0, 381, [], []), (17, 384, 0, 0, 0, 0, 382, [], []), (0, 0, 0, 1, 0, 0, 383, [], []), (16, 385, 0, 0, 0, 0, 384, [], [])]
noncomputable def pc_196_12 : List mOp := [(0, 0, 0, 0, 0, 0, 385, [], []), (33, 61, 3, 0, 0, 0, 386, [], []), (2, 2, 2, 0, 0, 0, 387, [], []), (2, 0, 2, 0, 0, 0, 388, [], []), (2, 3, 0, 0, 0, 0, 389, [], []), (0, 0, 0, 1, 0, 0, 390, [], []), (5, 0, 0, 0, 0, 0, 391, [], []), (23, 0, 0, 0, 0, 0, 392, [], []), (2, 0, 2, 0, 0, 0, 393, [], []), (2, 3, 0, 0, 0, 0, 394, [], []), (0, 0, 0, 2, 0, 0, 395, [], []), (5, 0, 0, 0, 0, 0, 396, [], []), (23, 0, 0, 0, 0, 0, 397, [], []), (17, 400, 0, 0, 0, 0, 398, [], []), (0, 0, 0, 1, 0, 0, 399, [], []), (16, 401, 0, 0, 0, 0, 400, [], []), (0, 0, 0, 0, 0, 0, 401, [], []), (33, 146, 3, 0, 0, 1, 402, [], []), (13, 0, 0, 0, 0, 0, 403, [], []), (17, 831, 0, 0, 0, 0, 404, [], []), (0, 0, 0, 0, 0, 0, 405, [], []), (34, 0, 4, 0, 0, 0, 406, [], []), (2, 1, 2, 0, 0, 1, 407, [], []), (2, 0, 2, 0, 0, 0, 408, [], []), (2, 3, 0, 0, 0, 0, 409, [], []), (0, 0, 0, 1, 0, 0, 410, [], []), (5, 0, 0, 0, 0, 0, 411, [], []), (23, 0, 0, 0, 0, 0, 412, [], []), (2, 0, 2, 0, 0, 0, 413, [], []), (2, 3, 0, 0, 0, 0, 414, [], []), (0, 0, 0, 2, 0, 0, 415, [], []), (5, 0, 0, 0, 0, 0, 416, [], [])]
noncomputable def pc_196_13 : List mOp := [(23, 0, 0, 0, 0, 0, 417, [], []), (33, 62, 3, 0, 0, 0, 418, [], []), (2, 2, 2, 0, 0, 0, 419, [], []), (2, 0, 2, 0, 0, 0, 420, [], []), (2, 3, 0, 0, 0, 0, 421, [], []), (0, 0, 0, 1, 0, 0, 422, [], []), (5, 0, 0, 0, 0, 0, 423, [], []), (23, 0, 0, 0, 0, 0, 424, [], []), (2, 0, 2, 0, 0, 0, 425, [], []), (2, 3, 0, 0, 0, 0, 426, [], []), (0, 0, 0, 2, 0, 0, 427, [], []), (5, 0, 0, 0, 0, 0, 428, [], []), (23, 0, 0, 0, 0, 0, 429, [], []), (33, 147, 3, 0, 0, 0, 430, [], []), (18, 831, 0, 0, 0, 0, 431, [], []), (0, 0, 0, 0, 0, 0, 432, [], []), (34, 0, 4, 0, 0, 0, 433, [], []), (2, 1, 2, 0, 0, 1, 434, [], []), (33, 63, 1, 0, 0, 0, 435, [], []), (2, 2, 2, 0, 0, 0, 436, [], []), (33, 148, 1, 0, 0, 0, 437, [], []), (18, 831, 0, 0, 0, 0, 438, [], []), (0, 0, 0, 0, 0, 0, 439, [], []), (34, 0, 4, 0, 0, 0, 440, [], []), (2, 1, 2, 0, 0, 1, 441, [], []), (33, 64, 1, 0, 0, 0, 442, [], []), (2, 2, 2, 0, 0, 0, 443, [], []), (33, 149, 1, 0, 0, 0, 444, [], []), (18, 831, 0, 0, 0, 0, 445, [], []), (0, 0, 0, 0, 0, 0, 446, [], []), (34, 0, 4, 0, 0, 0, 447, [], []), (2, 1, 2, 0, 0, 1, 448, [], [])]
noncomputable def pc_196_14 : List mOp := [(2, 0, 2, 0, 0, 0, 449, [], []), (2, 3, 0, 0, 0, 0, 450, [], []), (0, 0, 0, 1, 0, 0, 451, [], []), (5, 0, 0, 0, 0, 0, 452, [], []), (23, 0, 0, 0, 0, 0, 453, [], []), (33, 65, 2, 0, 0, 0, 454, [], []), (2, 2, 2, 0, 0, 0, 455, [], []), (2, 0, 2, 0, 0, 0, 456, [], []), (2, 3, 0, 0, 0, 0, 457, [], []), (0, 0, 0, 1, 0, 0, 458, [], []), (5, 0, 0, 0, 0, 0, 459, [], []), (23, 0, 0, 0, 0, 0, 460, [], []), (33, 150, 2, 0, 0, 0, 461, [], []), (18, 831, 0, 0, 0, 0, 462, [], []), (0, 0, 0, 0, 0, 0, 463, [], []), (34, 0, 4, 0, 0, 0, 464, [], []), (2, 1, 2, 0, 0, 1, 465, [], []), (2, 0, 2, 0, 0, 0, 466, [], []), (2, 3, 0, 0, 0, 0, 467, [], []), (0, 0, 0, 1, 0, 0, 468, [], []), (5, 0, 0, 0, 0, 0, 469, [], []), (23, 0, 0, 0, 0, 0, 470, [], []), (2, 0, 2, 0, 0, 0, 471, [], []), (2, 3, 0, 0, 0, 0, 472, [], []), (0, 0, 0, 2, 0, 0, 473, [], []), (5, 0, 0, 0, 0, 0, 474, [], []), (23, 0, 0, 0, 0, 0, 475, [], []), (33, 66, 3, 0, 0, 0, 476, [], []), (2, 2, 2, 0, 0, 0, 477, [], []), (2, 0, 2, 0, 0, 0, 478, [], []), (2, 3, 0, 0, 0, 0, 479, [], []), (0, 0, 0, 1, 0, 0, 480, [], [])]
noncomputable def pc_196_15 : List mOp := [(5, 0, 0, 0, 0, 0, 481, [], []), (23, 0, 0, 0, 0, 0, 482, [], []), (2, 0, 2, 0, 0, 0, 483, [], []), (2, 3, 0, 0, 0, 0, 484, [], []), (0, 0, 0, 2, 0, 0, 485, [], []), (5, 0, 0, 0, 0, 0, 486, [], []), (23, 0, 0, 0, 0, 0, 487, [], []), (33, 151, 3, 0, 0, 0, 488, [], []), (18, 831, 0, 0, 0, 0, 489, [], []), (0, 0, 0, 0, 0, 0, 490, [], []), (34, 0, 4, 0, 0, 0, 491, [], []), (2, 1, 2, 0, 0, 1, 492, [], []), (33, 67, 1, 0, 0, 0, 493, [], []), (2, 2, 2, 0, 0, 0, 494, [], []), (33, 154, 1, 0, 0, 0, 495, [], []), (18, 831, 0, 0, 0, 0, 496, [], []), (0, 0, 0, 0, 0, 0, 497, [], []), (34, 0, 4, 0, 0, 0, 498, [], []), (2, 1, 2, 0, 0, 1, 499, [], []), (33, 68, 1, 0, 0, 0, 500, [], []), (2, 2, 2, 0, 0, 0, 501, [], []), (33, 155, 1, 0, 0, 0, 502, [], []), (13, 0, 0, 0, 0, 0, 503, [], []), (17, 831, 0, 0, 0, 0, 504, [], []), (0, 0, 0, 0, 0, 0, 505, [], []), (34, 0, 4, 0, 0, 0, 506, [], []), (2, 1, 2, 0, 0, 1, 507, [], []), (33, 69, 1, 0, 0, 0, 508, [], []), (2, 2, 2, 0, 0, 0, 509, [], []), (33, 158, 1, 0, 0, 0, 510, [], []), (18, 831, 0, 0, 0, 0, 511, [], []), (0, 0, 0, 0, 0, 0, 512, [], [])]
noncomputable def pc_196_16 : List mOp := [(34, 0, 4, 0, 0, 0, 513, [], []), (2, 1, 2, 0, 0, 1, 514, [], []), (2, 0, 2, 0, 0, 0, 515, [], []), (2, 3, 0, 0, 0, 0, 516, [], []), (0, 0, 0, 1, 0, 0, 517, [], []), (5, 0, 0, 0, 0, 0, 518, [], []), (23, 0, 0, 0, 0, 0, 519, [], []), (33, 70, 2, 0, 0, 0, 520, [], []), (2, 2, 2, 0, 0, 0, 521, [], []), (2, 0, 2, 0, 0, 0, 522, [], []), (2, 3, 0, 0, 0, 0, 523, [], []), (0, 0, 0, 1, 0, 0, 524, [], []), (5, 0, 0, 0, 0, 0, 525, [], []), (23, 0, 0, 0, 0, 0, 526, [], []), (33, 159, 2, 0, 0, 0, 527, [], []), (13, 0, 0, 0, 0, 0, 528, [], []), (17, 831, 0, 0, 0, 0, 529, [], []), (0, 0, 0, 0, 0, 0, 530, [], []), (34, 0, 4, 0, 0, 0, 531, [], []), (2, 1, 2, 0, 0, 1, 532, [], []), (33, 71, 1, 0, 0, 0, 533, [], []), (2, 2, 2, 0, 0, 0, 534, [], []), (33, 165, 1, 0, 0, 0, 535, [], []), (18, 831, 0, 0, 0, 0, 536, [], []), (0, 0, 0, 0, 0, 0, 537, [], []), (34, 0, 4, 0, 0, 0, 538, [], []), (2, 1, 2, 0, 0, 1, 539, [], []), (33, 72, 1, 0, 0, 0, 540, [], []), (2, 2, 2, 0, 0, 0, 541, [], []), (33, 166, 1, 0, 0, 0, 542, [], []), (13, 0, 0, 0, 0, 0, 543, [], []), (17, 831, 0, 0, 0, 0, 544, [], [])]
noncomputable def pc_196_17 : List mOp := [(0, 0, 0, 0, 0, 0, 545, [], []), (34, 0, 4, 0, 0, 0, 546, [], []), (2, 1, 2, 0, 0, 1, 547, [], []), (2, 0, 2, 0, 0, 0, 548, [], []), (2, 3, 0, 0, 0, 0, 549, [], []), (0, 0, 0, 1, 0, 0, 550, [], []), (5, 0, 0, 0, 0, 0, 551, [], []), (23, 0, 0, 0, 0, 0, 552, [], []), (2, 0, 2, 0, 0, 0, 553, [], []), (2, 3, 0, 0, 0, 0, 554, [], []), (0, 0, 0, 2, 0, 0, 555, [], []), (5, 0, 0, 0, 0, 0, 556, [], []), (23, 0, 0, 0, 0, 0, 557, [], []), (33, 73, 3, 0, 0, 0, 558, [], []), (2, 2, 2, 0, 0, 0, 559, [], []), (2, 0, 2, 0, 0, 0, 560, [], []), (2, 3, 0, 0, 0, 0, 561, [], []), (0, 0, 0, 1, 0, 0, 562, [], []), (5, 0, 0, 0, 0, 0, 563, [], []), (23, 0, 0, 0, 0, 0, 564, [], []), (2, 0, 2, 0, 0, 0, 565, [], []), (2, 3, 0, 0, 0, 0, 566, [], []), (0, 0, 0, 2, 0, 0, 567, [], []), (5, 0, 0, 0, 0, 0, 568, [], []), (23, 0, 0, 0, 0, 0, 569, [], []), (33, 169, 3, 0, 0, 0, 570, [], []), (18, 831, 0, 0, 0, 0, 571, [], []), (0, 0, 0, 0, 0, 0, 572, [], []), (34, 0, 4, 0, 0, 0, 573, [], []), (2, 1, 2, 0, 0, 1, 574, [], []), (2, 0, 2, 0, 0, 0, 575, [], []), (2, 3, 0, 0, 0, 0, 576, [], [])]
noncomputable def pc_196_18 : List mOp := [(0, 0, 0, 1, 0, 0, 577, [], []), (5, 0, 0, 0, 0, 0, 578, [], []), (23, 0, 0, 0, 0, 0, 579, [], []), (2, 0, 2, 0, 0, 0, 580, [], []), (2, 3, 0, 0, 0, 0, 581, [], []), (0, 0, 0, 2, 0, 0, 582, [], []), (5, 0, 0, 0, 0, 0, 583, [], []), (23, 0, 0, 0, 0, 0, 584, [], []), (2, 0, 2, 0, 0, 0, 585, [], []), (2, 3, 0, 0, 0, 0, 586, [], []), (0, 0, 0, 3, 0, 0, 587, [], []), (5, 0, 0, 0, 0, 0, 588, [], []), (23, 0, 0, 0, 0, 0, 589, [], []), (33, 74, 4, 0, 0, 0, 590, [], []), (2, 2, 2, 0, 0, 0, 591, [], []), (2, 0, 2, 0, 0, 0, 592, [], []), (2, 3, 0, 0, 0, 0, 593, [], []), (0, 0, 0, 1, 0, 0, 594, [], []), (5, 0, 0, 0, 0, 0, 595, [], []), (23, 0, 0, 0, 0, 0, 596, [], []), (2, 0, 2, 0, 0, 0, 597, [], []), (2, 3, 0, 0, 0, 0, 598, [], []), (0, 0, 0, 2, 0, 0, 599, [], []), (5, 0, 0, 0, 0, 0, 600, [], []), (23, 0, 0, 0, 0, 0, 601, [], []), (2, 0, 2, 0, 0, 0, 602, [], []), (2, 3, 0, 0, 0, 0, 603, [], []), (0, 0, 0, 3, 0, 0, 604, [], []), (5, 0, 0, 0, 0, 0, 605, [], []), (23, 0, 0, 0, 0, 0, 606, [], []), (33, 170, 4, 0, 0, 0, 607, [], []), (13, 0, 0, 0, 0, 0, 608, [], [])]
noncomputable def pc_196_19 : List mOp := [(17, 831, 0, 0, 0, 0, 609, [], []), (0, 0, 0, 0, 0, 0, 610, [], []), (34, 0, 4, 0, 0, 0, 611, [], []), (2, 1, 2, 0, 0, 1, 612, [], []), (2, 0, 2, 0, 0, 0, 613, [], []), (2, 3, 0, 0, 0, 0, 614, [], []), (0, 0, 0, 1, 0, 0, 615, [], []), (5, 0, 0, 0, 0, 0, 616, [], []), (23, 0, 0, 0, 0, 0, 617, [], []), (33, 75, 2, 0, 0, 0, 618, [], []), (2, 2, 2, 0, 0, 0, 619, [], []), (2, 0, 2, 0, 0, 0, 620, [], []), (2, 3, 0, 0, 0, 0, 621, [], []), (0, 0, 0, 1, 0, 0, 622, [], []), (5, 0, 0, 0, 0, 0, 623, [], []), (23, 0, 0, 0, 0, 0, 624, [], []), (33, 171, 2, 0, 0, 0, 625, [], []), (18, 831, 0, 0, 0, 0, 626, [], []), (0, 0, 0, 0, 0, 0, 627, [], []), (34, 0, 4, 0, 0, 0, 628, [], []), (2, 1, 2, 0, 0, 1, 629, [], []), (2, 0, 2, 0, 0, 0, 630, [], []), (2, 3, 0, 0, 0, 0, 631, [], []), (0, 0, 0, 1, 0, 0, 632, [], []), (5, 0, 0, 0, 0, 0, 633, [], []), (23, 0, 0, 0, 0, 0, 634, [], []), (2, 0, 2, 0, 0, 0, 635, [], []), (2, 3, 0, 0, 0, 0, 636, [], []), (0, 0, 0, 2, 0, 0, 637, [], []), (5, 0, 0, 0, 0, 0, 638, [], []), (23, 0, 0, 0, 0, 0, 639, [], []), (2, 0, 2, 0, 0, 0, 640, [], [])]
noncomputable def pc_196_20 : List mOp := [(2, 3, 0, 0, 0, 0, 641, [], []), (0, 0, 0, 3, 0, 0, 642, [], []), (5, 0, 0, 0, 0, 0, 643, [], []), (23, 0, 0, 0, 0, 0, 644, [], []), (33, 76, 4, 0, 0, 0, 645, [], []), (2, 2, 2, 0, 0, 0, 646, [], []), (2, 0, 2, 0, 0, 0, 647, [], []), (2, 3, 0, 0, 0, 0, 648, [], []), (0, 0, 0, 1, 0, 0, 649, [], []), (5, 0, 0, 0, 0, 0, 650, [], []), (23, 0, 0, 0, 0, 0, 651, [], []), (2, 0, 2, 0, 0, 0, 652, [], []), (2, 3, 0, 0, 0, 0, 653, [], []), (0, 0, 0, 2, 0, 0, 654, [], []), (5, 0, 0, 0, 0, 0, 655, [], []), (23, 0, 0, 0, 0, 0, 656, [], []), (2, 0, 2, 0, 0, 0, 657, [], []), (2, 3, 0, 0, 0, 0, 658, [], []), (0, 0, 0, 3, 0, 0, 659, [], []), (5, 0, 0, 0, 0, 0, 660, [], []), (23, 0, 0, 0, 0, 0, 661, [], []), (33, 173, 4, 0, 0, 0, 662, [], []), (18, 831, 0, 0, 0, 0, 663, [], []), (0, 0, 0, 0, 0, 0, 664, [], []), (34, 0, 4, 0, 0, 0, 665, [], []), (2, 1, 2, 0, 0, 1, 666, [], []), (2, 0, 2, 0, 0, 0, 667, [], []), (2, 3, 0, 0, 0, 0, 668, [], []), (0, 0, 0, 1, 0, 0, 669, [], []), (5, 0, 0, 0, 0, 0, 670, [], []), (23, 0, 0, 0, 0, 0, 671, [], []), (2, 0, 2, 0, 0, 0, 672, [], [])]
noncomputable def pc_196_21 : List mOp := [(2, 3, 0, 0, 0, 0, 673, [], []), (0, 0, 0, 2, 0, 0, 674, [], []), (5, 0, 0, 0, 0, 0, 675, [], []), (23, 0, 0, 0, 0, 0, 676, [], []), (2, 0, 2, 0, 0, 0, 677, [], []), (2, 3, 0, 0, 0, 0, 678, [], []), (0, 0, 0, 3, 0, 0, 679, [], []), (5, 0, 0, 0, 0, 0, 680, [], []), (23, 0, 0, 0, 0, 0, 681, [], []), (33, 77, 4, 0, 0, 0, 682, [], []), (2, 2, 2, 0, 0, 0, 683, [], []), (2, 0, 2, 0, 0, 0, 684, [], []), (2, 3, 0, 0, 0, 0, 685, [], []), (0, 0, 0, 1, 0, 0, 686, [], []), (5, 0, 0, 0, 0, 0, 687, [], []), (23, 0, 0, 0, 0, 0, 688, [], []), (2, 0, 2, 0, 0, 0, 689, [], []), (2, 3, 0, 0, 0, 0, 690, [], []), (0, 0, 0, 2, 0, 0, 691, [], []), (5, 0, 0, 0, 0, 0, 692, [], []), (23, 0, 0, 0, 0, 0, 693, [], []), (2, 0, 2, 0, 0, 0, 694, [], []), (2, 3, 0, 0, 0, 0, 695, [], []), (0, 0, 0, 3, 0, 0, 696, [], []), (5, 0, 0, 0, 0, 0, 697, [], []), (23, 0, 0, 0, 0, 0, 698, [], []), (33, 176, 4, 0, 0, 0, 699, [], []), (18, 831, 0, 0, 0, 0, 700, [], []), (0, 0, 0, 0, 0, 0, 701, [], []), (34, 0, 4, 0, 0, 0, 702, [], []), (2, 1, 2, 0, 0, 1, 703, [], []), (2, 0, 2, 0, 0, 0, 704, [], [])]
noncomputable def pc_196_22 : List mOp := [(2, 3, 0, 0, 0, 0, 705, [], []), (0, 0, 0, 1, 0, 0, 706, [], []), (5, 0, 0, 0, 0, 0, 707, [], []), (23, 0, 0, 0, 0, 0, 708, [], []), (2, 0, 2, 0, 0, 0, 709, [], []), (2, 3, 0, 0, 0, 0, 710, [], []), (0, 0, 0, 2, 0, 0, 711, [], []), (5, 0, 0, 0, 0, 0, 712, [], []), (23, 0, 0, 0, 0, 0, 713, [], []), (33, 78, 3, 0, 0, 0, 714, [], []), (2, 2, 2, 0, 0, 0, 715, [], []), (2, 0, 2, 0, 0, 0, 716, [], []), (2, 3, 0, 0, 0, 0, 717, [], []), (0, 0, 0, 1, 0, 0, 718, [], []), (5, 0, 0, 0, 0, 0, 719, [], []), (23, 0, 0, 0, 0, 0, 720, [], []), (2, 0, 2, 0, 0, 0, 721, [], []), (2, 3, 0, 0, 0, 0, 722, [], []), (0, 0, 0, 2, 0, 0, 723, [], []), (5, 0, 0, 0, 0, 0, 724, [], []), (23, 0, 0, 0, 0, 0, 725, [], []), (33, 178, 3, 0, 0, 0, 726, [], []), (18, 831, 0, 0, 0, 0, 727, [], []), (0, 0, 0, 0, 0, 0, 728, [], []), (34, 0, 4, 0, 0, 0, 729, [], []), (2, 1, 2, 0, 0, 1, 730, [], []), (2, 0, 2, 0, 0, 0, 731, [], []), (2, 3, 0, 0, 0, 0, 732, [], []), (0, 0, 0, 1, 0, 0, 733, [], []), (5, 0, 0, 0, 0, 0, 734, [], []), (23, 0, 0, 0, 0, 0, 735, [], []), (33, 79, 2, 0, 0, 0, 736, [], [])]
noncomputable def pc_196_23 : List mOp := [(2, 2, 2, 0, 0, 0, 737, [], []), (2, 0, 2, 0, 0, 0, 738, [], []), (2, 3, 0, 0, 0, 0, 739, [], []), (0, 0, 0, 1, 0, 0, 740, [], []), (5, 0, 0, 0, 0, 0, 741, [], []), (23, 0, 0, 0, 0, 0, 742, [], []), (33, 179, 2, 0, 0, 0, 743, [], []), (18, 831, 0, 0, 0, 0, 744, [], []), (0, 0, 0, 0, 0, 0, 745, [], []), (34, 0, 4, 0, 0, 0, 746, [], []), (2, 1, 2, 0, 0, 1, 747, [], []), (2, 0, 2, 0, 0, 0, 748, [], []), (2, 3, 0, 0, 0, 0, 749, [], []), (0, 0, 0, 1, 0, 0, 750, [], []), (5, 0, 0, 0, 0, 0, 751, [], []), (23, 0, 0, 0, 0, 0, 752, [], []), (2, 0, 2, 0, 0, 0, 753, [], []), (2, 3, 0, 0, 0, 0, 754, [], []), (0, 0, 0, 2, 0, 0, 755, [], []), (5, 0, 0, 0, 0, 0, 756, [], []), (23, 0, 0, 0, 0, 0, 757, [], []), (33, 80, 3, 0, 0, 0, 758, [], []), (2, 2, 2, 0, 0, 0, 759, [], []), (2, 0, 2, 0, 0, 0, 760, [], []), (2, 3, 0, 0, 0, 0, 761, [], []), (0, 0, 0, 1, 0, 0, 762, [], []), (5, 0, 0, 0, 0, 0, 763, [], []), (23, 0, 0, 0, 0, 0, 764, [], []), (2, 0, 2, 0, 0, 0, 765, [], []), (2, 3, 0, 0, 0, 0, 766, [], []), (0, 0, 0, 2, 0, 0, 767, [], []), (5, 0, 0, 0, 0, 0, 768, [], [])]
noncomputable def pc_196_24 : List mOp := [(23, 0, 0, 0, 0, 0, 769, [], []), (33, 180, 3, 0, 0, 0, 770, [], []), (18, 831, 0, 0, 0, 0, 771, [], []), (0, 0, 0, 0, 0, 0, 772, [], []), (34, 0, 4, 0, 0, 0, 773, [], []), (2, 1, 2, 0, 0, 1, 774, [], []), (33, 81, 1, 0, 0, 0, 775, [], []), (2, 2, 2, 0, 0, 0, 776, [], []), (33, 181, 1, 0, 0, 0, 777, [], []), (18, 831, 0, 0, 0, 0, 778, [], []), (0, 0, 0, 0, 0, 0, 779, [], []), (34, 0, 4, 0, 0, 0, 780, [], []), (2, 1, 2, 0, 0, 1, 781, [], []), (2, 0, 2, 0, 0, 0, 782, [], []), (2, 3, 0, 0, 0, 0, 783, [], []), (0, 0, 0, 1, 0, 0, 784, [], []), (5, 0, 0, 0, 0, 0, 785, [], []), (23, 0, 0, 0, 0, 0, 786, [], []), (33, 82, 2, 0, 0, 0, 787, [], []), (2, 2, 2, 0, 0, 0, 788, [], []), (2, 0, 2, 0, 0, 0, 789, [], []), (2, 3, 0, 0, 0, 0, 790, [], []), (0, 0, 0, 1, 0, 0, 791, [], []), (5, 0, 0, 0, 0, 0, 792, [], []), (23, 0, 0, 0, 0, 0, 793, [], []), (33, 183, 2, 0, 0, 0, 794, [], []), (18, 831, 0, 0, 0, 0, 795, [], []), (0, 0, 0, 0, 0, 0, 796, [], []), (34, 0, 4, 0, 0, 0, 797, [], []), (2, 1, 2, 0, 0, 1, 798, [], []), (2, 0, 2, 0, 0, 0, 799, [], []), (2, 3, 0, 0, 0, 0, 800, [], [])]
noncomputable def pc_196_25 : List mOp := [(0, 0, 0, 1, 0, 0, 801, [], []), (5, 0, 0, 0, 0, 0, 802, [], []), (23, 0, 0, 0, 0, 0, 803, [], []), (33, 83, 2, 0, 0, 0, 804, [], []), (2, 2, 2, 0, 0, 0, 805, [], []), (2, 0, 2, 0, 0, 0, 806, [], []), (2, 3, 0, 0, 0, 0, 807, [], []), (0, 0, 0, 1, 0, 0, 808, [], []), (5, 0, 0, 0, 0, 0, 809, [], []), (23, 0, 0, 0, 0, 0, 810, [], []), (33, 184, 2, 0, 0, 0, 811, [], []), (18, 831, 0, 0, 0, 0, 812, [], []), (0, 0, 0, 0, 0, 0, 813, [], []), (34, 0, 4, 0, 0, 0, 814, [], []), (2, 1, 2, 0, 0, 1, 815, [], []), (2, 0, 2, 0, 0, 0, 816, [], []), (2, 3, 0, 0, 0, 0, 817, [], []), (0, 0, 0, 1, 0, 0, 818, [], []), (5, 0, 0, 0, 0, 0, 819, [], []), (23, 0, 0, 0, 0, 0, 820, [], []), (33, 84, 2, 0, 0, 0, 821, [], []), (2, 2, 2, 0, 0, 0, 822, [], []), (2, 0, 2, 0, 0, 0, 823, [], []), (2, 3, 0, 0, 0, 0, 824, [], []), (0, 0, 0, 1, 0, 0, 825, [], []), (5, 0, 0, 0, 0, 0, 826, [], []), (23, 0, 0, 0, 0, 0, 827, [], []), (33, 185, 2, 0, 0, 0, 828, [], []), (18, 831, 0, 0, 0, 0, 829, [], []), (0, 0, 0, 0, 0, 0, 830, [], []), (34, 0, 4, 0, 0, 0, 831, [], []), (4, 3, 0, 4, 0, 1, 832, [], [])]
noncomputable def pc_196_26 : List mOp := [(16, 10, 0, 0, 0, 0, 833, [], []), (0, 0, 0, 1, 0, 0, 834, [], []), (34, 0, 4, 0, 0, 0, 835, [], [])]
noncomputable def pc_196 : List (List mOp) := [pc_196_0, pc_196_1, pc_196_2, pc_196_3, pc_196_4, pc_196_5, pc_196_6, pc_196_7, pc_196_8, pc_196_9, pc_196_10, pc_196_11, pc_196_12, pc_196_13, pc_196_14, pc_196_15, pc_196_16, pc_196_17, pc_196_18, pc_196_19, pc_196_20, pc_196_21, pc_196_22, pc_196_23, pc_196_24, pc_196_25, pc_196_26]
noncomputable def pcs : List (List (List (List mOp))) := [[pc_0, pc_1, pc_2, pc_3, pc_4, pc_5, pc_6, pc_7, pc_8, pc_9, pc_10, pc_11, pc_12, pc_13, pc_14, pc_15],
  [pc_16, pc_17, pc_18, pc_19, pc_20, pc_21, pc_22, pc_23, pc_24, pc_25, pc_26, pc_27, pc_28, pc_29, pc_30, pc_31],
  [pc_32, pc_33, pc_34, pc_35, pc_36, pc_37, pc_38, pc_39, pc_40, pc_41, pc_42, pc_43, pc_44, pc_45, pc_46, pc_47],
  [pc_48, pc_49, pc_50, pc_51, pc_52, pc_53, pc_54, pc_55, pc_56, pc_57, pc_58, pc_59, pc_60, pc_61, pc_62, pc_63],
  [pc_64, pc_65, pc_66, pc_67, pc_68, pc_69, pc_70, pc_71, pc_72, pc_73, pc_74, pc_75, pc_76, pc_77, pc_78, pc_79],
  [pc_80, pc_81, pc_82, pc_83, pc_84, pc_85, pc_86, pc_87, pc_88, pc_89, pc_90, pc_91, pc_92, pc_93, pc_94, pc_95],
  [pc_96, pc_97, pc_98, pc_99, pc_100, pc_101, pc_102, pc_103, pc_104, pc_105, pc_106, pc_107, pc_108, pc_109, pc_110, pc_111],
  [pc_112, pc_113, pc_114, pc_115, pc_116, pc_117, pc_118, pc_119, pc_120, pc_121, pc_122, pc_123, pc_124, pc_125, pc_126, pc_127],
  [pc_128, pc_129, pc_130, pc_131, pc_132, pc_133, pc_134, pc_135, pc_136, pc_137, pc_138, pc_139, pc_140, pc_141, pc_142, pc_143],
  [pc_144, pc_145, pc_146, pc_147, pc_148, pc_149, pc_150, pc_151, pc_152, pc_153, pc_154, pc_155, pc_156, pc_157, pc_158, pc_159],
  [pc_160, pc_161, pc_162, pc_163, pc_164, pc_165, pc_166, pc_167, pc_168, pc_169, pc_170, pc_171, pc_172, pc_173, pc_174, pc_175],
  [pc_176, pc_177, pc_178, pc_179, pc_180, pc_181, pc_182, pc_183, pc_184, pc_185, pc_186, pc_187, pc_188, pc_189, pc_190, pc_191],
  [pc_192, pc_193, pc_194, pc_195, pc_196]]
noncomputable def pinf : List (List mInf) := [[(1, 0, 0, 1, 0, 1, 48, 0), (7, 1, 1, 2, 0, 0, 0, 0), (7, 1, 1, 3, 0, 0, 0, 0), (6, 1, 1, 4, 0, 0, 0, 0), (5, 1, 1, 4, 0, 0, 0, 0), (1, 1, 1, 0, 9, 0, 0, 0), (7, 1, 1, 1, 0, 0, 0, 0), (2, 0, 0, 1, 1, 6, 2206, 0), (2, 0, 1, 4, 1, 0, 0, 0), (5, 2, 1, 1, 1, 0, 0, 0), (7, 2, 1, 3, 1, 0, 0, 0), (9, 1, 1, 4, 1, 0, 0, 0), (5, 4, 1, 5, 1, 0, 0, 0), (6, 0, 1, 3, 1, 0, 0, 0), (6, 1, 1, 2, 1, 0, 0, 0), (6, 1, 1, 1, 1, 0, 0, 0)],
  [(5, 1, 1, 1, 1, 0, 0, 0), (5, 1, 1, 1, 1, 0, 0, 0), (5, 0, 1, 1, 1, 0, 0, 0), (4, 0, 1, 3, 1, 0, 0, 0), (7, 0, 1, 2, 1, 0, 0, 0), (3, 1, 1, 0, 1, 0, 0, 0), (4, 2, 1, 1, 1, 0, 0, 0), (5, 1, 1, 2, 1, 0, 0, 0), (3, 1, 1, 1, 1, 0, 0, 0), (4, 1, 1, 0, 1, 0, 0, 0), (8, 0, 0, 1, 2, 0, 0, 0), (1, 0, 0, 1, 3, 3, 294, 0), (3, 0, 1, 1, 3, 0, 0, 0), (3, 0, 1, 1, 3, 0, 0, 0), (1, 0, 0, 1, 4, 6, 268, 0), (3, 0, 1, 1, 4, 0, 0, 0)],
  [(5, 0, 1, 1, 4, 0, 0, 0), (1, 4, 1, 0, 9, 0, 0, 0), (1, 0, 1, 1, 4, 0, 0, 0), (2, 0, 1, 1, 4, 0, 0, 0), (4, 0, 1, 2, 4, 0, 0, 0), (3, 4, 1, 0, 4, 0, 0, 0), (4, 1, 1, 1, 4, 0, 0, 0), (3, 4, 1, 2, 4, 0, 0, 0), (1, 0, 0, 1, 5, 3, 52, 0), (2, 0, 1, 0, 5, 0, 0, 0), (6, 1, 1, 4, 5, 0, 0, 0), (3, 4, 1, 0, 5, 0, 0, 0), (11, 1, 1, 0, 5, 0, 0, 0), (2, 0, 0, 2, 6, 45, 5700, 0), (5, 1, 1, 1, 6, 0, 0, 0), (2, 1, 1, 0, 6, 0, 0, 0)],
  [(2, 1, 1, 5, 6, 0, 0, 0), (1, 1, 1, 5, 6, 0, 0, 0), (2, 1, 1, 5, 6, 0, 0, 0), (2, 1, 1, 0, 6, 0, 0, 0), (3, 1, 1, 1, 6, 0, 0, 0), (6, 1, 1, 1, 6, 0, 0, 0), (4, 1, 1, 3, 6, 0, 0, 0), (3, 1, 1, 0, 6, 0, 0, 0), (3, 1, 1, 6, 6, 0, 0, 0), (4, 1, 1, 6, 6, 0, 0, 0), (2, 1, 1, 6, 6, 0, 0, 0), (2, 1, 1, 2, 6, 0, 0, 0), (3, 2, 1, 6, 6, 0, 0, 0), (4, 2, 1, 6, 6, 0, 0, 0), (3, 1, 1, 6, 6, 0, 0, 0), (3, 1, 1, 6, 6, 0, 0, 0)],
  [(5, 1, 1, 6, 6, 0, 0, 0), (7, 1, 1, 6, 6, 0, 0, 0), (5, 1, 1, 6, 6, 0, 0, 0), (7, 1, 1, 6, 6, 0, 0, 0), (4, 2, 1, 6, 6, 0, 0, 0), (7, 1, 1, 6, 6, 0, 0, 0), (2, 2, 1, 6, 6, 0, 0, 0), (7, 1, 1, 6, 6, 0, 0, 0), (4, 2, 1, 6, 6, 0, 0, 0), (3, 1, 1, 6, 6, 0, 0, 0), (4, 2, 1, 6, 6, 0, 0, 0), (2, 1, 1, 6, 6, 0, 0, 0), (6, 1, 1, 1, 6, 0, 0, 0), (4, 1, 1, 3, 6, 0, 0, 0), (3, 1, 1, 4, 6, 0, 0, 0), (2, 1, 1, 5, 6, 0, 0, 0)],
  [(3, 1, 1, 5, 6, 0, 0, 0), (4, 1, 1, 6, 6, 0, 0, 0), (2, 1, 1, 2, 6, 0, 0, 0), (2, 1, 1, 2, 6, 0, 0, 0), (2, 1, 1, 2, 6, 0, 0, 0), (2, 4, 1, 0, 6, 0, 0, 0), (1, 4, 1, 0, 9, 0, 0, 0), (1, 4, 1, 0, 9, 0, 0, 0), (1, 4, 1, 0, 9, 0, 0, 0), (1, 4, 1, 0, 9, 0, 0, 0), (1, 4, 1, 0, 9, 0, 0, 0), (1, 4, 1, 0, 9, 0, 0, 0), (2, 1, 1, 0, 9, 0, 0, 0), (3, 1, 1, 0, 9, 0, 0, 0), (2, 1, 1, 0, 9, 0, 0, 0), (3, 1, 1, 0, 9, 0, 0, 0)],
  [(2, 1, 1, 0, 9, 0, 0, 0), (1, 3, 1, 5, 6, 0, 0, 15), (2, 3, 1, 5, 6, 0, 0, 29), (2, 2, 1, 5, 6, 0, 0, 0), (2, 2, 1, 5, 6, 0, 0, 0), (1, 4, 1, 0, 6, 0, 0, 0), (2, 4, 1, 1, 6, 0, 0, 0), (4, 2, 1, 5, 6, 0, 0, 0), (2, 0, 0, 1, 7, 23, 3176, 0), (6, 4, 1, 0, 9, 0, 0, 0), (2, 0, 1, 0, 7, 0, 0, 0), (2, 4, 1, 1, 7, 0, 0, 0), (1, 4, 1, 1, 9, 0, 0, 0), (5, 1, 1, 1, 7, 0, 0, 0), (2, 1, 1, 0, 7, 0, 0, 0), (3, 1, 1, 1, 7, 0, 0, 0)],
  [(5, 1, 1, 2, 7, 0, 0, 0), (5, 1, 1, 3, 7, 0, 0, 0), (1, 1, 1, 0, 9, 0, 0, 0), (4, 1, 1, 3, 7, 0, 0, 0), (2, 1, 1, 4, 7, 0, 0, 0), (2, 1, 1, 4, 7, 0, 0, 0), (2, 1, 1, 4, 7, 0, 0, 0), (2, 1, 1, 1, 7, 0, 0, 0), (3, 1, 1, 2, 7, 0, 0, 0), (5, 1, 1, 2, 7, 0, 0, 0), (3, 1, 1, 0, 7, 0, 0, 0), (4, 1, 1, 2, 7, 0, 0, 0), (3, 1, 1, 1, 7, 0, 0, 0), (3, 4, 1, 0, 7, 0, 0, 0), (4, 1, 1, 1, 7, 0, 0, 0), (2, 1, 1, 0, 7, 0, 0, 0)],
  [(6, 1, 1, 1, 7, 0, 0, 0), (5, 1, 1, 0, 7, 0, 0, 0), (5, 1, 1, 2, 7, 0, 0, 0), (6, 0, 1, 2, 7, 0, 0, 0), (1, 1, 1, 0, 9, 0, 0, 0), (9, 0, 1, 1, 7, 0, 0, 0), (9, 2, 1, 2, 7, 0, 0, 0), (5, 0, 1, 3, 7, 0, 0, 0), (2, 0, 1, 4, 7, 0, 0, 0), (5, 2, 1, 0, 7, 0, 0, 0), (3, 0, 1, 5, 7, 0, 0, 0), (5, 2, 1, 0, 7, 0, 0, 0), (3, 1, 1, 5, 7, 0, 0, 0), (4, 1, 1, 5, 7, 0, 0, 0), (4, 1, 1, 0, 7, 0, 0, 0), (2, 1, 1, 5, 7, 0, 0, 0)],
  [(2, 1, 1, 5, 7, 0, 0, 0), (3, 2, 1, 5, 7, 0, 0, 0), (3, 2, 1, 6, 7, 0, 0, 0), (6, 1, 1, 5, 7, 0, 0, 0), (3, 1, 1, 5, 7, 0, 0, 0), (3, 1, 1, 6, 7, 0, 0, 0), (4, 1, 1, 6, 7, 0, 0, 0), (6, 1, 1, 5, 7, 0, 0, 0), (3, 2, 1, 5, 7, 0, 0, 0), (7, 1, 1, 6, 7, 0, 0, 0), (1, 1, 1, 7, 7, 0, 0, 0), (1, 2, 1, 7, 7, 0, 0, 0), (4, 4, 1, 1, 7, 0, 0, 0), (3, 2, 1, 5, 7, 0, 0, 0), (7, 1, 1, 6, 7, 0, 0, 0), (2, 2, 1, 6, 7, 0, 0, 0)],
  [(3, 2, 1, 4, 7, 0, 0, 0), (3, 1, 1, 0, 9, 0, 0, 0), (2, 2, 1, 5, 7, 0, 0, 0), (7, 1, 1, 6, 7, 0, 0, 0), (1, 4, 1, 0, 7, 0, 0, 0), (1, 1, 1, 7, 7, 0, 0, 0), (1, 2, 1, 7, 7, 0, 0, 0), (5, 2, 1, 3, 7, 0, 0, 0), (9, 1, 1, 4, 7, 0, 0, 0), (3, 1, 1, 5, 7, 0, 0, 0), (4, 2, 1, 5, 7, 0, 0, 0), (4, 1, 1, 5, 7, 0, 0, 0), (2, 4, 1, 1, 9, 0, 0, 0), (5, 1, 1, 2, 7, 0, 0, 0), (1, 4, 1, 1, 9, 0, 0, 0), (8, 1, 1, 0, 7, 0, 0, 0)],
  [(4, 1, 1, 2, 7, 0, 0, 0), (7, 1, 1, 1, 7, 0, 0, 0), (3, 1, 1, 2, 7, 0, 0, 0), (4, 1, 1, 2, 7, 0, 0, 0), (5, 1, 1, 2, 7, 0, 0, 0), (5, 1, 1, 5, 7, 0, 0, 0), (3, 1, 1, 0, 7, 0, 0, 0), (3, 1, 1, 1, 7, 0, 0, 0), (3, 1, 1, 1, 7, 0, 0, 0), (5, 1, 1, 1, 7, 0, 0, 0), (2, 1, 1, 3, 8, 0, 0, 0), (3, 1, 1, 2, 8, 0, 0, 0), (1, 4, 1, 0, 8, 0, 0, 0), (1, 1, 1, 1, 8, 0, 0, 0), (1, 5, 1, 0, 8, 0, 0, 0), (1, 4, 1, 0, 9, 0, 0, 0)],
  [(4, 1, 1, 1, 9, 0, 0, 0), (6, 1, 1, 0, 9, 0, 0, 0), (1, 1, 1, 0, 9, 0, 0, 0), (4, 0, 1, 0, 9, 0, 0, 0), (4, 4, 0, 11, 9, 600000, 7302250, 0)]]
/-- what was there before: the script, static rows, two texts -/
noncomputable def pcon : List mSC := [(5, 0, []), (9, 0, []), (9, 0, []), (9, 0, []), (5, 4, []), (9, 0, []), (9, 0, []), (9, 0, []), (9, 0, []), (9, 0, []), (9, 0, []), (9, 0, []), (9, 0, []), (9, 0, []), (9, 0, []), (9, 0, []), (9, 0, []), (9, 0, []), (9, 0, []), (9, 0, []), (9, 0, []), (9, 0, []), (9, 0, []), (9, 0, []), (9, 0, []), (9, 0, []), (9, 0, []), (9, 0, []), (9, 0, []), (9, 0, []), (9, 0, []), (9, 0, []), (9, 0, []), (9, 0, []), (9, 0, []), (9, 0, []), (9, 0, []), (9, 0, []), (9, 0, []), (9, 0, []), (9, 0, []), (9, 0, []), (9, 0, []), (9, 0, []), (9, 0, []), (9, 0, []), (9, 0, []), (9, 0, []), (9, 0, []), (9, 0, []), (7, 0, [1052, 0]), (6, 4, []), (5, 4, []), (5, 4, []), (5, 4, []), (9, 0, []), (9, 0, []), (9, 0, []), (9, 0, []), (9, 0, []), (7, 0, [1062, 0]), (6, 7, []), (5, 7, []), (5, 7, []), (5, 7, [])]
/-- the program -/
noncomputable def PG : mPg := (fun y => mNth [] (mNth [] pcs (y / 16)) (y % 16), fun y => mNth (0, 0, 0, 0, 0, 0, 0, 0) (mNth [] pinf (y / 16)) (y % 16), pcon)
/-- the shape of the world once all is made: 0 the class, 46 the reference -/
noncomputable def SH : List mSC := [(0, 6, [2, 6, 7, 8, 15, 22, 29, 36, 38, 0]), (0, 5, [3, 0, 4, 5, 0]), (1, 40, []), (1, 6, []), (1, 6, []), (0, 2, [1051, 1053, 1054, 1055, 0, 0, 0]), (0, 2, [1061, 1063, 1064, 1065, 0, 0, 0]), (0, 4, [9, 0, 10, 11, 12, 13, 14]), (1, 4, []), (1, 6, []), (1, 6, []), (1, 6, []), (1, 240, []), (1, 6, []), (0, 1, [8, 16, 17, 18, 19, 20, 21, 0, 0, 0]), (1, 240, []), (1, 1440, []), (1, 240, []), (2, 240, []), (1, 40, []), (1, 6, []), (0, 4, [23, 0, 24, 25, 26, 27, 28]), (1, 4, []), (1, 6, []), (1, 6, []), (1, 6, []), (1, 240, []), (1, 6, []), (0, 1, [22, 30, 31, 32, 33, 34, 35, 0, 0, 0]), (1, 240, []), (1, 1440, []), (1, 240, []), (2, 240, []), (1, 40, []), (1, 6, []), (0, 0, [37]), (1, 48, []), (4, 2, [39, 43]), (0, 3, [0, 40, 41, 42]), (1, 240, []), (1, 6, []), (1, 48, []), (0, 3, [0, 44, 45, 46]), (1, 240, []), (1, 6, []), (1, 48, []), (0, 7, [0, 48, 0, 0, 49, 50, 0, 0, 51, 52, 53, 0, 54, 55, 56, 57, 58, 59, 60, 61, 62, 63, 64, 0, 0, 65, 66, 67, 68, 69, 70]), (1, 40, []), (1, 4, []), (1, 4, []), (1, 6, []), (1, 6, []), (1, 6, []), (1, 6, []), (1, 6, []), (1, 6, []), (1, 240, []), (1, 6, []), (1, 480, []), (1, 12, []), (1, 96, []), (3, 2, []), (1, 48, []), (1, 6, []), (1, 240, []), (1, 1440, []), (2, 240, []), (2, 240, []), (1, 6, []), (1, 36, [])]
noncomputable def mO (y i : Nat) (L : List (Option Value)) (S : List Value) (M : mMI) (J : mMJ) : Option mRs := mOut PG (y, i, L, S, SH, M, J, 0, 0)
end
section
/-! names of classes and methods, places in bytes, hints: by wip/whole/names10.py -/
def RX0 : String := "PotAndFine$Book"
def TX0 : u_T := fun k => match k with
  | _ => ("PotAndFine$Book", "places", "[I", true)
def tyX0 : Nat → FieldType := fun k => match k with
  | _ => .array .int
theorem nmX0 : ∀ a, a < 1 → ∀ b, b < 1 → a ≠ b → (TX0 a).2.1 ≠ (TX0 b).2.1 := by decide +kernel
theorem tyX0_ok : ∀ k, k < 1 → parseFieldDescriptor (TX0 k).2.2.1 = some (tyX0 k) := by decide +kernel
def RX1 : String := "PotAndFine$Course"
def TX1 : u_T := fun k => match k with
  | 0 => ("PotAndFine$Course", "setup", "LPotAndFine$Setup;", true)
  | 1 => ("PotAndFine$Course", "puts", "[I", true)
  | 2 => ("PotAndFine$Course", "payments", "[I", true)
  | 3 => ("PotAndFine$Course", "losses", "[I", true)
  | 4 => ("PotAndFine$Course", "held", "[J", true)
  | 5 => ("PotAndFine$Course", "pots", "[I", true)
  | 6 => ("PotAndFine$Course", "now", "[I", true)
  | 7 => ("PotAndFine$Course", "nowPot", "I", false)
  | 8 => ("PotAndFine$Course", "nowIn", "I", false)
  | _ => ("PotAndFine$Course", "nowMean", "I", false)
def tyX1 : Nat → FieldType := fun k => match k with
  | 0 => .object "PotAndFine$Setup"
  | 1 => .array .int
  | 2 => .array .int
  | 3 => .array .int
  | 4 => .array .long
  | 5 => .array .int
  | 6 => .array .int
  | 7 => .int
  | 8 => .int
  | _ => .int
theorem nmX1 : ∀ a, a < 10 → ∀ b, b < 10 → a ≠ b → (TX1 a).2.1 ≠ (TX1 b).2.1 := by decide +kernel
theorem tyX1_ok : ∀ k, k < 10 → parseFieldDescriptor (TX1 k).2.2.1 = some (tyX1 k) := by decide +kernel
def RX2 : String := "PotAndFine$Grammar"
def TX2 : u_T := fun k => match k with
  | 0 => ("PotAndFine$Grammar", "letters", "Ljava/lang/String;", true)
  | 1 => ("PotAndFine$Grammar", "digits", "[I", true)
  | 2 => ("PotAndFine$Grammar", "least", "[I", true)
  | 3 => ("PotAndFine$Grammar", "most", "[I", true)
  | 4 => ("PotAndFine$Grammar", "eachOnce", "Z", true)
  | 5 => ("PotAndFine$Grammar", "fewestParts", "I", true)
  | _ => ("PotAndFine$Grammar", "mostParts", "I", true)
def tyX2 : Nat → FieldType := fun k => match k with
  | 0 => .object "java/lang/String"
  | 1 => .array .int
  | 2 => .array .int
  | 3 => .array .int
  | 4 => .boolean
  | 5 => .int
  | _ => .int
theorem nmX2 : ∀ a, a < 7 → ∀ b, b < 7 → a ≠ b → (TX2 a).2.1 ≠ (TX2 b).2.1 := by decide +kernel
theorem tyX2_ok : ∀ k, k < 7 → parseFieldDescriptor (TX2 k).2.2.1 = some (tyX2 k) := by decide +kernel
def RX3 : String := "PotAndFine$Kept"
def TX3 : u_T := fun k => match k with
  | 0 => ("PotAndFine$Kept", "filled", "Z", false)
  | 1 => ("PotAndFine$Kept", "told", "[I", true)
  | 2 => ("PotAndFine$Kept", "out", "[I", true)
  | _ => ("PotAndFine$Kept", "places", "[I", true)
def tyX3 : Nat → FieldType := fun k => match k with
  | 0 => .boolean
  | 1 => .array .int
  | 2 => .array .int
  | _ => .array .int
theorem nmX3 : ∀ a, a < 4 → ∀ b, b < 4 → a ≠ b → (TX3 a).2.1 ≠ (TX3 b).2.1 := by decide +kernel
theorem tyX3_ok : ∀ k, k < 4 → parseFieldDescriptor (TX3 k).2.2.1 = some (tyX3 k) := by decide +kernel
def RX4 : String := "PotAndFine$Setup"
def TX4 : u_T := fun k => match k with
  | 0 => ("PotAndFine$Setup", "rules", "[I", true)
  | 1 => ("PotAndFine$Setup", "size", "I", false)
  | 2 => ("PotAndFine$Setup", "letter", "[I", true)
  | 3 => ("PotAndFine$Setup", "amount", "[I", true)
  | 4 => ("PotAndFine$Setup", "anger", "[I", true)
  | 5 => ("PotAndFine$Setup", "told", "[I", true)
  | _ => ("PotAndFine$Setup", "out", "[I", true)
def tyX4 : Nat → FieldType := fun k => match k with
  | 0 => .array .int
  | 1 => .int
  | 2 => .array .int
  | 3 => .array .int
  | 4 => .array .int
  | 5 => .array .int
  | _ => .array .int
theorem nmX4 : ∀ a, a < 7 → ∀ b, b < 7 → a ≠ b → (TX4 a).2.1 ≠ (TX4 b).2.1 := by decide +kernel
theorem tyX4_ok : ∀ k, k < 7 → parseFieldDescriptor (TX4 k).2.2.1 = some (tyX4 k) := by decide +kernel
def RX5 : String := "PotAndFine$Text"
def TX5 : u_T := fun k => match k with
  | 0 => ("PotAndFine$Text", "bytes", "[I", true)
  | 1 => ("PotAndFine$Text", "length", "I", false)
  | 2 => ("PotAndFine$Text", "letters", "[I", true)
  | 3 => ("PotAndFine$Text", "numbers", "[I", true)
  | _ => ("PotAndFine$Text", "found", "I", false)
def tyX5 : Nat → FieldType := fun k => match k with
  | 0 => .array .int
  | 1 => .int
  | 2 => .array .int
  | 3 => .array .int
  | _ => .int
theorem nmX5 : ∀ a, a < 5 → ∀ b, b < 5 → a ≠ b → (TX5 a).2.1 ≠ (TX5 b).2.1 := by decide +kernel
theorem tyX5_ok : ∀ k, k < 5 → parseFieldDescriptor (TX5 k).2.2.1 = some (tyX5 k) := by decide +kernel
def RX6 : String := "PotAndFine"
def TX6 : u_T := fun k => match k with
  | 0 => ("PotAndFine", "text", "LPotAndFine$Text;", true)
  | 1 => ("PotAndFine", "ruleGrammar", "LPotAndFine$Grammar;", true)
  | 2 => ("PotAndFine", "groupGrammar", "LPotAndFine$Grammar;", true)
  | 3 => ("PotAndFine", "setup", "LPotAndFine$Setup;", true)
  | 4 => ("PotAndFine", "course", "LPotAndFine$Course;", true)
  | 5 => ("PotAndFine", "trialSetup", "LPotAndFine$Setup;", true)
  | 6 => ("PotAndFine", "trial", "LPotAndFine$Course;", true)
  | 7 => ("PotAndFine", "book", "LPotAndFine$Book;", true)
  | 8 => ("PotAndFine", "slots", "[LPotAndFine$Kept;", true)
  | _ => ("PotAndFine", "stale", "Z", false)
def tyX6 : Nat → FieldType := fun k => match k with
  | 0 => .object "PotAndFine$Text"
  | 1 => .object "PotAndFine$Grammar"
  | 2 => .object "PotAndFine$Grammar"
  | 3 => .object "PotAndFine$Setup"
  | 4 => .object "PotAndFine$Course"
  | 5 => .object "PotAndFine$Setup"
  | 6 => .object "PotAndFine$Course"
  | 7 => .object "PotAndFine$Book"
  | 8 => .array (.object "PotAndFine$Kept")
  | _ => .boolean
theorem nmX6 : ∀ a, a < 10 → ∀ b, b < 10 → a ≠ b → (TX6 a).2.1 ≠ (TX6 b).2.1 := by decide +kernel
theorem tyX6_ok : ∀ k, k < 10 → parseFieldDescriptor (TX6 k).2.2.1 = some (tyX6 k) := by decide +kernel
def RX7 : String := "PotAndFineModel"
def TX7 : u_T := fun k => match k with
  | 0 => ("PotAndFineModel", "thrown", "I", false)
  | 1 => ("PotAndFineModel", "text", "[I", true)
  | 2 => ("PotAndFineModel", "textSize", "I", false)
  | 3 => ("PotAndFineModel", "place", "I", false)
  | 4 => ("PotAndFineModel", "of", "[I", true)
  | 5 => ("PotAndFineModel", "readOf", "[I", true)
  | 6 => ("PotAndFineModel", "readParts", "I", false)
  | 7 => ("PotAndFineModel", "people", "I", false)
  | 8 => ("PotAndFineModel", "letter", "[I", true)
  | 9 => ("PotAndFineModel", "less", "[I", true)
  | 10 => ("PotAndFineModel", "anger", "[I", true)
  | 11 => ("PotAndFineModel", "readPeople", "I", false)
  | 12 => ("PotAndFineModel", "readLetter", "[I", true)
  | 13 => ("PotAndFineModel", "readLess", "[I", true)
  | 14 => ("PotAndFineModel", "readAnger", "[I", true)
  | 15 => ("PotAndFineModel", "told", "[I", true)
  | 16 => ("PotAndFineModel", "out", "[I", true)
  | 17 => ("PotAndFineModel", "kept", "[I", true)
  | 18 => ("PotAndFineModel", "keptOut", "[I", true)
  | 19 => ("PotAndFineModel", "keptBook", "[I", true)
  | 20 => ("PotAndFineModel", "isKept", "[Z", true)
  | 21 => ("PotAndFineModel", "book", "[I", true)
  | 22 => ("PotAndFineModel", "who", "[I", true)
  | 23 => ("PotAndFineModel", "many", "I", false)
  | 24 => ("PotAndFineModel", "isPlain", "Z", false)
  | 25 => ("PotAndFineModel", "puts", "[I", true)
  | 26 => ("PotAndFineModel", "fines", "[I", true)
  | 27 => ("PotAndFineModel", "holds", "[J", true)
  | 28 => ("PotAndFineModel", "other", "[J", true)
  | 29 => ("PotAndFineModel", "now", "[I", true)
  | _ => ("PotAndFineModel", "pays", "[I", true)
def tyX7 : Nat → FieldType := fun k => match k with
  | 0 => .int
  | 1 => .array .int
  | 2 => .int
  | 3 => .int
  | 4 => .array .int
  | 5 => .array .int
  | 6 => .int
  | 7 => .int
  | 8 => .array .int
  | 9 => .array .int
  | 10 => .array .int
  | 11 => .int
  | 12 => .array .int
  | 13 => .array .int
  | 14 => .array .int
  | 15 => .array .int
  | 16 => .array .int
  | 17 => .array .int
  | 18 => .array .int
  | 19 => .array .int
  | 20 => .array .boolean
  | 21 => .array .int
  | 22 => .array .int
  | 23 => .int
  | 24 => .boolean
  | 25 => .array .int
  | 26 => .array .int
  | 27 => .array .long
  | 28 => .array .long
  | 29 => .array .int
  | _ => .array .int
theorem nmX7 : ∀ a, a < 31 → ∀ b, b < 31 → a ≠ b → (TX7 a).2.1 ≠ (TX7 b).2.1 := by decide +kernel
theorem tyX7_ok : ∀ k, k < 31 → parseFieldDescriptor (TX7 k).2.2.1 = some (tyX7 k) := by decide +kernel
abbrev vwCl : List vw_C := [(RX0, TX0, 1), (RX1, TX1, 10), (RX2, TX2, 7), (RX3, TX3, 4), (RX4, TX4, 7), (RX5, TX5, 5), (RX6, TX6, 10), (RX7, TX7, 31)]
noncomputable def pnms : List (List MethodName) := [[⟨"PotAndFine$Book", "<init>", "()V"⟩, ⟨"PotAndFine$Book", "toldBy", "(III)I"⟩, ⟨"PotAndFine$Book", "countSlips", "(II)I"⟩, ⟨"PotAndFine$Book", "bestSort", "(I)I"⟩, ⟨"PotAndFine$Book", "countSorts", "(II)I"⟩, ⟨"PotAndFine$Book", "sortNumbered", "(I)I"⟩, ⟨"PotAndFine$Book", "meanOfOthers", "(II)I"⟩, ⟨"PotAndFine$Course", "<init>", "(LPotAndFine$Setup;)V"⟩, ⟨"PotAndFine$Course", "runAll", "()V"⟩, ⟨"PotAndFine$Course", "heldByAll", "(I)J"⟩, ⟨"PotAndFine$Course", "gotBy", "(III)J"⟩, ⟨"PotAndFine$Course", "bestPut", "(II)I"⟩, ⟨"PotAndFine$Course", "isAtRest", "(I)Z"⟩, ⟨"PotAndFine$Course", "putAll", "(I)V"⟩, ⟨"PotAndFine$Course", "usualPut", "(II)I"⟩, ⟨"PotAndFine$Course", "meanOfOthersBefore", "(II)I"⟩],
  [⟨"PotAndFine$Course", "paidToFine", "(II)I"⟩, ⟨"PotAndFine$Course", "paidBy", "(II)I"⟩, ⟨"PotAndFine$Course", "lookAt", "(III)V"⟩, ⟨"PotAndFine$Course", "payAll", "(I)V"⟩, ⟨"PotAndFine$Course", "settleAll", "(I)V"⟩, ⟨"PotAndFine$Course", "lossBetween", "(II)I"⟩, ⟨"PotAndFine$Course", "gotFromPot", "(I)J"⟩, ⟨"PotAndFine$Course", "dueFrom", "(III)I"⟩, ⟨"PotAndFine$Course", "byAnger", "(II)I"⟩, ⟨"PotAndFine$Course", "greatestBeside", "(I)I"⟩, ⟨"PotAndFine$Grammar", "<init>", "(Ljava/lang/String;[I[I[IZII)V"⟩, ⟨"PotAndFine$Kept", "<init>", "()V"⟩, ⟨"PotAndFine$Kept", "fillFrom", "(LPotAndFine$Setup;LPotAndFine$Book;)V"⟩, ⟨"PotAndFine$Kept", "giveBack", "(LPotAndFine$Setup;LPotAndFine$Book;)V"⟩, ⟨"PotAndFine$Setup", "<init>", "()V"⟩, ⟨"PotAndFine$Setup", "takeRuleText", "(LPotAndFine$Text;)V"⟩],
  [⟨"PotAndFine$Setup", "takeGroupText", "(LPotAndFine$Text;)V"⟩, ⟨"PotAndFine$Setup", "canBeAngry", "(I)Z"⟩, ⟨"PotAndFine$Setup", "untell", "()V"⟩, ⟨"PotAndFine$Setup", "takeFrom", "(LPotAndFine$Setup;)V"⟩, ⟨"PotAndFine$Setup", "takeSome", "(LPotAndFine$Setup;I)V"⟩, ⟨"PotAndFine$Setup", "isIn", "(II)Z"⟩, ⟨"PotAndFine$Setup", "countIn", "(I)I"⟩, ⟨"PotAndFine$Setup", "canSpare", "(I)Z"⟩, ⟨"PotAndFine$Text", "<init>", "()V"⟩, ⟨"PotAndFine$Text", "append", "(I)V"⟩, ⟨"PotAndFine$Text", "scan", "(LPotAndFine$Grammar;)I"⟩, ⟨"PotAndFine$Text", "wasFound", "(I)Z"⟩, ⟨"PotAndFine$Text", "scanNumber", "(LPotAndFine$Grammar;III)I"⟩, ⟨"PotAndFine", "<init>", "()V"⟩, ⟨"PotAndFine", "write", "(IJ)I"⟩, ⟨"PotAndFine", "wipe", "()I"⟩],
  [⟨"PotAndFine", "fault", "(Z)I"⟩, ⟨"PotAndFine", "rule", "()I"⟩, ⟨"PotAndFine", "group", "()I"⟩, ⟨"PotAndFine", "ruled", "(I)I"⟩, ⟨"PotAndFine", "person", "(II)I"⟩, ⟨"PotAndFine", "tell", "(III)I"⟩, ⟨"PotAndFine", "send", "(II)I"⟩, ⟨"PotAndFine", "fine", "(I)I"⟩, ⟨"PotAndFine", "put", "(II)I"⟩, ⟨"PotAndFine", "paid", "(III)I"⟩, ⟨"PotAndFine", "pot", "(I)I"⟩, ⟨"PotAndFine", "here", "(I)I"⟩, ⟨"PotAndFine", "holds", "(II)J"⟩, ⟨"PotAndFine", "all", "(IZ)J"⟩, ⟨"PotAndFine", "lost", "(II)I"⟩, ⟨"PotAndFine", "fall", "()I"⟩],
  [⟨"PotAndFine", "pays", "()I"⟩, ⟨"PotAndFine", "vote", "(I)I"⟩, ⟨"PotAndFine", "least", "(II)I"⟩, ⟨"PotAndFine", "leader", "()I"⟩, ⟨"PotAndFine", "led", "()J"⟩, ⟨"PotAndFine", "whom", "()I"⟩, ⟨"PotAndFine", "without", "(I)J"⟩, ⟨"PotAndFine", "part", "()I"⟩, ⟨"PotAndFine", "parted", "()J"⟩, ⟨"PotAndFine", "reply", "(II)I"⟩, ⟨"PotAndFine", "gain", "(III)J"⟩, ⟨"PotAndFine", "rest", "(I)I"⟩, ⟨"PotAndFine", "note", "(III)I"⟩, ⟨"PotAndFine", "would", "(III)I"⟩, ⟨"PotAndFine", "slips", "(II)I"⟩, ⟨"PotAndFine", "sort", "(I)I"⟩],
  [⟨"PotAndFine", "sorts", "(II)I"⟩, ⟨"PotAndFine", "copy", "()I"⟩, ⟨"PotAndFine", "keep", "(I)I"⟩, ⟨"PotAndFine", "again", "(I)I"⟩, ⟨"PotAndFine", "count", "(I)I"⟩, ⟨"PotAndFine", "isPerson", "(I)Z"⟩, ⟨"PotAndFine", "isRound", "(I)Z"⟩, ⟨"PotAndFine", "isSlot", "(I)Z"⟩, ⟨"PotAndFine", "isCoinsOrNone", "(I)Z"⟩, ⟨"PotAndFine", "isBookPerson", "(I)Z"⟩, ⟨"PotAndFine", "isBookRound", "(I)Z"⟩, ⟨"PotAndFine", "isSort", "(I)Z"⟩, ⟨"PotAndFine", "placeOf", "(II)I"⟩, ⟨"PotAndFine", "paymentOf", "(III)I"⟩, ⟨"PotAndFine", "bookPlaceOf", "(II)I"⟩, ⟨"PotAndFine", "countTold", "([I)I"⟩],
  [⟨"PotAndFine", "meanOf", "(II)I"⟩, ⟨"PotAndFine", "ran", "()LPotAndFine$Course;"⟩, ⟨"PotAndFine", "ranWithFine", "(I)LPotAndFine$Course;"⟩, ⟨"PotAndFine", "heldIfLedBy", "(I)J"⟩, ⟨"PotAndFine", "heldIfOut", "(I)J"⟩, ⟨"PotAndFine", "canBeHalved", "()Z"⟩, ⟨"PotAndFine", "isHalf", "(I)Z"⟩, ⟨"PotAndFine", "heldByHalves", "(I)J"⟩, ⟨"PotAndFineModel", "<init>", "()V"⟩, ⟨"PotAndFineModel", "in", "(JJJ)Z"⟩, ⟨"PotAndFineModel", "clear", "()V"⟩, ⟨"PotAndFineModel", "noPerson", "(I)Z"⟩, ⟨"PotAndFineModel", "noRound", "(I)Z"⟩, ⟨"PotAndFineModel", "write", "(IJ)I"⟩, ⟨"PotAndFineModel", "wipe", "()I"⟩, ⟨"PotAndFineModel", "figure", "(II)I"⟩],
  [⟨"PotAndFineModel", "two", "(II)I"⟩, ⟨"PotAndFineModel", "readRule", "()I"⟩, ⟨"PotAndFineModel", "kind", "(I)I"⟩, ⟨"PotAndFineModel", "readGroup", "()I"⟩, ⟨"PotAndFineModel", "fault", "(Z)I"⟩, ⟨"PotAndFineModel", "rule", "()I"⟩, ⟨"PotAndFineModel", "group", "()I"⟩, ⟨"PotAndFineModel", "ruled", "(I)I"⟩, ⟨"PotAndFineModel", "person", "(II)I"⟩, ⟨"PotAndFineModel", "tell", "(III)I"⟩, ⟨"PotAndFineModel", "staying", "()I"⟩, ⟨"PotAndFineModel", "send", "(II)I"⟩, ⟨"PotAndFineModel", "fine", "(I)I"⟩, ⟨"PotAndFineModel", "isIn", "(II)Z"⟩, ⟨"PotAndFineModel", "inMany", "(I)I"⟩, ⟨"PotAndFineModel", "bound", "(I)I"⟩],
  [⟨"PotAndFineModel", "meanOf", "(II)I"⟩, ⟨"PotAndFineModel", "taken", "(II)I"⟩, ⟨"PotAndFineModel", "putOf", "(II)I"⟩, ⟨"PotAndFineModel", "layFines", "(I)V"⟩, ⟨"PotAndFineModel", "nine", "(I)I"⟩, ⟨"PotAndFineModel", "layBy", "(III)V"⟩, ⟨"PotAndFineModel", "gets", "(II)J"⟩, ⟨"PotAndFineModel", "run", "()V"⟩, ⟨"PotAndFineModel", "runAll", "()V"⟩, ⟨"PotAndFineModel", "sumAt", "(I)J"⟩, ⟨"PotAndFineModel", "runBoth", "()V"⟩, ⟨"PotAndFineModel", "otherAt", "(I)J"⟩, ⟨"PotAndFineModel", "put", "(II)I"⟩, ⟨"PotAndFineModel", "paid", "(III)I"⟩, ⟨"PotAndFineModel", "potOf", "(I)I"⟩, ⟨"PotAndFineModel", "pot", "(I)I"⟩],
  [⟨"PotAndFineModel", "here", "(I)I"⟩, ⟨"PotAndFineModel", "holds", "(II)J"⟩, ⟨"PotAndFineModel", "all", "(IZ)J"⟩, ⟨"PotAndFineModel", "lost", "(II)I"⟩, ⟨"PotAndFineModel", "fall", "()I"⟩, ⟨"PotAndFineModel", "pays", "()I"⟩, ⟨"PotAndFineModel", "vote", "(I)I"⟩, ⟨"PotAndFineModel", "least", "(II)I"⟩, ⟨"PotAndFineModel", "leadBy", "(I)J"⟩, ⟨"PotAndFineModel", "findLeader", "()I"⟩, ⟨"PotAndFineModel", "leader", "()I"⟩, ⟨"PotAndFineModel", "led", "()J"⟩, ⟨"PotAndFineModel", "isFew", "(I)Z"⟩, ⟨"PotAndFineModel", "withoutOne", "(I)J"⟩, ⟨"PotAndFineModel", "whom", "()I"⟩, ⟨"PotAndFineModel", "without", "(I)J"⟩],
  [⟨"PotAndFineModel", "halfBy", "(I)J"⟩, ⟨"PotAndFineModel", "bits", "(I)I"⟩, ⟨"PotAndFineModel", "partBy", "(I)J"⟩, ⟨"PotAndFineModel", "findPart", "()I"⟩, ⟨"PotAndFineModel", "noHalves", "()Z"⟩, ⟨"PotAndFineModel", "part", "()I"⟩, ⟨"PotAndFineModel", "parted", "()J"⟩, ⟨"PotAndFineModel", "gainBy", "(III)J"⟩, ⟨"PotAndFineModel", "replyOf", "(II)I"⟩, ⟨"PotAndFineModel", "reply", "(II)I"⟩, ⟨"PotAndFineModel", "gain", "(III)J"⟩, ⟨"PotAndFineModel", "rest", "(I)I"⟩, ⟨"PotAndFineModel", "noPlace", "(II)Z"⟩, ⟨"PotAndFineModel", "note", "(III)I"⟩, ⟨"PotAndFineModel", "noSort", "(I)Z"⟩, ⟨"PotAndFineModel", "wouldBe", "(III)I"⟩],
  [⟨"PotAndFineModel", "would", "(III)I"⟩, ⟨"PotAndFineModel", "slipsOf", "(II)I"⟩, ⟨"PotAndFineModel", "slips", "(II)I"⟩, ⟨"PotAndFineModel", "sort", "(I)I"⟩, ⟨"PotAndFineModel", "sorts", "(II)I"⟩, ⟨"PotAndFineModel", "copy", "()I"⟩, ⟨"PotAndFineModel", "toldMany", "()I"⟩, ⟨"PotAndFineModel", "keep", "(I)I"⟩, ⟨"PotAndFineModel", "again", "(I)I"⟩, ⟨"PotAndFineModel", "count", "(I)I"⟩, ⟨"java/lang/String", "indexOf", "(I)I"⟩, ⟨"java/lang/String", "indexOf", "(II)I"⟩, ⟨"java/lang/String", "isLatin1", "()Z"⟩, ⟨"java/lang/String", "length", "()I"⟩, ⟨"java/lang/String", "coder", "()B"⟩, ⟨"java/lang/StringLatin1", "canEncode", "(I)Z"⟩],
  [⟨"java/lang/StringLatin1", "indexOf", "([BIII)I"⟩, ⟨"java/lang/StringLatin1", "indexOfChar", "([BIII)I"⟩, ⟨"java/lang/Integer", "bitCount", "(I)I"⟩, ⟨"java/util/Arrays", "fill", "([II)V"⟩, ⟨"PotAndFineLaw", "law", "([I)Z"⟩]]
noncomputable def pbys : List (List ByteArray) := [[prog_2_method_1_code, prog_2_method_2_code, prog_2_method_3_code, prog_2_method_4_code, prog_2_method_5_code, prog_2_method_6_code, prog_2_method_7_code, prog_3_method_1_code, prog_3_method_2_code, prog_3_method_3_code, prog_3_method_4_code, prog_3_method_5_code, prog_3_method_6_code, prog_3_method_7_code, prog_3_method_8_code, prog_3_method_9_code],
  [prog_3_method_10_code, prog_3_method_11_code, prog_3_method_12_code, prog_3_method_13_code, prog_3_method_14_code, prog_3_method_15_code, prog_3_method_16_code, prog_3_method_17_code, prog_3_method_18_code, prog_3_method_19_code, prog_4_method_1_code, prog_5_method_1_code, prog_5_method_2_code, prog_5_method_3_code, prog_6_method_1_code, prog_6_method_2_code],
  [prog_6_method_3_code, prog_6_method_4_code, prog_6_method_5_code, prog_6_method_6_code, prog_6_method_7_code, prog_6_method_8_code, prog_6_method_9_code, prog_6_method_10_code, prog_7_method_1_code, prog_7_method_2_code, prog_7_method_3_code, prog_7_method_4_code, prog_7_method_5_code, prog_1_method_1_code, prog_1_method_2_code, prog_1_method_3_code],
  [prog_1_method_4_code, prog_1_method_5_code, prog_1_method_6_code, prog_1_method_7_code, prog_1_method_8_code, prog_1_method_9_code, prog_1_method_10_code, prog_1_method_11_code, prog_1_method_12_code, prog_1_method_13_code, prog_1_method_14_code, prog_1_method_15_code, prog_1_method_16_code, prog_1_method_17_code, prog_1_method_18_code, prog_1_method_19_code],
  [prog_1_method_20_code, prog_1_method_21_code, prog_1_method_22_code, prog_1_method_23_code, prog_1_method_24_code, prog_1_method_25_code, prog_1_method_26_code, prog_1_method_27_code, prog_1_method_28_code, prog_1_method_29_code, prog_1_method_30_code, prog_1_method_31_code, prog_1_method_32_code, prog_1_method_33_code, prog_1_method_34_code, prog_1_method_35_code],
  [prog_1_method_36_code, prog_1_method_37_code, prog_1_method_38_code, prog_1_method_39_code, prog_1_method_40_code, prog_1_method_41_code, prog_1_method_42_code, prog_1_method_43_code, prog_1_method_44_code, prog_1_method_45_code, prog_1_method_46_code, prog_1_method_47_code, prog_1_method_48_code, prog_1_method_49_code, prog_1_method_50_code, prog_1_method_51_code],
  [prog_1_method_52_code, prog_1_method_53_code, prog_1_method_54_code, prog_1_method_55_code, prog_1_method_56_code, prog_1_method_57_code, prog_1_method_58_code, prog_1_method_59_code, prog_9_method_1_code, prog_9_method_3_code, prog_9_method_4_code, prog_9_method_5_code, prog_9_method_6_code, prog_9_method_7_code, prog_9_method_8_code, prog_9_method_9_code],
  [prog_9_method_10_code, prog_9_method_11_code, prog_9_method_12_code, prog_9_method_13_code, prog_9_method_14_code, prog_9_method_15_code, prog_9_method_16_code, prog_9_method_17_code, prog_9_method_18_code, prog_9_method_19_code, prog_9_method_20_code, prog_9_method_21_code, prog_9_method_22_code, prog_9_method_23_code, prog_9_method_24_code, prog_9_method_25_code],
  [prog_9_method_26_code, prog_9_method_27_code, prog_9_method_28_code, prog_9_method_29_code, prog_9_method_30_code, prog_9_method_31_code, prog_9_method_32_code, prog_9_method_33_code, prog_9_method_34_code, prog_9_method_35_code, prog_9_method_36_code, prog_9_method_37_code, prog_9_method_38_code, prog_9_method_39_code, prog_9_method_40_code, prog_9_method_41_code],
  [prog_9_method_42_code, prog_9_method_43_code, prog_9_method_44_code, prog_9_method_45_code, prog_9_method_46_code, prog_9_method_47_code, prog_9_method_48_code, prog_9_method_49_code, prog_9_method_50_code, prog_9_method_51_code, prog_9_method_52_code, prog_9_method_53_code, prog_9_method_54_code, prog_9_method_55_code, prog_9_method_56_code, prog_9_method_57_code],
  [prog_9_method_58_code, prog_9_method_59_code, prog_9_method_60_code, prog_9_method_61_code, prog_9_method_62_code, prog_9_method_63_code, prog_9_method_64_code, prog_9_method_65_code, prog_9_method_66_code, prog_9_method_67_code, prog_9_method_68_code, prog_9_method_69_code, prog_9_method_70_code, prog_9_method_71_code, prog_9_method_72_code, prog_9_method_73_code],
  [prog_9_method_74_code, prog_9_method_75_code, prog_9_method_76_code, prog_9_method_77_code, prog_9_method_78_code, prog_9_method_79_code, prog_9_method_80_code, prog_9_method_81_code, prog_9_method_82_code, prog_9_method_83_code, prog_13_method_79_code, prog_13_method_80_code, prog_13_method_154_code, prog_13_method_54_code, prog_13_method_152_code, prog_14_method_4_code],
  [prog_14_method_22_code, prog_14_method_23_code, prog_11_method_49_code, prog_17_method_103_code, code]]
noncomputable def prts : List (List (Option FieldType)) := [[none, some .int, some .int, some .int, some .int, some .int, some .int, none, none, some .long, some .long, some .int, some .boolean, none, some .int, some .int],
  [some .int, some .int, none, none, none, some .int, some .long, some .int, some .int, some .int, none, none, none, none, none, none],
  [none, some .boolean, none, none, none, some .boolean, some .int, some .boolean, none, none, some .int, some .boolean, some .int, none, some .int, some .int],
  [some .int, some .int, some .int, some .int, some .int, some .int, some .int, some .int, some .int, some .int, some .int, some .int, some .long, some .long, some .int, some .int],
  [some .int, some .int, some .int, some .int, some .long, some .int, some .long, some .int, some .long, some .int, some .long, some .int, some .int, some .int, some .int, some .int],
  [some .int, some .int, some .int, some .int, some .int, some .boolean, some .boolean, some .boolean, some .boolean, some .boolean, some .boolean, some .boolean, some .int, some .int, some .int, some .int],
  [some .int, some (.object "PotAndFine$Course"), some (.object "PotAndFine$Course"), some .long, some .long, some .boolean, some .boolean, some .long, none, some .boolean, none, some .boolean, some .boolean, some .int, some .int, some .int],
  [some .int, some .int, some .int, some .int, some .int, some .int, some .int, some .int, some .int, some .int, some .int, some .int, some .int, some .boolean, some .int, some .int],
  [some .int, some .int, some .int, none, some .int, none, some .long, none, none, some .long, none, some .long, some .int, some .int, some .int, some .int],
  [some .int, some .long, some .long, some .int, some .int, some .int, some .int, some .int, some .long, some .int, some .int, some .long, some .boolean, some .long, some .int, some .long],
  [some .long, some .int, some .long, some .int, some .boolean, some .int, some .long, some .long, some .int, some .int, some .long, some .int, some .boolean, some .int, some .boolean, some .int],
  [some .int, some .int, some .int, some .int, some .int, some .int, some .int, some .int, some .int, some .int, some .int, some .int, some .boolean, some .int, some .byte, some .boolean],
  [some .int, some .int, some .int, none, some .boolean]]
noncomputable def pnm (y : Nat) : MethodName := mNth ⟨"", "", ""⟩ (mNth [] pnms (y / 16)) (y % 16)
noncomputable def pby (y : Nat) : ByteArray := mNth ⟨#[]⟩ (mNth [] pbys (y / 16)) (y % 16)
noncomputable def prt (y : Nat) : Option FieldType := mNth none (mNth [] prts (y / 16)) (y % 16)
noncomputable def pp_0 : List (List Nat) := [[0, 1, 4, 5, 7, 9, 12, 13, 16, 18, 21]]
noncomputable def ph_0 : List (List (List Nat)) := [[[], [262, 83, 84], [], [], [112], [264], [], [264], [], [263, 175], []]]
noncomputable def pp_1 : List (List Nat) := [[0, 1, 3, 4, 6, 7, 9, 10, 12, 14, 15, 18, 20, 21, 22, 23, 26, 28, 29, 31, 32, 35, 36, 37, 38, 39, 40, 43, 46, 47, 50, 51], [52, 53, 54, 57, 58, 60, 62, 64, 67, 69, 72, 73, 75, 77, 78, 81]]
noncomputable def ph_1 : List (List (List Nat)) := [[[], [], [], [], [], [], [], [], [], [], [], [], [], [], [], [], [], [], [], [], [], [], [], [], [], [], [747, 749, 23], [], [], [264], [], []], [[], [], [734], [], [], [], [], [], [], [], [], [], [], [], [753, 371, 72, 372], []]]
noncomputable def pp_2 : List (List Nat) := [[0, 1, 2, 3, 5, 7, 9, 12, 13, 16, 17, 19, 22, 23, 25, 26, 27, 28, 30, 33, 35, 37, 39, 42, 44, 46, 49, 51, 53, 56, 59, 62], [65, 66]]
noncomputable def ph_2 : List (List (List Nat)) := [[[], [], [], [], [], [], [], [], [264], [], [], [734], [], [], [], [], [], [], [762, 744, 745], [], [], [], [], [], [], [], [], [], [], [], [], []], [[], []]]
noncomputable def pp_3 : List (List Nat) := [[0, 1, 2, 3, 4, 5, 8, 9, 10, 12, 14, 16, 19, 20, 22, 25, 26, 29, 31, 33, 34, 37, 39, 42, 43, 45, 46, 49, 52, 53]]
noncomputable def ph_3 : List (List (List Nat)) := [[[], [], [], [], [], [771, 759, 760], [], [], [], [], [], [], [], [], [772, 773], [], [771, 759, 760], [], [], [], [], [], [772, 773], [], [], [], [], [], [], []]]
noncomputable def pp_4 : List (List Nat) := [[0, 1, 2, 3, 5, 7, 9, 12, 13, 15, 18, 19, 22, 23, 26, 29, 32, 35, 36]]
noncomputable def ph_4 : List (List (List Nat)) := [[[], [], [], [], [], [], [], [], [], [772, 773], [], [771, 759, 760], [], [], [], [], [], [], []]]
noncomputable def pp_5 : List (List Nat) := [[0, 1, 2, 5, 6, 7, 8, 10, 13, 15, 16, 17, 18, 19, 20, 21, 23, 26, 29, 30, 31, 33, 34, 37, 40, 41, 42, 44, 45]]
noncomputable def ph_5 : List (List (List Nat)) := [[[], [], [], [], [], [], [], [], [], [], [], [], [], [], [], [], [], [], [], [], [], [], [], [], [], [], [], [], []]]
noncomputable def pp_6 : List (List Nat) := [[0, 1, 2, 3, 5, 6, 8, 10, 12, 15, 16, 19, 21, 22, 25, 26, 28, 30, 31, 34, 36, 38, 41, 42, 44, 45, 46, 49, 52, 55, 57, 60], [61, 63, 66, 69, 71]]
noncomputable def ph_6 : List (List (List Nat)) := [[[], [], [], [], [], [], [], [], [], [], [264], [], [], [734], [], [], [], [], [], [], [], [], [], [], [], [], [], [], [], [], [], []], [[], [531], [], [], []]]
noncomputable def pp_7 : List (List Nat) := [[0, 1, 4, 5, 8, 10, 13, 14, 17, 19, 22, 23, 26, 28, 31, 32, 35, 37, 40, 41, 43, 45, 48, 49, 51, 53, 56, 57, 58, 61, 62, 63], [66, 67, 68, 71, 72, 73, 76]]
noncomputable def ph_7 : List (List (List Nat)) := [[[], [219, 83, 84], [], [], [112], [221], [], [], [112], [223], [], [], [112], [225], [], [], [256], [227], [], [], [112], [229], [], [], [112], [231], [], [], [232], [], [], [233]], [[], [], [234], [], [], [220], []]]
noncomputable def pp_8 : List (List Nat) := [[0, 1, 2, 3, 5, 8, 9, 10, 13, 14, 15, 17, 18, 21, 22, 25, 26, 27, 30, 31, 32, 33, 36, 37, 38, 41, 44, 47]]
noncomputable def ph_8 : List (List (List Nat)) := [[[], [], [], [], [], [], [], [516, 518, 4], [], [], [], [], [542, 544, 8], [], [229], [], [], [232], [], [], [], [546, 548, 9], [], [], [562, 564, 13], [], [], []]]
noncomputable def pp_9 : List (List Nat) := [[0, 1, 2, 3, 5, 7, 8, 11, 14, 17, 18, 19, 22, 24, 25, 28, 29, 30, 31, 34, 37, 38]]
noncomputable def ph_9 : List (List (List Nat)) := [[[], [], [], [], [], [], [220], [181], [], [], [], [227], [], [], [482], [], [], [], [], [], [], []]]
noncomputable def pp_10 : List (List Nat) := [[0, 1, 2, 3, 4, 7, 8, 10, 11, 13, 15, 16, 19, 22, 25, 27, 28, 29, 30, 32, 33, 36, 37, 39, 40, 41, 44, 47, 48, 49, 51, 54], [57, 58, 59, 62, 65, 67, 68, 69]]
noncomputable def ph_10 : List (List (List Nat)) := [[[], [], [], [], [542, 544, 8], [], [], [], [], [], [], [220], [181], [], [], [], [], [], [], [], [550, 552, 10], [], [], [], [], [550, 552, 10], [570, 572, 15], [], [], [], [], []], [[], [], [574, 576, 16], [578], [], [], [], []]]
noncomputable def pp_11 : List (List Nat) := [[0, 1, 2, 3, 4, 5, 6, 9, 11, 12, 14, 16, 17, 20, 23, 24, 25, 28, 29, 30, 31, 33, 36, 38, 40, 42, 43, 46, 48, 49, 51, 53], [56, 59, 60]]
noncomputable def ph_11 : List (List (List Nat)) := [[[], [], [], [], [], [], [704, 705, 706], [], [], [], [], [], [220], [178], [], [], [], [], [], [], [], [704, 705, 706], [], [], [], [], [], [], [], [], [], []], [[], [], []]]
noncomputable def pp_12 : List (List Nat) := [[0, 1, 2, 3, 4, 7, 10, 13, 14, 17, 18, 19, 22, 25, 26, 27, 28, 29, 30, 31, 34, 37, 38, 39, 40, 41, 42, 43, 46, 47, 48, 51], [52, 55, 56, 59, 60, 61, 64, 67, 68]]
noncomputable def ph_12 : List (List (List Nat)) := [[[], [], [], [], [220], [181], [], [], [220], [], [], [520, 497, 498], [], [], [], [], [], [], [], [722, 701, 702], [704, 705, 706], [], [], [], [], [], [], [221], [], [], [482], []], [[704, 705, 706], [], [], [], [], [], [], [], []]]
noncomputable def pp_13 : List (List Nat) := [[0, 1, 2, 3, 4, 7, 10, 13, 15, 16, 17, 20, 21, 22, 25, 28, 29, 32, 35, 36, 37, 40, 41, 43, 45, 47, 50, 51, 52, 53, 56, 59], [61, 63, 64, 66, 67, 70, 73, 74, 75, 78, 81, 82, 83, 86, 87, 88, 91, 92, 93, 96, 99]]
noncomputable def ph_13 : List (List (List Nat)) := [[[], [], [], [], [220], [181], [], [], [], [], [220], [], [], [520, 497, 498], [], [], [220], [194], [], [], [482], [], [], [], [], [], [], [], [], [522, 524, 5], [], []], [[], [], [], [], [220], [178], [], [], [540, 374, 72, 375], [541, 371, 72, 372], [], [], [221], [], [], [482], [], [], [], [], []]]
noncomputable def pp_14 : List (List Nat) := [[0, 1, 4, 7, 8, 9, 10, 11, 14, 15, 18, 21, 22, 23, 24, 25, 26, 29, 30, 31, 32, 33, 36, 37, 40, 43, 44, 45, 46, 47, 48, 49], [51, 54, 55, 56, 57, 60, 61, 64, 67, 68, 69, 70, 71, 72, 75, 76, 77, 78, 79, 82, 83, 85, 86, 89, 92, 93, 94, 95, 96, 97, 98, 99], [102, 103, 105, 107, 110, 112, 114, 115, 118, 120, 121, 124, 127, 128, 129, 130]]
noncomputable def ph_14 : List (List (List Nat)) := [[[], [220], [184], [], [], [], [], [], [], [220], [187], [], [], [], [], [], [], [], [], [], [], [], [], [220], [178], [], [], [], [], [], [], []], [[], [], [], [], [526, 528, 6], [], [220], [187], [], [], [], [], [], [221], [], [], [], [], [482], [], [], [], [220], [178], [], [], [], [], [], [], [], [533, 535, 7]], [[], [], [], [], [], [], [], [], [], [], [220], [187], [], [], [], []]]
noncomputable def pp_15 : List (List Nat) := [[0, 1, 2, 3, 5, 6, 8, 10, 11, 14, 17, 20, 22, 23, 26, 27, 30, 32, 33, 36, 39, 40, 41, 44, 46, 47, 48, 49, 52, 53, 54, 55], [58, 61, 64, 65, 67, 70]]
noncomputable def ph_15 : List (List (List Nat)) := [[[], [], [], [], [], [], [], [], [220], [181], [], [], [], [], [], [220], [], [], [520, 497, 498], [], [], [], [221], [], [], [], [], [482], [], [], [], []], [[], [], [], [], [531], []]]
noncomputable def pp_16 : List (List Nat) := [[0, 1, 2, 3, 5, 7, 8, 11, 14, 17, 18, 19, 22, 24, 25, 26, 29, 30, 31, 32, 35, 38, 39]]
noncomputable def ph_16 : List (List (List Nat)) := [[[], [], [], [], [], [], [220], [181], [], [], [], [223], [], [], [], [538], [], [], [], [], [], [], []]]
noncomputable def pp_17 : List (List Nat) := [[0, 1, 2, 3, 5, 7, 8, 11, 14, 17, 18, 19, 22, 23, 25, 26, 29, 30, 31, 32, 35, 38, 39]]
noncomputable def ph_17 : List (List (List Nat)) := [[[], [], [], [], [], [], [220], [181], [], [], [], [223], [], [], [], [538], [], [], [], [], [], [], []]]
noncomputable def pp_18 : List (List Nat) := [[0, 1, 2, 5, 6, 7, 10, 11, 13, 15, 16, 19, 22, 25, 26, 29, 31, 33, 34, 37, 38, 41, 42, 45, 47, 48, 51, 52, 53, 54, 57, 59], [60, 62, 65, 66, 67, 70, 71, 74, 76, 77, 78, 81, 82, 83, 86, 87, 88, 91, 94, 97, 98, 99, 102, 103, 106, 109, 112]]
noncomputable def ph_18 : List (List (List Nat)) := [[[], [], [232], [], [], [233], [], [], [], [], [220], [181], [], [], [231], [], [], [], [], [], [], [], [221], [], [], [482], [], [], [], [231], [], []], [[], [], [], [], [232], [], [231], [], [], [], [232], [], [], [233], [], [], [233], [], [], [], [], [232], [], [233], [531], [234], []]]
noncomputable def pp_19 : List (List Nat) := [[0, 1, 2, 3, 4, 7, 10, 13, 14, 15, 16, 17, 20, 23, 26, 27, 30, 31, 32, 33, 36, 37, 38, 39, 40, 43, 44, 47, 50, 53, 56]]
noncomputable def ph_19 : List (List (List Nat)) := [[[], [], [], [], [220], [181], [], [], [], [], [], [220], [181], [], [], [223], [], [], [], [538], [], [], [], [], [550, 552, 10], [], [], [], [], [], []]]
noncomputable def pp_20 : List (List Nat) := [[0, 1, 2, 3, 4, 7, 10, 13, 14, 15, 18, 19, 20, 22, 23, 25, 26, 29, 30, 31, 33, 36, 37, 38, 39, 40, 43, 44, 45, 46, 49, 52], [54, 55, 56, 59, 62, 64, 65, 66, 67, 69, 70, 73, 74, 76, 77, 80, 81, 84, 85, 86, 87, 88, 91, 92, 95, 96, 97, 98, 99, 102, 103, 105], [106, 109, 110, 113, 114, 115, 116, 117, 120, 121, 124, 125, 126, 127, 130, 133]]
noncomputable def ph_20 : List (List (List Nat)) := [[[], [], [], [], [220], [181], [], [], [], [482], [], [], [], [], [], [], [231], [], [], [], [], [], [], [], [], [566, 568, 14], [], [], [], [533, 535, 7], [570, 572, 15], []], [[], [], [574, 576, 16], [578], [], [], [], [], [], [], [227], [], [], [], [], [], [227], [], [], [], [], [482], [], [], [], [], [], [], [225], [], [], []], [[], [], [225], [], [], [], [], [482], [], [], [], [], [], [], [], []]]
noncomputable def pp_21 : List (List Nat) := [[0, 1, 4, 7, 8, 9, 10, 11, 12, 15, 18, 19, 20, 21, 22, 23]]
noncomputable def ph_21 : List (List (List Nat)) := [[[], [220], [178], [], [], [], [], [], [220], [178], [], [], [], [], [], []]]
noncomputable def pp_22 : List (List Nat) := [[0, 1, 4, 7, 8, 9, 10, 13, 14, 15, 16, 17, 18, 21, 22, 25, 28, 29, 30, 31, 33, 34, 35, 38, 41, 42, 45, 46, 47, 48, 49, 50], [51]]
noncomputable def ph_22 : List (List (List Nat)) := [[[], [220], [178], [], [], [], [231], [], [], [], [], [], [232], [], [220], [178], [], [], [], [], [], [], [233], [531], [], [578], [], [], [], [], [], []], [[]]]
noncomputable def pp_23 : List (List Nat) := [[0, 1, 4, 7, 8, 9, 12, 13, 14, 17, 18, 21, 22, 23, 25, 28, 29, 32, 33, 34, 36, 39, 40, 41, 42, 45, 48, 49, 50, 76, 77, 78], [79, 82, 83, 86, 87, 88, 89, 92, 93, 94, 95, 96, 99, 102, 103, 104, 105, 108, 109, 110, 111, 114, 115, 118, 121, 122, 123, 124, 127, 128, 131, 132], [133, 134, 135, 136, 139, 140, 143, 144, 146, 148, 149, 150, 151, 154, 155, 158, 159, 160, 161, 164, 166, 167, 170, 171, 172]]
noncomputable def ph_23 : List (List (List Nat)) := [[[], [220], [178], [], [], [], [], [], [], [], [231], [], [], [], [], [], [231], [], [], [], [], [], [], [], [220], [184], [], [], [], [], [], []], [[234], [], [231], [], [], [], [554, 556, 11], [], [], [], [], [558, 560, 12], [], [], [], [], [231], [], [], [], [234], [], [554, 556, 11], [], [], [], [], [], [], [223], [], []], [[], [], [], [538], [], [], [], [], [], [], [], [], [234], [], [231], [], [], [], [554, 556, 11], [], [], [540, 374, 72, 375], [], [], []]]
noncomputable def pp_24 : List (List Nat) := [[0, 1, 4, 6, 7, 8, 11, 14, 15, 16, 17, 19, 20, 23, 26, 27]]
noncomputable def ph_24 : List (List (List Nat)) := [[[], [], [], [], [], [220], [191], [], [], [], [], [], [540, 374, 72, 375], [], [], []]]
noncomputable def pp_25 : List (List Nat) := [[0, 2, 3, 4, 5, 6, 7, 10, 13, 16, 17, 18, 21, 22, 25, 26, 27, 29, 32, 33, 35, 38, 39, 42, 43, 44, 45, 48, 49, 50, 53, 54], [55, 58, 61, 62]]
noncomputable def ph_25 : List (List (List Nat)) := [[[], [], [], [], [], [], [220], [181], [], [], [], [], [], [231], [], [], [], [], [], [], [], [], [231], [], [], [], [231], [], [], [], [], []], [[], [], [], []]]
noncomputable def pp_26 : List (List Nat) := [[0, 1, 4, 5, 6, 9, 10, 11, 14, 15, 16, 19, 20, 22, 25, 26, 28, 31, 32, 34, 37, 38, 40, 43]]
noncomputable def ph_26 : List (List (List Nat)) := [[[], [125, 83, 84], [], [], [126], [], [], [128], [], [], [130], [], [], [132], [], [], [134], [], [], [136], [], [], [138], []]]
noncomputable def pp_27 : List (List Nat) := [[0, 1, 4, 5, 9, 10, 13, 15, 18, 19, 21, 23, 26, 27, 29, 31, 34]]
noncomputable def ph_27 : List (List (List Nat)) := [[[], [276, 83, 84], [], [277], [], [], [112], [279], [], [], [112], [280], [], [], [112], [281], []]]
noncomputable def pp_28 : List (List Nat) := [[0, 1, 4, 5, 6, 9, 10, 11, 14, 15, 18, 19, 22, 23, 24, 27, 28, 29, 32, 33, 36, 37, 40, 41, 42, 45, 46, 47, 50, 51, 54, 55], [59]]
noncomputable def ph_28 : List (List (List Nat)) := [[[], [193], [], [], [279], [], [], [279], [], [802, 173, 172, 64], [], [197], [], [], [280], [], [], [280], [], [802, 173, 172, 64], [], [265], [], [], [281], [], [], [281], [], [802, 173, 172, 64], [], [277]], [[]]]
noncomputable def pp_29 : List (List Nat) := [[0, 1, 4, 5, 6, 9, 10, 11, 14, 15, 18, 19, 22, 23, 24, 27, 28, 29, 32, 33, 36, 37, 40, 41, 42, 45, 46, 47, 50, 51, 54]]
noncomputable def ph_29 : List (List (List Nat)) := [[[], [279], [], [], [193], [], [], [279], [], [802, 173, 172, 64], [], [280], [], [], [197], [], [], [280], [], [802, 173, 172, 64], [], [281], [], [], [265], [], [], [281], [], [802, 173, 172, 64], []]]
noncomputable def pp_30 : List (List Nat) := [[0, 1, 4, 5, 6, 8, 11, 12, 13, 16, 17, 19, 21, 24, 25, 27, 29, 32, 33, 35, 37, 40, 41, 44, 46, 49, 50, 52, 54, 57, 60, 61], [62, 65, 66, 67, 70, 71, 74, 75, 78, 79, 82, 84, 87, 88, 91, 93, 96]]
noncomputable def ph_30 : List (List (List Nat)) := [[[], [168, 83, 84], [], [], [112], [177], [], [], [180], [], [], [112], [183], [], [], [112], [186], [], [], [112], [189], [], [], [112], [192], [], [], [112], [196], [], [], []], [[177], [], [], [171, 173, 172, 64], [], [183], [], [174, 175], [], [192], [], [174, 175], [], [196], [], [174, 175], []]]
noncomputable def pp_31 : List (List Nat) := [[0, 3, 4, 5, 8, 9, 10, 13, 14, 15, 16, 17, 20, 23, 24, 27, 28, 31, 32, 33, 34, 37, 38, 39, 40, 43, 46]]
noncomputable def ph_31 : List (List (List Nat)) := [[[], [], [], [177], [], [], [171, 173, 172, 64], [], [], [], [], [99], [], [], [177], [], [95], [], [], [], [97], [], [], [], [], [], []]]
noncomputable def pp_32 : List (List Nat) := [[0, 1, 2, 5, 8, 9, 10, 11, 12, 15, 18, 19, 22, 23, 24, 25, 26, 29, 30, 31, 34, 35, 36, 37, 38, 41, 42, 43, 46, 48, 49, 52], [53, 55, 58, 59, 61, 62, 65, 66, 67, 68, 71, 72, 74, 77, 78, 80, 81, 84, 85, 86, 89, 92]]
noncomputable def ph_32 : List (List (List Nat)) := [[[], [], [99], [180], [], [], [], [], [180], [], [], [97], [], [], [], [], [183], [], [], [95], [], [], [], [], [183], [], [], [452, 453], [], [], [186], []], [[], [], [], [], [], [], [], [], [], [189], [], [], [], [], [], [], [], [], [], [], [], []]]
noncomputable def pp_33 : List (List Nat) := [[0, 1, 2, 5, 6, 7, 10, 11, 12, 15, 16, 19, 20]]
noncomputable def ph_33 : List (List (List Nat)) := [[[], [], [], [], [], [], [], [], [], [], [], [], []]]
noncomputable def pp_34 : List (List Nat) := [[0, 1, 4, 6, 9, 10, 13, 15, 18]]
noncomputable def ph_34 : List (List (List Nat)) := [[[], [192], [], [174, 175], [], [196], [], [174, 175], []]]
noncomputable def pp_35 : List (List Nat) := [[0, 1, 4, 5, 6, 9, 10, 11, 14, 15, 18, 19, 20, 23, 24, 26, 29, 30, 33, 34, 35, 38, 39, 41, 44, 45, 48, 49, 50, 53, 54, 56], [59, 60, 63, 64, 65, 68, 69, 70, 73, 74, 77, 78, 81, 82, 83, 86, 87, 89, 92, 93, 94, 97, 100]]
noncomputable def ph_35 : List (List (List Nat)) := [[[], [177], [], [], [177], [], [], [171, 173, 172, 64], [], [183], [], [], [183], [], [], [171, 173, 172, 64], [], [186], [], [], [186], [], [], [171, 173, 172, 64], [], [189], [], [], [189], [], [], [171, 173, 172, 64]], [[], [192], [], [], [192], [], [], [192], [], [171, 173, 172, 64], [], [196], [], [], [196], [], [], [171, 173, 172, 64], [], [], [180], [180], []]]
noncomputable def pp_36 : List (List Nat) := [[0, 1, 4, 5, 6, 9, 10, 11, 14, 15, 18, 19, 20, 23, 24, 25, 26, 27, 30, 33, 34, 35, 36, 37, 38, 39, 42, 43, 46, 47, 50, 51], [54, 55, 56, 57, 58, 61, 62, 65, 66, 69, 70, 71, 72, 73, 76, 77, 80, 81, 84, 85, 86, 87, 88, 89, 92, 93, 94, 97, 100, 103]]
noncomputable def ph_36 : List (List (List Nat)) := [[[], [177], [], [], [177], [], [], [171, 173, 172, 64], [], [689, 456, 457], [], [], [180], [], [], [], [], [180], [], [], [], [], [], [], [], [], [], [183], [], [180], [], [183]], [[], [], [], [], [186], [], [180], [], [186], [], [], [], [], [189], [], [180], [], [189], [], [], [], [], [], [180], [], [], [180], [], [], []]]
noncomputable def pp_37 : List (List Nat) := [[0, 1, 2, 5, 6, 7, 10, 11, 14, 15]]
noncomputable def ph_37 : List (List (List Nat)) := [[[], [], [196], [], [], [], [], [], [], []]]
noncomputable def pp_38 : List (List Nat) := [[0, 1, 2, 3, 4, 5, 6, 9, 12, 13, 14, 15, 18, 21, 24, 27, 30, 31]]
noncomputable def ph_38 : List (List (List Nat)) := [[[], [], [], [], [], [], [180], [], [], [], [], [496, 497, 498], [], [], [], [], [], []]]
noncomputable def pp_39 : List (List Nat) := [[0, 1, 3, 6, 7, 8, 10, 13, 16, 17, 20, 21, 22, 23, 24, 25, 28, 29, 32, 33]]
noncomputable def ph_39 : List (List (List Nat)) := [[[], [], [492, 493, 494], [], [], [], [496, 497, 498], [], [], [], [], [], [], [], [], [], [], [], [], []]]
noncomputable def pp_40 : List (List Nat) := [[0, 1, 4, 5, 7, 9, 12, 13, 14, 17, 18, 20, 22, 25, 26, 28, 30, 33, 34, 35, 38]]
noncomputable def ph_40 : List (List (List Nat)) := [[[], [90, 83, 84], [], [], [112], [91], [], [], [92], [], [], [112], [94], [], [], [112], [96], [], [], [98], []]]
noncomputable def pp_41 : List (List Nat) := [[0, 1, 4, 6, 9, 10, 13, 14, 17, 18, 19, 20, 21, 24, 25, 26, 29]]
noncomputable def ph_41 : List (List (List Nat)) := [[[], [92], [], [], [], [91], [], [92], [], [], [], [], [92], [], [], [92], []]]
noncomputable def pp_42 : List (List Nat) := [[0, 1, 2, 5, 6, 7, 8, 9, 10, 11, 14, 17, 18, 19, 22, 25, 26, 29, 30, 33, 34, 35, 36, 39, 41, 42, 43, 46, 49, 51, 54, 55], [58, 61, 62, 64, 67, 70, 71, 72, 73, 74, 76, 77, 78, 79, 80, 83, 85, 87, 89, 92, 94, 95, 96, 99, 100, 102, 103, 104, 105, 106, 107, 110], [111, 112, 113, 116, 118, 119, 120, 121, 122, 125, 128, 129, 132, 133, 136, 139, 140, 143, 146, 148]]
noncomputable def ph_42 : List (List (List Nat)) := [[[], [], [98], [], [], [], [], [], [], [139], [], [], [], [92], [], [], [127], [], [91], [], [], [], [342, 343, 344], [], [], [], [139], [], [], [], [], [135]], [[], [], [], [428, 430, 0], [], [], [], [], [], [], [], [], [], [], [432, 434, 1], [], [], [], [], [], [], [], [94], [], [], [], [], [], [], [], [98], []], [[], [], [129], [], [], [], [], [], [], [], [], [98], [], [137], [], [], [92], [], [], []]]
noncomputable def pp_43 : List (List Nat) := [[0, 1, 2, 3, 4, 7, 10, 11, 14, 15, 16, 17, 20, 21, 22, 25, 28, 29]]
noncomputable def ph_43 : List (List (List Nat)) := [[[], [], [], [], [98], [], [], [94], [], [], [], [], [], [], [], [], [], []]]
noncomputable def pp_44 : List (List Nat) := [[0, 1, 4, 5, 6, 8, 9, 11, 12, 14, 16, 18, 21, 22, 24, 25, 27, 29, 30, 33, 36, 37, 40, 41, 42, 45, 47, 48, 50, 51, 53, 55], [58, 60, 62, 65, 67, 68, 70, 72, 73, 75, 76, 78, 80, 81, 82, 84, 87, 89, 92, 93, 95, 97, 99, 100, 101, 104, 105, 106, 109, 111, 113, 114], [116, 117, 118, 119, 120, 123, 124, 125, 128, 130, 131, 134, 137, 138, 141, 143, 145, 146, 148]]
noncomputable def ph_44 : List (List (List Nat)) := [[[], [129], [], [], [], [], [], [], [], [], [], [], [], [], [], [], [], [], [92], [], [], [92], [], [], [91], [], [], [], [], [], [], []], [[], [], [], [], [], [], [], [], [], [], [], [], [], [], [], [], [], [], [], [], [], [], [], [], [133], [], [], [], [], [], [], []], [[], [], [], [], [131], [], [], [], [], [], [], [], [], [96], [], [], [], [], []]]
noncomputable def pp_45 : List (List Nat) := [[0, 1, 4, 5, 8, 9, 12, 15, 16, 19, 20, 22, 25, 28, 31, 32, 33, 34, 37, 40, 41, 44, 45, 47, 50, 53, 56, 57, 58, 60, 63, 66], [67, 70, 71, 74, 77, 78, 81, 82, 83, 86, 89, 92, 93, 96, 97, 100, 103, 104, 107, 108, 109, 112, 115, 118, 119, 122, 123, 126, 129, 130, 131, 134], [137, 138, 142, 143, 144, 145, 146, 149, 150, 153, 154, 157, 158, 161, 162, 165, 168]]
noncomputable def ph_45 : List (List (List Nat)) := [[[], [82, 83, 84], [], [85, 86, 61], [], [88], [291], [], [113, 114, 62], [], [], [116], [118], [120], [], [], [], [122, 123], [292], [], [113, 114, 62], [], [], [157], [159], [161], [], [], [], [122, 123], [293], []], [[163, 164, 63], [], [165, 166], [294], [], [214, 215, 66], [], [], [294], [216, 217], [295], [], [163, 164, 63], [], [165, 166], [296], [], [214, 215, 66], [], [], [296], [216, 217], [297], [], [257, 258, 67], [], [259, 260], [298], [], [], [270], [299]], [[], [300], [], [], [], [], [], [], [299], [], [270, 272, 68], [], [274], [], [], [], []]]
noncomputable def pp_46 : List (List Nat) := [[0, 1, 2, 5, 6, 8, 11, 13, 14, 15, 18, 21, 22, 23, 25, 28, 30, 31, 32, 33, 34, 36, 38, 41, 42, 45, 46, 48, 50, 51, 52, 53], [56, 57, 60, 63, 66, 67, 70, 73]]
noncomputable def ph_46 : List (List (List Nat)) := [[[], [], [], [], [], [], [], [], [], [291], [93], [], [], [], [], [], [], [], [], [], [], [], [], [], [291], [], [], [], [], [], [], []], [[], [326, 327, 328], [], [], [], [291], [93], []]]
noncomputable def pp_47 : List (List Nat) := [[0, 1, 4, 7, 8, 9, 12, 13, 16, 17]]
noncomputable def ph_47 : List (List (List Nat)) := [[[], [291], [93], [], [], [291], [], [93], [], []]]
noncomputable def pp_48 : List (List Nat) := [[0, 1, 4, 5, 8, 9, 12, 15, 16, 19, 22]]
noncomputable def ph_48 : List (List (List Nat)) := [[[], [291], [], [], [], [293], [], [], [292], [338, 339, 340], []]]
noncomputable def pp_49 : List (List Nat) := [[0, 1, 4, 5, 8, 11, 13, 16, 18, 19, 20, 23, 24, 27, 30, 31, 35, 36, 39, 42]]
noncomputable def ph_49 : List (List (List Nat)) := [[[], [291], [], [292], [338, 339, 340], [], [], [], [], [], [294], [], [291], [440, 441, 442], [], [300], [], [291], [100], []]]
noncomputable def pp_50 : List (List Nat) := [[0, 1, 4, 5, 8, 11, 13, 16, 18, 19, 20, 23, 24, 27, 30, 31, 34, 37, 38, 39, 40, 41, 44, 45, 48, 49, 50, 54, 57, 60, 61, 65], [66, 69, 72]]
noncomputable def ph_50 : List (List (List Nat)) := [[[], [291], [], [293], [338, 339, 340], [], [], [], [], [], [294], [], [291], [448, 449, 450], [], [294], [455, 456, 457], [], [], [], [], [], [], [299], [], [], [278], [], [], [], [300], []], [[294], [182], []]]
noncomputable def pp_51 : List (List Nat) := [[0, 1, 4, 5, 6, 9, 11, 14, 15, 18, 21, 22, 23]]
noncomputable def ph_51 : List (List (List Nat)) := [[[], [], [], [], [], [], [], [], [294], [179], [], [], []]]
noncomputable def pp_52 : List (List Nat) := [[0, 1, 2, 5, 8, 9, 10, 11, 36, 37, 40, 43, 44, 45, 46, 47, 50, 53, 54, 55, 56, 57, 60, 63, 64, 65, 66, 68]]
noncomputable def ph_52 : List (List (List Nat)) := [[[], [], [467, 469, 2], [], [], [], [], [], [], [294], [185], [], [], [], [], [294], [188], [], [], [], [], [294], [190], [], [], [], [], []]]
noncomputable def pp_53 : List (List Nat) := [[0, 1, 2, 5, 8, 9, 12, 15, 16, 17, 18, 21, 24, 26, 27, 28, 29, 32, 34, 35, 38, 41, 43, 44, 46, 47, 50, 53, 55, 56, 57, 58], [62, 64]]
noncomputable def ph_53 : List (List (List Nat)) := [[[], [], [467, 469, 2], [], [], [475, 476], [], [], [], [], [478, 479], [], [], [], [], [], [481, 482], [], [], [294], [195], [], [], [], [], [294], [195], [], [], [], [], [300]], [[], []]]
noncomputable def pp_54 : List (List Nat) := [[0, 1, 2, 5, 8, 9, 10, 11, 14, 15, 17, 20, 22, 23, 24, 26, 29, 30, 33, 34, 37, 40, 42, 43, 44, 47, 50, 51, 52, 53, 54, 57], [60, 61, 62, 63, 64, 68, 69]]
noncomputable def ph_54 : List (List (List Nat)) := [[[], [], [467, 469, 2], [], [], [], [], [], [], [], [], [], [], [], [], [], [], [294], [], [488, 489, 490], [], [], [], [], [294], [198], [], [], [], [], [294], [198]], [[], [], [], [], [300], [], []]]
noncomputable def pp_55 : List (List Nat) := [[0, 1, 4, 5, 7, 10, 12, 13, 14, 17, 20, 21, 22, 23, 24, 27, 30, 31, 32, 33, 34, 38, 39]]
noncomputable def ph_55 : List (List (List Nat)) := [[[], [], [], [], [], [], [], [], [294], [179], [], [], [], [], [294], [179], [], [], [], [], [300], [], []]]
noncomputable def pp_56 : List (List Nat) := [[0, 1, 2, 5, 8, 9, 12, 15, 16, 17, 18, 21, 24, 25, 26, 29, 30]]
noncomputable def ph_56 : List (List (List Nat)) := [[[], [], [467, 469, 2], [], [], [475, 476], [], [], [], [], [508, 510, 3], [222], [], [], [481, 482], [], []]]
noncomputable def pp_57 : List (List Nat) := [[0, 1, 2, 5, 8, 9, 10, 13, 16, 17, 20, 23, 24, 25, 26, 27, 30, 32, 33, 34, 37, 40, 41, 42, 43, 46, 47]]
noncomputable def ph_57 : List (List (List Nat)) := [[[], [], [467, 469, 2], [], [], [], [467, 469, 2], [], [], [475, 476], [], [], [], [], [], [], [], [], [], [508, 510, 3], [224], [], [], [], [583, 538], [], []]]
noncomputable def pp_58 : List (List Nat) := [[0, 1, 4, 7, 8, 11, 14, 15, 16, 19, 20]]
noncomputable def ph_58 : List (List (List Nat)) := [[[], [475, 476], [], [], [508, 510, 3], [230], [], [], [], [], []]]
noncomputable def pp_59 : List (List Nat) := [[0, 1, 4, 7, 8, 11, 12, 15, 18, 19]]
noncomputable def ph_59 : List (List (List Nat)) := [[[], [475, 476], [], [], [294], [], [592, 493, 494], [], [], []]]
noncomputable def pp_60 : List (List Nat) := [[0, 1, 2, 5, 8, 9, 12, 15, 18, 19, 22, 23, 26, 29, 30, 31, 34, 35, 36]]
noncomputable def ph_60 : List (List (List Nat)) := [[[], [], [467, 469, 2], [], [], [475, 476], [], [597], [], [598], [], [508, 510, 3], [228], [], [], [481, 482], [], [], []]]
noncomputable def pp_61 : List (List Nat) := [[0, 1, 4, 7, 10, 11, 12, 15, 16, 17, 20, 23, 24, 27, 28, 31, 32, 33, 36, 37]]
noncomputable def ph_61 : List (List (List Nat)) := [[[], [475, 476], [], [597], [], [], [], [], [], [603, 605, 17], [], [], [508, 510, 3], [], [598], [], [], [611, 612, 613], [], []]]
noncomputable def pp_62 : List (List Nat) := [[0, 1, 2, 5, 8, 9, 12, 15, 16, 17, 18, 21, 24, 25, 26, 29, 30]]
noncomputable def ph_62 : List (List (List Nat)) := [[[], [], [467, 469, 2], [], [], [475, 476], [], [], [], [], [508, 510, 3], [226], [], [], [481, 482], [], []]]
noncomputable def pp_63 : List (List Nat) := [[0, 1, 4, 5, 6, 9, 10, 11, 14, 16, 17, 18, 19, 20, 22, 25, 26, 27, 30, 31, 32, 33, 34, 37, 38, 39, 42, 43, 44, 47, 50, 52]]
noncomputable def ph_63 : List (List (List Nat)) := [[[], [508, 510, 3], [], [], [230], [], [], [], [], [], [], [], [], [], [], [], [], [230], [], [], [], [], [230], [], [], [], [], [], [], [], [], []]]
noncomputable def pp_64 : List (List Nat) := [[0, 1, 4, 5, 6, 7, 10, 11, 13, 14, 16, 18, 20, 23, 24, 26, 29, 30, 32, 35, 36, 39, 40, 41, 43, 44, 47, 50, 51]]
noncomputable def ph_64 : List (List (List Nat)) := [[[], [508, 510, 3], [], [], [], [603, 605, 17], [], [], [], [], [], [], [], [], [], [611, 612, 613], [], [], [611, 612, 613], [], [], [], [], [], [], [], [], [], []]]
noncomputable def pp_65 : List (List Nat) := [[0, 1, 4, 7, 8, 9, 10, 13, 14, 15, 16, 19, 20, 21, 23, 24, 26, 28, 29, 32, 35, 38, 40, 41, 44, 46, 47, 50, 52, 53, 54, 57], [59, 60, 61, 64, 66, 67, 69, 70, 71, 73, 76, 79, 81]]
noncomputable def ph_65 : List (List (List Nat)) := [[[], [475, 476], [], [], [], [], [508, 510, 3], [], [], [], [603, 605, 17], [], [], [], [], [], [], [], [294], [182], [], [], [], [481, 482], [], [], [228], [], [], [], [228], []], [[], [], [], [], [], [], [], [], [], [], [], [], []]]
noncomputable def pp_66 : List (List Nat) := [[0, 1, 4, 7, 8, 9, 10, 13, 14, 16, 19, 21, 22, 23, 24, 27, 28, 31, 32, 33, 34, 36, 38, 40, 43, 44, 46, 49, 52, 53, 54, 55], [58, 60, 61, 64, 67, 69]]
noncomputable def ph_66 : List (List (List Nat)) := [[[], [475, 476], [], [], [], [], [], [], [], [], [], [], [], [], [294], [], [592, 493, 494], [], [], [], [], [], [], [], [], [], [603, 605, 17], [230], [], [], [], []], [[], [], [], [], [], []]]
noncomputable def pp_67 : List (List Nat) := [[0, 1, 2, 3, 4, 5, 7, 9, 10, 13, 16, 19, 20, 22, 25, 27, 29, 32, 34, 35, 36, 39, 41, 42, 44, 45, 48, 51, 52]]
noncomputable def ph_67 : List (List (List Nat)) := [[[], [], [], [], [], [], [], [], [294], [182], [], [], [], [639, 641, 18], [], [], [], [], [], [], [], [], [], [], [], [], [], [], []]]
noncomputable def pp_68 : List (List Nat) := [[0, 1, 2, 5, 6, 7, 8, 9, 10, 13, 16, 19, 20, 21, 22, 25, 28, 29, 32, 35, 38, 39, 40]]
noncomputable def ph_68 : List (List (List Nat)) := [[[], [], [639, 641, 18], [], [], [], [], [], [294], [182], [], [], [], [], [639, 641, 18], [647, 648, 72, 649], [], [], [], [598], [], [], []]]
noncomputable def pp_69 : List (List Nat) := [[0, 2, 3, 4, 5, 6, 8, 10, 11, 14, 17, 20, 21, 24, 26, 29, 32, 33, 35, 38, 40, 41, 43, 46, 48, 49, 50, 53, 55, 56, 58, 59], [62, 65, 66]]
noncomputable def ph_69 : List (List (List Nat)) := [[[], [], [], [], [], [], [], [], [294], [182], [], [], [294], [], [488, 489, 490], [], [], [], [654, 656, 19], [], [], [], [], [], [], [], [], [], [], [], [], []], [[], [], []]]
noncomputable def pp_70 : List (List Nat) := [[0, 1, 2, 5, 8, 11, 12, 13, 16, 17, 20, 23, 26, 27, 28, 31, 32, 35, 38]]
noncomputable def ph_70 : List (List (List Nat)) := [[[], [], [467, 469, 2], [], [597], [], [], [294], [], [488, 489, 490], [], [598], [], [], [654, 656, 19], [], [], [662], []]]
noncomputable def pp_71 : List (List Nat) := [[0, 2, 3, 4, 5, 6, 8, 9, 12, 15, 17, 18, 19, 22, 25, 26, 29, 30, 32, 35, 38, 39, 41, 44, 46, 47, 49, 52, 54, 55, 56, 59], [61, 62, 64, 65, 68, 71, 72]]
noncomputable def ph_71 : List (List (List Nat)) := [[[], [], [], [], [], [], [], [667, 669, 20], [], [], [], [], [294], [182], [], [], [], [], [671, 673, 21], [], [], [], [681, 683, 22], [], [], [], [], [], [], [], [], []], [[], [], [], [], [], [], []]]
noncomputable def pp_72 : List (List Nat) := [[0, 1, 4, 7, 10, 11, 14, 15, 16, 17, 18, 19, 20, 23, 26, 27, 30, 31, 32, 35, 38, 39, 40, 41, 44, 47, 48, 51, 54, 57, 58, 59]]
noncomputable def ph_72 : List (List (List Nat)) := [[[], [667, 669, 20], [], [662], [], [694], [], [], [], [], [], [], [294], [182], [], [], [], [], [671, 673, 21], [], [], [], [], [681, 683, 22], [647, 648, 72, 649], [], [], [], [598], [], [], []]]
noncomputable def pp_73 : List (List Nat) := [[0, 1, 2, 5, 8, 9, 12, 15, 16, 17, 18, 21, 22, 23, 26, 29, 30, 33, 34, 35, 38, 41, 43]]
noncomputable def ph_73 : List (List (List Nat)) := [[[], [], [467, 469, 2], [], [], [475, 476], [], [], [], [], [294], [], [], [699, 497, 498], [], [], [508, 510, 3], [], [], [700, 701, 702], [], [], []]]
noncomputable def pp_74 : List (List Nat) := [[0, 1, 2, 5, 8, 9, 12, 15, 18, 19, 20, 23, 24, 25, 28, 31, 32, 33, 36, 39, 40, 41, 44, 45, 46, 49, 52, 55, 56, 59, 60, 61], [62, 65, 66, 69, 72]]
noncomputable def ph_74 : List (List (List Nat)) := [[[], [], [467, 469, 2], [], [], [475, 476], [], [597], [], [], [], [], [], [294], [179], [], [], [], [712], [], [], [294], [], [], [699, 497, 498], [], [598], [], [508, 510, 3], [], [], []], [[713, 705, 706], [], [], [662], []]]
noncomputable def pp_75 : List (List Nat) := [[0, 1, 4, 7, 8, 9, 10, 13, 14, 17, 20, 21, 24, 25]]
noncomputable def ph_75 : List (List (List Nat)) := [[[], [475, 476], [], [], [], [], [508, 510, 3], [], [718, 719, 720], [], [], [], [], []]]
noncomputable def pp_76 : List (List Nat) := [[0, 1, 4, 7, 8, 11, 14, 15, 16, 17, 20, 23, 25, 26, 27, 28, 31, 33, 34, 37, 40, 42, 43, 45, 46, 49, 52, 54, 55, 56, 58]]
noncomputable def ph_76 : List (List (List Nat)) := [[[], [727, 728], [], [], [730, 731], [], [], [], [], [478, 479], [], [], [], [], [], [733, 734], [], [], [298], [266], [], [], [], [], [298], [266], [], [], [], [], []]]
noncomputable def pp_77 : List (List Nat) := [[0, 1, 4, 7, 8, 11, 14, 15, 16, 17, 20, 23, 24, 27, 28, 29, 30, 33, 36, 38]]
noncomputable def ph_77 : List (List (List Nat)) := [[[], [727, 728], [], [], [730, 731], [], [], [], [], [740, 741], [], [], [298], [], [], [], [743, 744, 745], [], [], []]]
noncomputable def pp_78 : List (List Nat) := [[0, 1, 4, 7, 8, 9, 10, 13, 16, 17, 20, 21, 22, 25, 28, 30]]
noncomputable def ph_78 : List (List (List Nat)) := [[[], [727, 728], [], [], [], [], [740, 741], [], [], [298], [], [], [758, 759, 760], [], [], []]]
noncomputable def pp_79 : List (List Nat) := [[0, 1, 4, 7, 8, 11, 12, 15, 18, 19]]
noncomputable def ph_79 : List (List (List Nat)) := [[[], [727, 728], [], [], [298], [], [767, 768, 769], [], [], []]]
noncomputable def pp_80 : List (List Nat) := [[0, 1, 4, 7, 8, 9, 10, 13, 14, 16, 19, 21, 24, 25, 28, 29, 30, 33]]
noncomputable def ph_80 : List (List (List Nat)) := [[[], [727, 728], [], [], [], [], [], [], [], [], [], [], [], [298], [], [], [779, 780, 781], []]]
noncomputable def pp_81 : List (List Nat) := [[0, 1, 4, 5, 6, 9, 12, 14, 17, 18, 19, 20, 21, 24, 27, 30, 31, 32, 33, 35, 38, 39, 42, 45, 46, 47, 50, 51, 54, 55, 56, 59], [60, 61, 64, 67, 70, 73, 74, 77, 80, 83]]
noncomputable def ph_81 : List (List (List Nat)) := [[[], [508, 510, 3], [], [], [298], [266], [], [787, 175], [], [], [], [], [294], [182], [], [], [], [], [], [], [], [298], [266], [], [], [733, 734], [], [222], [], [], [481, 482], []], [[], [], [], [], [], [], [298], [266], [788, 789], []]]
noncomputable def pp_82 : List (List Nat) := [[0, 1, 4, 7, 8, 9, 10, 13, 14, 15, 16, 19, 20, 23, 26, 27, 30, 33, 36]]
noncomputable def ph_82 : List (List (List Nat)) := [[[], [795, 796], [], [], [], [], [299], [], [], [], [294], [], [298], [798, 799, 800], [], [294], [195], [788, 789], []]]
noncomputable def pp_83 : List (List Nat) := [[0, 1, 4, 7, 8, 9, 10, 13, 14, 15, 18, 21, 23, 24, 25, 28, 29, 30, 31, 34, 35, 38, 41, 42, 46, 47, 50, 53, 56]]
noncomputable def ph_83 : List (List (List Nat)) := [[[], [795, 796], [], [], [], [], [299], [], [], [278], [], [], [], [], [299], [], [], [], [294], [], [298], [807, 808, 809], [], [300], [], [294], [195], [788, 789], []]]
noncomputable def pp_84 : List (List Nat) := [[0, 1, 36, 37, 40, 43, 44, 45, 48, 51, 54, 55, 56, 59, 62, 63, 66, 68, 71, 72, 73, 74, 77, 80, 83, 84, 85, 88, 91, 92, 94]]
noncomputable def ph_84 : List (List (List Nat)) := [[[], [], [], [294], [182], [], [], [294], [195], [788, 789], [], [], [294], [182], [], [294], [], [592, 493, 494], [], [], [], [298], [266], [788, 789], [], [], [291], [93], [], [], []]]
noncomputable def pp_85 : List (List Nat) := [[0, 1, 4, 5, 6, 9, 12, 15, 16, 19, 20]]
noncomputable def ph_85 : List (List (List Nat)) := [[[], [], [], [], [294], [182], [], [], [], [], []]]
noncomputable def pp_86 : List (List Nat) := [[0, 1, 4, 5, 7, 10, 11, 14, 15]]
noncomputable def ph_86 : List (List (List Nat)) := [[[], [], [], [], [], [], [], [], []]]
noncomputable def pp_87 : List (List Nat) := [[0, 1, 4, 5, 6, 9, 10, 13, 14]]
noncomputable def ph_87 : List (List (List Nat)) := [[[], [], [], [], [], [], [], [], []]]
noncomputable def pp_88 : List (List Nat) := [[0, 1, 3, 6, 7, 10, 11, 13, 16, 17, 20, 21]]
noncomputable def ph_88 : List (List (List Nat)) := [[[], [], [], [], [], [], [], [], [], [], [], []]]
noncomputable def pp_89 : List (List Nat) := [[0, 1, 4, 5, 7, 10, 11, 14, 15]]
noncomputable def ph_89 : List (List (List Nat)) := [[[], [], [], [], [], [], [], [], []]]
noncomputable def pp_90 : List (List Nat) := [[0, 1, 4, 5, 7, 10, 11, 14, 15]]
noncomputable def ph_90 : List (List (List Nat)) := [[[], [], [], [], [], [], [], [], []]]
noncomputable def pp_91 : List (List Nat) := [[0, 1, 4, 5, 7, 10, 11, 13, 16, 17, 20, 23, 24, 27, 30, 31, 34, 37, 38, 41, 44, 45, 48, 49]]
noncomputable def ph_91 : List (List (List Nat)) := [[[], [], [], [], [], [], [], [], [], [], [], [], [], [], [], [], [], [], [], [], [], [], [], []]]
noncomputable def pp_92 : List (List Nat) := [[0, 1, 3, 4, 5, 6]]
noncomputable def ph_92 : List (List (List Nat)) := [[[], [], [], [], [], []]]
noncomputable def pp_93 : List (List Nat) := [[0, 1, 3, 4, 5, 6, 8, 9, 10, 11]]
noncomputable def ph_93 : List (List (List Nat)) := [[[], [], [], [], [], [], [], [], [], []]]
noncomputable def pp_94 : List (List Nat) := [[0, 1, 3, 4, 5, 6]]
noncomputable def ph_94 : List (List (List Nat)) := [[[], [], [], [], [], []]]
noncomputable def pp_95 : List (List Nat) := [[0, 1, 2, 3, 4, 5, 6, 7, 10, 11, 12, 13, 15, 18, 21, 24, 27, 28]]
noncomputable def ph_95 : List (List (List Nat)) := [[[], [], [], [], [], [], [], [], [], [], [], [], [], [], [], [], [], []]]
noncomputable def pp_96 : List (List Nat) := [[0, 1, 4, 5, 6, 7, 10, 11]]
noncomputable def ph_96 : List (List (List Nat)) := [[[], [], [], [], [], [], [], []]]
noncomputable def pp_97 : List (List Nat) := [[0, 1, 4, 7, 8, 11, 14, 15, 19, 20, 23]]
noncomputable def ph_97 : List (List (List Nat)) := [[[], [300], [], [], [295], [512, 513, 514], [], [300], [], [295], []]]
noncomputable def pp_98 : List (List Nat) := [[0, 1, 4, 5, 8, 11, 12, 15, 18, 19, 20, 21, 22, 25, 28, 29, 32]]
noncomputable def ph_98 : List (List (List Nat)) := [[[], [296], [], [294], [607, 608, 609], [], [296], [179], [], [], [], [], [297], [512, 513, 514], [], [297], []]]
noncomputable def pp_99 : List (List Nat) := [[0, 1, 4, 5, 8, 11, 12, 15, 18, 19, 20, 23, 24, 27, 30, 31, 32, 33, 34, 37, 40, 41, 44, 46, 49]]
noncomputable def ph_99 : List (List (List Nat)) := [[[], [296], [], [294], [607, 608, 609], [], [296], [195], [], [], [481, 482], [], [294], [179], [], [], [], [], [297], [512, 513, 514], [], [297], [], [611, 612, 613], []]]
noncomputable def pp_100 : List (List Nat) := [[0, 1, 4, 5, 8, 11, 12, 15, 18, 19, 20, 21, 22, 25, 28, 29, 32, 34, 37]]
noncomputable def ph_100 : List (List (List Nat)) := [[[], [296], [], [294], [607, 608, 609], [], [296], [198], [], [], [], [], [297], [512, 513, 514], [], [297], [], [611, 612, 613], []]]
noncomputable def pp_101 : List (List Nat) := [[0, 1, 4, 7, 8, 11, 12, 15, 18, 20, 23, 24, 27, 28]]
noncomputable def ph_101 : List (List (List Nat)) := [[[], [294], [182], [], [], [], [294], [182], [], [], [], [], [], []]]
noncomputable def pp_102 : List (List Nat) := [[0, 1, 2, 5, 6, 7, 10, 13, 16, 17, 20, 21]]
noncomputable def ph_102 : List (List (List Nat)) := [[[], [], [675, 676], [], [], [294], [182], [], [], [], [], []]]
noncomputable def pp_103 : List (List Nat) := [[0, 1, 4, 5, 8, 9, 12, 13, 16, 19, 20, 23, 25, 28, 29, 30, 33, 34, 37, 38, 39, 40, 43, 44, 47, 50, 51, 52, 55, 57, 60, 61]]
noncomputable def ph_103 : List (List (List Nat)) := [[[], [296], [], [294], [], [685, 686, 687], [], [297], [512, 513, 514], [], [297], [], [611, 612, 613], [], [], [296], [], [294], [], [], [], [685, 686, 687], [], [297], [512, 513, 514], [], [], [297], [], [611, 612, 613], [], []]]
noncomputable def pp_104 : List (List Nat) := [[0, 1, 4, 5, 7, 9, 12, 13, 14, 16, 19, 20, 21, 23, 26, 27, 29, 31, 34, 35, 37, 39, 42, 43, 45, 47, 50, 51, 53, 55, 58, 59], [61, 63, 66, 67, 69, 71, 74, 75, 78, 80, 83, 84, 86, 88, 91, 92, 95, 97, 100, 101, 103, 105, 108, 109, 111, 113, 116, 117, 118, 120, 123, 124], [126, 128, 131, 132, 134, 136, 139, 140, 143, 145, 148, 149, 152, 154, 157, 158, 161, 163, 166, 167, 170, 172, 175, 176, 178, 180, 183, 184, 186, 188, 191, 192], [195, 196, 198, 199, 200, 203, 204, 206, 207, 208, 211, 212, 213, 214, 215, 218, 219, 220, 221, 222, 223, 226, 227, 230, 231, 232, 233, 234, 237, 238, 239, 240], [241, 244, 245, 246, 247, 249, 252, 253, 256, 257, 259, 260, 263, 266]]
noncomputable def ph_104 : List (List (List Nat)) := [[[], [820, 83, 84], [], [], [112], [826], [], [], [112], [829], [], [], [112], [830], [], [], [112], [833], [], [], [112], [834], [], [], [112], [835], [], [], [112], [837], [], []], [[112], [838], [], [], [112], [839], [], [], [112], [840], [], [], [112], [841], [], [], [112], [842], [], [], [112], [843], [], [], [112], [844], [], [], [919], [845], [], []], [[112], [846], [], [], [112], [847], [], [], [112], [850], [], [], [112], [851], [], [], [256], [852], [], [], [256], [853], [], [], [112], [854], [], [], [112], [855], [], [829]], [[], [], [], [], [829], [], [], [], [], [829], [], [], [], [], [829], [], [], [], [], [], [832], [], [833], [], [], [], [], [833], [], [], [], []], [[821, 823, 24], [], [], [], [], [], [], [846], [], [], [], [], [], []]]
noncomputable def pp_105 : List (List Nat) := [[0, 1, 2, 3, 6, 7, 9, 10, 13, 14, 17, 18]]
noncomputable def ph_105 : List (List (List Nat)) := [[[], [], [], [], [], [], [], [], [], [], [], []]]
noncomputable def pp_106 : List (List Nat) := [[0, 1, 2, 3, 6, 9, 10, 13, 14, 16, 17, 20, 23, 24, 25, 26, 28, 31, 32, 35, 36, 38, 39, 42, 45, 46, 49, 50, 52, 53, 56, 57], [59]]
noncomputable def ph_106 : List (List (List Nat)) := [[[], [], [], [], [], [], [840], [], [], [], [], [], [], [], [], [], [], [], [841], [], [], [], [], [], [], [845], [], [], [], [845], [], []], [[]]]
noncomputable def pp_107 : List (List Nat) := [[0, 1, 2, 3, 4, 7, 8, 9, 10, 13, 16, 17, 20, 21]]
noncomputable def ph_107 : List (List (List Nat)) := [[[], [], [], [], [832], [], [], [], [925, 926], [], [], [], [], []]]
noncomputable def pp_108 : List (List Nat) := [[0, 1, 2, 3, 6, 9, 12, 13, 16, 17]]
noncomputable def ph_108 : List (List (List Nat)) := [[[], [], [], [984], [925, 926], [], [], [], [], []]]
noncomputable def pp_109 : List (List Nat) := [[0, 1, 2, 5, 6, 7, 8, 11, 14, 17, 19, 20, 21, 24, 25, 26, 28, 31, 33, 34, 35, 36, 37, 39, 41, 44, 45, 48, 49, 52, 53, 55], [57, 58, 59, 60, 63, 64, 65, 66, 67, 70, 71, 72, 75, 78, 81, 82, 85]]
noncomputable def ph_109 : List (List (List Nat)) := [[[], [], [825], [], [], [], [924], [925, 926], [], [], [], [], [827], [], [], [], [], [], [], [], [], [], [], [], [], [], [826], [], [827], [], [], []], [[], [], [], [], [], [], [], [], [827], [], [], [827], [], [], [], [827], []]]
noncomputable def pp_110 : List (List Nat) := [[0, 1, 2, 5, 6, 9, 10, 11, 12, 15, 16]]
noncomputable def ph_110 : List (List (List Nat)) := [[[], [], [825], [], [827], [], [], [], [827], [], []]]
noncomputable def pp_111 : List (List Nat) := [[0, 1, 4, 5, 8, 11, 12, 15, 16, 19, 20, 22, 23, 24, 25, 26, 27, 28, 31, 34, 36, 37, 38, 39, 42, 43, 44, 47, 48, 51, 52, 55], [56, 57, 58, 60, 61]]
noncomputable def ph_111 : List (List (List Nat)) := [[[], [828], [], [827], [], [], [826], [], [828], [], [], [], [], [], [], [], [], [925, 926], [], [], [], [], [], [828], [], [], [828], [], [826], [], [828], []], [[], [], [], [], []]]
noncomputable def pp_112 : List (List Nat) := [[0, 1, 2, 3, 5, 6, 9, 10, 11, 13, 16, 18, 19, 20, 21, 24, 25, 28, 29, 30, 31, 33, 34, 37, 38, 41, 43, 46, 48, 50, 52, 55], [57, 60, 62, 63, 64, 66, 67]]
noncomputable def ph_112 : List (List (List Nat)) := [[[], [], [], [], [], [947, 949, 27], [], [], [], [], [], [], [], [], [], [], [], [], [], [], [], [], [], [], [], [], [947, 949, 27], [], [], [], [], []], [[], [], [], [], [], [], []]]
noncomputable def pp_113 : List (List Nat) := [[0, 1, 2, 5, 6, 7, 10, 11, 14, 15, 17, 18, 19, 22, 23, 25, 26, 27, 30, 31, 32, 33, 34, 37, 38, 39, 40, 41, 42, 43, 46, 47], [50, 53, 54, 57, 58, 61, 62, 63, 64, 66, 69, 70, 73, 74, 76, 79, 80, 83, 84, 86, 89, 90, 93, 94, 96, 99, 100, 103, 105, 106, 107, 109], [112, 113, 114, 115, 116, 117, 118, 121, 122, 125, 126, 127, 128, 131, 132, 133, 136, 137, 140, 141, 142, 144, 147, 150, 151, 152, 155, 156, 157, 159, 162, 165], [166, 167, 168, 171, 172, 175, 176, 178, 181, 183, 185, 187, 190, 191, 194, 195, 196, 199, 200, 202, 203, 204, 205, 206, 207, 208, 209, 210, 211, 214, 215, 216], [219, 222, 224]]
noncomputable def ph_113 : List (List (List Nat)) := [[[], [], [828], [], [], [831], [], [830], [], [], [], [], [830], [], [], [], [], [830], [], [], [], [], [830], [], [], [], [], [], [], [828], [], [827]], [[], [], [826], [], [828], [], [], [], [], [], [], [], [], [], [], [], [], [], [], [], [], [], [], [], [], [], [], [], [], [], [], []], [[], [], [], [], [], [], [], [], [828], [], [], [], [828], [], [], [828], [], [], [], [], [], [943, 945, 26], [], [], [], [], [], [], [], [943, 945, 26], [], []], [[], [], [], [], [], [], [], [947, 949, 27], [], [], [], [], [], [828], [], [], [830], [], [], [], [], [], [], [], [], [], [], [], [831], [], [], [831]], [[], [], []]]
noncomputable def pp_114 : List (List Nat) := [[0, 1, 3, 6, 7, 10, 11, 13, 16, 17, 20, 21, 23, 26, 27, 30, 31, 33, 36, 37, 40, 41, 43, 46, 47, 50, 51, 53, 56, 57, 60, 61], [63, 66, 68, 71, 73]]
noncomputable def ph_114 : List (List (List Nat)) := [[[], [], [], [], [], [], [], [], [], [], [], [], [], [], [], [], [], [], [], [], [], [], [], [], [], [], [], [], [], [], [], []], [[], [], [], [], []]]
noncomputable def pp_115 : List (List Nat) := [[0, 1, 2, 5, 6, 7, 10, 11, 14, 15, 18, 21, 22, 25, 26, 29, 30, 33, 34, 35, 37, 40, 41, 44, 46, 49, 50, 53, 54, 55, 56, 59], [60, 61, 64, 65, 68, 69, 70, 72, 75, 78, 79, 80, 83, 84, 87, 88, 89, 91, 94, 95, 96, 98, 101, 103, 106, 107, 108, 111, 114, 117, 120, 121], [122, 124, 127, 130, 131, 132, 133, 135, 138, 139, 142, 143, 144, 147, 148, 151, 152, 153, 154, 157, 158, 161, 162, 163, 164, 167, 168, 171, 172, 173, 174, 175], [178, 179, 180, 183, 186, 187, 190, 191, 194, 195, 198, 201, 203]]
noncomputable def ph_115 : List (List (List Nat)) := [[[], [], [828], [], [], [836], [], [828], [], [827], [], [], [826], [], [828], [], [940, 941], [], [], [], [], [], [836], [], [], [], [828], [], [], [], [828], []], [[], [828], [], [], [], [], [], [943, 945, 26], [], [], [], [], [], [], [], [], [], [947, 949, 27], [], [], [], [], [], [], [], [], [951], [952], [925, 926], [], [], []], [[], [947, 949, 27], [], [], [], [], [], [], [], [828], [], [], [837], [], [836], [], [], [], [838], [], [836], [], [], [], [839], [], [836], [], [], [], [], [836]], [[], [], [836], [], [], [836], [], [], [], [828], [], [], []]]
noncomputable def pp_116 : List (List Nat) := [[0, 1, 2, 5, 6, 9, 10, 13, 16, 17, 20]]
noncomputable def ph_116 : List (List (List Nat)) := [[[], [], [825], [], [], [], [936, 938, 25], [], [], [953, 955, 28], []]]
noncomputable def pp_117 : List (List Nat) := [[0, 1, 2, 5, 6, 9, 11, 14, 16, 17, 18, 19, 20, 21, 24, 25, 28, 29, 30, 33, 34, 35, 36, 39, 42, 43, 46]]
noncomputable def ph_117 : List (List (List Nat)) := [[[], [], [825], [], [953, 955, 28], [], [], [], [], [], [], [], [], [], [], [829], [], [], [830], [], [], [], [], [], [], [831], []]]
noncomputable def pp_118 : List (List Nat) := [[0, 1, 2, 5, 6, 9, 11, 14, 16, 17, 18, 19, 22, 25, 26, 27, 28, 30, 33, 34, 37, 38, 39, 42, 43, 44, 45, 46, 49, 50, 51, 54], [55, 56, 57, 58, 61, 62, 63, 66, 67, 68, 69, 72, 75, 76, 79, 80, 83]]
noncomputable def ph_118 : List (List (List Nat)) := [[[], [], [825], [], [936, 938, 25], [], [], [], [], [], [], [836], [832], [], [], [], [], [], [], [833], [], [], [837], [], [], [], [], [834], [], [], [838], []], [[], [], [], [835], [], [], [839], [], [], [], [], [], [], [821, 823, 24], [], [832], []]]
noncomputable def pp_119 : List (List Nat) := [[0, 1, 2, 5, 6, 7, 8, 11, 14, 17, 18, 21, 22, 23, 26, 28]]
noncomputable def ph_119 : List (List (List Nat)) := [[[], [], [825], [], [], [], [951], [925, 926], [], [], [829], [], [], [], [], []]]
noncomputable def pp_120 : List (List Nat) := [[0, 1, 2, 5, 6, 7, 10, 13, 14, 15, 16, 19, 20, 23, 24, 25, 28, 29, 30, 33, 34, 37, 38, 39, 42, 43, 44, 47, 48, 51, 52, 53], [56, 58]]
noncomputable def ph_120 : List (List (List Nat)) := [[[], [], [825], [], [], [973, 975, 29], [], [], [], [], [], [], [833], [], [], [], [], [], [], [], [834], [], [], [], [], [], [], [], [835], [], [], []], [[], []]]
noncomputable def pp_121 : List (List Nat) := [[0, 1, 2, 5, 6, 7, 10, 13, 14, 17, 20, 21, 22, 23, 24, 25, 28, 31, 34, 35, 37, 40, 42, 43, 44, 47, 49, 50, 51, 52, 53, 54], [56, 57, 60, 62, 63, 64, 65, 66, 67, 68, 70]]
noncomputable def ph_121 : List (List (List Nat)) := [[[], [], [825], [], [], [973, 975, 29], [], [], [981, 982], [], [], [], [], [], [], [985], [925, 926], [], [], [], [], [], [], [], [840], [], [], [], [], [], [], []], [[], [840], [], [], [], [], [], [], [], [], []]]
noncomputable def pp_122 : List (List Nat) := [[0, 1, 2, 3, 4, 5, 6, 9, 12, 13, 14, 17, 18, 19, 21, 24, 25, 28, 29, 30, 31, 34, 37, 38]]
noncomputable def ph_122 : List (List (List Nat)) := [[[], [], [], [], [], [], [832], [], [], [], [841], [], [], [], [], [], [], [], [], [], [], [], [], []]]
noncomputable def pp_123 : List (List Nat) := [[0, 1, 2, 5, 6, 7, 10, 13, 14, 15, 16, 17, 18, 21, 24, 27, 29, 30, 31, 34, 35, 36, 37, 38, 41, 42, 43, 44, 45, 48, 49, 52], [53, 56, 57, 58, 59, 61, 62, 63]]
noncomputable def ph_123 : List (List (List Nat)) := [[[], [], [825], [], [], [973, 975, 29], [], [], [], [], [], [], [990], [925, 926], [], [], [], [], [841], [], [], [], [], [841], [], [], [], [], [991, 993, 30], [], [], []], [[841], [], [], [], [], [], [], []]]
noncomputable def pp_124 : List (List Nat) := [[0, 1, 2, 5, 6, 7, 8, 11, 14, 17, 19, 20, 21, 24, 25, 26, 27, 28, 31, 32, 33, 34, 35]]
noncomputable def ph_124 : List (List (List Nat)) := [[[], [], [825], [], [], [], [999], [925, 926], [], [], [], [], [829], [], [], [], [], [829], [], [], [], [], []]]
noncomputable def pp_125 : List (List Nat) := [[0, 1, 4, 7, 8, 11, 12, 15, 16, 17, 18, 19, 22, 23, 26, 27]]
noncomputable def ph_125 : List (List (List Nat)) := [[[], [849], [], [], [841], [], [847], [], [], [], [], [], [], [], [], []]]
noncomputable def pp_126 : List (List Nat) := [[0, 1, 2, 3, 4, 5, 6, 9, 12, 13, 14, 15, 16, 19, 22, 23, 26, 27, 28, 29, 32, 35, 36]]
noncomputable def ph_126 : List (List (List Nat)) := [[[], [], [], [], [], [], [848], [], [], [], [], [], [1012, 1014, 33], [], [], [], [], [], [], [], [], [], []]]
noncomputable def pp_127 : List (List Nat) := [[0, 1, 4, 5, 8, 9, 10, 13, 14, 15, 18, 19, 22, 23, 24, 27, 28]]
noncomputable def ph_127 : List (List (List Nat)) := [[[], [], [], [], [], [], [829], [], [], [], [], [829], [], [], [], [], []]]
noncomputable def pp_128 : List (List Nat) := [[0, 1, 2, 3, 5, 6, 8, 10, 11, 14, 17, 19, 20, 23, 24, 26, 27, 30, 33, 34, 35, 38, 40, 41, 42, 43, 44, 46, 47, 48, 49, 50], [53, 56, 59, 60, 62, 63]]
noncomputable def ph_128 : List (List (List Nat)) := [[[], [], [], [], [], [], [], [], [848], [], [], [], [], [], [], [], [1012, 1014, 33], [], [], [], [850], [], [], [], [], [], [], [], [], [], [], []], [[], [], [], [], [], []]]
noncomputable def pp_129 : List (List Nat) := [[0, 1, 2, 3, 5, 7, 8, 11, 14, 15, 16, 19, 21, 22, 23, 25, 27, 28, 29, 30, 31, 32, 33, 34, 37, 40, 41]]
noncomputable def ph_129 : List (List (List Nat)) := [[[], [], [], [], [], [], [848], [], [], [], [851], [], [], [], [], [], [], [], [], [], [], [], [], [], [], [], []]]
noncomputable def pp_130 : List (List Nat) := [[0, 1, 4, 5, 6, 7, 8, 11, 14, 15, 18, 20, 21, 22, 23, 24, 25, 27, 30, 31, 32, 35, 37, 38, 39, 40, 41, 42, 45, 46, 47, 50], [51, 52, 53, 56, 57, 58, 61, 62, 63, 66, 67, 70, 71, 72, 75, 76, 79, 80, 81, 84, 85, 88, 89, 90, 91, 92, 93, 94, 97, 98, 99, 101], [104, 105, 106, 107, 108, 111, 112, 115, 116, 117, 118, 121, 122, 123, 124, 125, 126, 127, 130, 132, 133, 134, 137, 139, 140, 141, 142, 143, 144, 145, 146, 148], [151, 152, 155, 156, 157, 159, 160, 163, 164, 167, 168, 169, 170, 171, 174]]
noncomputable def ph_130 : List (List (List Nat)) := [[[], [847], [], [], [], [], [849], [], [], [840], [], [], [], [], [], [], [], [], [], [], [840], [], [], [], [], [], [], [1020, 1022, 35], [], [], [833], []], [[], [], [], [], [], [833], [], [], [], [], [834], [], [], [], [], [1020, 1022, 35], [], [], [], [], [829], [], [], [], [], [], [], [833], [], [], [], []], [[], [], [], [], [1024, 1026, 36], [], [834], [], [], [], [1020, 1022, 35], [], [], [], [], [], [], [1028, 1030, 37], [], [], [], [850], [], [], [], [], [], [], [], [], [], []], [[], [829], [], [], [], [], [], [], [834], [], [], [], [], [1020, 1022, 35], []]]
noncomputable def pp_131 : List (List Nat) := [[0, 1, 2, 3, 4, 5, 7, 9, 11, 14, 15, 18, 20, 21, 22, 25, 28, 29, 31, 33, 34, 37, 40, 41, 43, 44, 47, 50, 51, 52, 55, 57], [58, 59, 60, 63, 66, 69, 70, 71, 72, 74, 75, 77, 79, 80, 83, 86, 87, 90, 91, 92, 95, 96, 98, 99, 102, 105, 106, 108, 109, 111, 114, 117], [120]]
noncomputable def ph_131 : List (List (List Nat)) := [[[], [], [], [], [], [], [], [], [], [], [855], [], [], [], [], [], [], [], [], [], [848], [], [], [], [], [1012, 1014, 33], [], [], [], [854], [], []], [[], [], [], [], [], [], [], [], [], [], [], [], [], [848], [], [], [829], [], [], [], [], [], [], [1012, 1014, 33], [], [], [], [], [], [1036, 1038, 39], [], []], [[]]]
noncomputable def pp_132 : List (List Nat) := [[0, 1, 3, 6, 8, 11, 12]]
noncomputable def ph_132 : List (List (List Nat)) := [[[], [], [], [], [], [], []]]
noncomputable def pp_133 : List (List Nat) := [[0, 1, 4, 5, 8, 9, 10, 11, 13, 14, 17, 18, 21, 22, 23, 24, 26, 28, 29, 32, 34, 36, 37, 39, 41, 42, 45, 48, 50, 51, 54, 55], [57, 58, 61, 64, 66, 68, 71, 72, 75, 77, 78, 79, 82, 84, 85, 88, 90, 92, 95, 98, 99, 102, 104, 105, 106, 109, 110, 113, 115, 116, 117, 119], [120, 121, 124, 126, 127, 128, 129, 131, 132, 134, 135, 138, 139, 142, 144, 145, 148, 150, 151, 154, 155, 157, 159, 160, 163, 166, 168, 169, 172, 173, 175, 176], [179, 182, 183, 186, 188, 189, 190, 193, 194, 195, 198, 200, 201, 202, 204, 205, 207, 208, 211, 214, 215, 217, 219, 220, 223, 224, 227, 228, 231, 233, 234, 235], [236, 237, 239, 241, 242, 243, 244, 245, 246, 249, 250, 252, 253, 256, 258, 259, 260, 262, 263, 265, 267, 268, 271, 272, 275, 278]]
noncomputable def ph_133 : List (List (List Nat)) := [[[], [833], [], [847], [], [], [], [], [], [835], [], [847], [], [], [], [], [], [], [], [], [], [], [], [], [], [848], [], [], [], [], [], []], [[], [1012, 1014, 33], [], [], [], [], [], [854], [], [], [], [854], [], [], [], [], [], [], [], [], [854], [], [], [], [], [], [855], [], [], [], [], []], [[], [854], [], [], [], [], [], [], [], [], [1040, 1041], [], [], [], [], [], [], [], [], [], [], [], [], [848], [], [], [], [], [], [], [], [1012, 1014, 33]], [[], [], [854], [], [], [], [], [], [], [854], [], [], [], [], [], [], [], [1040, 1041], [], [], [], [], [], [], [], [], [], [851], [], [], [], []], [[], [], [], [], [], [], [], [], [], [], [], [], [855], [], [], [], [], [], [], [], [], [1040, 1041], [], [], [], []]]
noncomputable def pp_134 : List (List Nat) := [[0, 1, 2, 3, 5, 6, 8, 9, 11, 13, 14, 17, 20, 21, 22, 24, 25, 28, 31, 32, 35, 37, 38, 39, 42, 43, 44, 45, 47, 48, 51, 53], [54, 55, 57, 58, 59, 60, 62, 64, 65, 68, 70, 72, 73, 74, 75, 76, 77, 79, 82, 85, 88, 89, 90, 91, 94, 95, 96, 97, 98, 99, 100, 103], [104, 105, 107, 110, 111, 114, 115, 116, 117, 120, 121, 122, 123, 124, 125, 127, 128, 131, 132, 135, 136, 137, 138, 139, 141, 142, 143, 144, 147, 148, 151, 152], [153, 154, 155, 157, 158, 159, 160]]
noncomputable def ph_134 : List (List (List Nat)) := [[[], [], [], [], [], [], [], [], [], [], [848], [], [], [], [], [], [1012, 1014, 33], [], [], [854], [], [], [], [], [], [], [], [], [], [855], [], []], [[], [], [], [], [], [], [], [], [855], [], [], [], [], [], [], [], [], [], [], [1047], [], [], [], [829], [], [], [], [], [], [], [1048, 1050, 41], []], [[], [], [1052], [], [829], [], [], [], [854], [], [], [], [], [], [], [], [1052], [], [829], [], [], [], [], [], [], [], [], [1052], [], [829], [], []], [[], [], [], [], [], [], []]]
noncomputable def pp_135 : List (List Nat) := [[0, 1, 2, 3, 5, 8, 9, 10, 11, 12, 15, 18, 19, 22, 23, 24, 25, 26, 29, 32, 33, 34, 35, 38, 41, 42, 43, 46, 49, 50, 51, 54], [55, 56, 57, 58, 61, 64, 65, 68, 69, 72, 73, 76, 78, 79, 80, 81, 82, 83, 84, 85, 86, 87, 90, 92, 93, 94, 95, 96, 97, 98, 99, 100], [103, 106, 107, 108, 109, 112, 115, 116, 117, 118, 119, 122, 124, 125, 126, 127, 128, 129, 132, 133, 134, 135, 138, 141, 142, 143, 144, 146, 149, 150, 153, 155], [156, 157, 158, 159, 160, 163, 164, 165, 166, 169, 172, 175, 178]]
noncomputable def ph_135 : List (List (List Nat)) := [[[], [], [], [], [], [], [], [], [], [848], [], [], [854], [], [], [], [], [1012, 1014, 33], [], [], [], [], [1016, 1018, 34], [], [], [], [], [], [], [], [1032, 1034, 38], []], [[], [], [], [848], [], [], [], [], [], [], [852], [], [], [], [], [], [], [], [], [], [], [852], [], [], [], [], [], [], [], [], [], [1012, 1014, 33]], [[], [], [], [], [1043, 1045, 40], [], [], [], [], [], [850], [], [], [], [], [], [], [854], [], [], [], [], [], [], [], [], [], [], [], [851], [], []], [[], [], [], [], [855], [], [], [], [], [], [], [], []]]
noncomputable def pp_136 : List (List Nat) := [[0, 1, 2, 5, 8, 9, 13, 14, 15, 16, 17, 20, 23, 24, 27, 28, 29, 30, 33, 36, 37, 40]]
noncomputable def ph_136 : List (List (List Nat)) := [[[], [], [832], [848], [], [849], [], [], [], [], [832], [], [], [847], [], [], [], [], [], [], [1008, 1010, 32], []]]
noncomputable def pp_137 : List (List Nat) := [[0, 1, 2, 3, 5, 7, 8, 11, 14, 15, 16, 19, 21, 22, 23, 25, 26, 27, 28, 29, 32, 35, 36]]
noncomputable def ph_137 : List (List (List Nat)) := [[[], [], [], [], [], [], [848], [], [], [], [852], [], [], [], [], [], [], [], [], [], [], [], []]]
noncomputable def pp_138 : List (List Nat) := [[0, 1, 4, 5, 6, 7, 8, 11, 12, 13, 14, 15, 18, 19, 22, 23, 24, 25, 26, 27, 28, 31, 34, 35, 38, 39, 40, 43, 44, 45, 46, 49], [52, 53, 56]]
noncomputable def ph_138 : List (List (List Nat)) := [[[], [829], [], [], [], [], [829], [], [], [], [], [1004, 1006, 31], [], [829], [], [], [], [], [], [], [], [], [], [853], [], [], [852], [], [], [], [], []], [[], [1004, 1006, 31], []]]
noncomputable def pp_139 : List (List Nat) := [[0, 1, 2, 3, 5, 7, 8, 11, 14, 15, 16, 19, 21, 22, 23, 25, 26, 27, 28, 29, 32, 35, 36]]
noncomputable def ph_139 : List (List (List Nat)) := [[[], [], [], [], [], [], [848], [], [], [], [853], [], [], [], [], [], [], [], [], [], [], [], []]]
noncomputable def pp_140 : List (List Nat) := [[0, 1, 2, 5, 6, 7, 10, 13, 14, 17, 20, 21, 22, 23, 26, 27, 28, 29, 32, 35, 36, 39, 41, 42, 43, 44, 45, 46, 49, 51]]
noncomputable def ph_140 : List (List (List Nat)) := [[[], [], [825], [], [], [973, 975, 29], [], [], [981, 982], [], [], [], [], [1004, 1006, 31], [], [], [], [1012, 1014, 33], [], [], [850], [], [], [], [], [], [], [], [], []]]
noncomputable def pp_141 : List (List Nat) := [[0, 1, 2, 5, 6, 7, 10, 13, 14, 15, 18, 21, 22, 25, 28, 29, 30, 31, 32, 35, 37, 38, 39, 42, 43, 46, 48, 49, 50, 52, 53, 54], [55, 56, 57, 58]]
noncomputable def ph_141 : List (List (List Nat)) := [[[], [], [825], [], [], [973, 975, 29], [], [], [], [973, 975, 29], [], [], [981, 982], [], [], [], [], [], [], [], [], [], [1004, 1006, 31], [], [851], [], [], [], [], [], [], []], [[], [], [], []]]
noncomputable def pp_142 : List (List Nat) := [[0, 1, 2, 3, 4, 5, 6, 9, 12, 13, 14, 17, 19, 20, 21, 22, 23, 24, 25, 26, 29, 32, 33]]
noncomputable def ph_142 : List (List (List Nat)) := [[[], [], [], [], [], [], [848], [], [], [], [850], [], [], [], [], [], [], [], [], [], [], [], []]]
noncomputable def pp_143 : List (List Nat) := [[0, 1, 2, 5, 6, 9, 12, 13, 14, 15, 18, 19, 20, 23]]
noncomputable def ph_143 : List (List (List Nat)) := [[[], [], [825], [], [981, 982], [], [], [], [], [1004, 1006, 31], [], [], [1061, 1063, 42], []]]
noncomputable def pp_144 : List (List Nat) := [[0, 1, 2, 5, 6, 9, 12, 13, 14, 15, 18, 19, 20, 23]]
noncomputable def ph_144 : List (List (List Nat)) := [[[], [], [825], [], [981, 982], [], [], [], [], [1004, 1006, 31], [], [], [1048, 1050, 41], []]]
noncomputable def pp_145 : List (List Nat) := [[0, 1, 2, 5, 6, 7, 10, 13, 14, 17, 20, 23, 24, 25, 28, 31, 32, 35, 37, 38, 39, 40, 41, 42, 43]]
noncomputable def ph_145 : List (List (List Nat)) := [[[], [], [825], [], [], [973, 975, 29], [], [], [981, 982], [], [1073], [], [], [1004, 1006, 31], [1074], [], [852], [], [], [], [], [], [], [], []]]
noncomputable def pp_146 : List (List Nat) := [[0, 1, 2, 5, 6, 9, 12, 15, 16, 17, 20, 23, 24, 27, 28, 29, 32, 35, 36, 37, 40, 41]]
noncomputable def ph_146 : List (List (List Nat)) := [[[], [], [825], [], [981, 982], [], [1073], [], [], [1079, 1081, 43], [1074], [], [], [], [], [1083, 1085, 44], [], [], [], [1087, 1089, 45], [], []]]
noncomputable def pp_147 : List (List Nat) := [[0, 1, 2, 5, 6, 7, 10, 13, 14, 17, 20, 21, 22, 23, 26, 27, 28, 29, 31, 33, 34, 37, 38, 40, 42, 43, 46, 49, 50, 51, 54, 55], [56, 57, 60, 62, 64, 65, 67, 68, 69, 70, 72, 73, 74, 75, 76, 79, 80, 81, 82, 85, 87, 89, 90, 92, 94, 95, 96, 97, 98, 99, 100, 101], [102, 103, 106, 109, 112, 115, 116]]
noncomputable def ph_147 : List (List (List Nat)) := [[[], [], [825], [], [], [973, 975, 29], [], [], [981, 982], [], [], [], [], [1004, 1006, 31], [], [], [], [], [], [], [], [], [], [], [], [848], [], [], [], [829], [], []], [[], [851], [], [], [], [], [], [], [], [], [], [], [], [], [829], [], [], [], [851], [], [], [], [], [], [], [], [], [], [], [], [], []], [[], [], [], [], [], [], []]]
noncomputable def pp_148 : List (List Nat) := [[0, 1, 2, 5, 6, 9, 10, 11, 14, 15, 16, 17, 18, 20, 23, 24, 27, 28, 29, 30, 33, 34, 35, 38, 39, 40, 43, 46, 48]]
noncomputable def ph_148 : List (List (List Nat)) := [[[], [], [825], [], [1004, 1006, 31], [], [], [1061, 1063, 42], [], [], [], [], [], [], [], [], [], [], [], [1061, 1063, 42], [], [], [], [], [], [], [], [], []]]
noncomputable def pp_149 : List (List Nat) := [[0, 1, 2, 5, 6, 9, 11, 12, 14, 15, 16, 19, 20, 21, 24, 25, 26, 29, 30, 33, 34, 35, 38, 41, 42]]
noncomputable def ph_149 : List (List (List Nat)) := [[[], [], [825], [], [1079, 1081, 43], [], [], [], [], [], [], [], [], [1087, 1089, 45], [], [], [1083, 1085, 44], [], [], [], [], [], [], [], []]]
noncomputable def pp_150 : List (List Nat) := [[0, 1, 2, 5, 6, 9, 12, 13, 14, 15, 18, 19, 20, 21, 22, 23, 24, 27, 30, 31, 32, 35, 37, 38, 39, 40, 41, 42, 43, 46, 48, 49], [50, 51, 52, 53, 54, 57, 58, 59, 60, 63, 64, 65, 66, 69, 72, 73]]
noncomputable def ph_150 : List (List (List Nat)) := [[[], [], [825], [], [981, 982], [], [], [], [], [1079, 1081, 43], [], [], [], [], [], [], [832], [], [], [], [852], [], [], [], [], [], [], [], [853], [], [], []], [[], [], [], [], [], [], [], [], [], [], [], [], [], [], [], []]]
noncomputable def pp_151 : List (List Nat) := [[0, 1, 2, 5, 6, 9, 12, 13, 14, 15, 16, 17, 20, 23, 26, 28, 29, 30, 33, 34, 35, 36, 38, 40, 42, 44, 46, 49, 50, 53, 54, 56], [57, 58, 61, 62, 63, 66, 67, 68, 69, 72, 73, 76, 78, 81, 83, 85, 88, 91, 92, 95, 96, 97, 98, 100]]
noncomputable def ph_151 : List (List (List Nat)) := [[[], [], [825], [], [981, 982], [], [], [], [], [], [], [985], [925, 926], [], [], [], [], [829], [], [], [], [], [], [], [], [], [], [], [829], [], [], []], [[], [1004, 1006, 31], [], [], [1061, 1063, 42], [], [], [], [1048, 1050, 41], [], [], [], [], [], [], [], [], [], [829], [], [], [], [], []]]
noncomputable def pp_152 : List (List Nat) := [[0, 1, 4, 6, 7, 8, 9, 10, 11, 14, 16, 17, 18, 20, 21, 22, 25, 26, 29, 31, 32, 33, 34, 35, 36, 38, 41]]
noncomputable def ph_152 : List (List (List Nat)) := [[[], [840], [], [], [], [], [], [], [840], [], [], [], [], [], [], [1004, 1006, 31], [], [840], [], [], [], [], [], [], [], [1087, 1089, 45], []]]
noncomputable def pp_153 : List (List Nat) := [[0, 1, 2, 3, 4, 5, 7, 9, 10, 13, 16, 17, 19, 22, 24, 26, 29, 31, 32, 33, 36, 38, 39, 41, 42, 45, 48, 49]]
noncomputable def ph_153 : List (List (List Nat)) := [[[], [], [], [], [], [], [], [], [832], [], [], [], [1119, 1121, 47], [], [], [], [], [], [], [], [], [], [], [], [], [], [], []]]
noncomputable def pp_154 : List (List Nat) := [[0, 1, 2, 5, 6, 9]]
noncomputable def ph_154 : List (List (List Nat)) := [[[], [], [825], [], [1115, 1117, 46], []]]
noncomputable def pp_155 : List (List Nat) := [[0, 1, 2, 5, 8, 9, 10, 13, 16, 17]]
noncomputable def ph_155 : List (List (List Nat)) := [[[], [], [825], [1074], [], [], [1115, 1117, 46], [1119, 1121, 47], [], []]]
noncomputable def pp_156 : List (List Nat) := [[0, 1, 4, 5, 6, 7, 8, 11, 12, 13, 14, 15, 18, 19, 22, 23, 26, 27, 28, 29, 32, 33, 34, 35, 36]]
noncomputable def ph_156 : List (List (List Nat)) := [[[], [841], [], [], [], [], [841], [], [], [], [], [991, 993, 30], [], [], [], [], [], [], [], [841], [], [], [], [], []]]
noncomputable def pp_157 : List (List Nat) := [[0, 1, 4, 5, 6, 7, 8, 11, 12, 13, 14, 15, 18, 19, 22, 23, 24, 25, 26, 28, 31, 32, 35, 38, 39, 40, 41, 42]]
noncomputable def ph_157 : List (List (List Nat)) := [[[], [841], [], [], [], [], [841], [], [], [], [], [1004, 1006, 31], [], [841], [], [], [], [], [], [1087, 1089, 45], [], [852], [], [], [], [], [], []]]
noncomputable def pp_158 : List (List Nat) := [[0, 1, 2, 5, 7, 8, 9, 10, 11, 13, 15, 16, 19, 22, 23, 25, 28, 31, 32, 35, 36, 38, 41, 43, 44, 46, 49, 52, 53, 55, 58, 60], [61, 62, 65, 67, 68, 70, 71, 74, 77, 78]]
noncomputable def ph_158 : List (List (List Nat)) := [[[], [], [825], [], [], [], [], [], [], [], [], [832], [], [], [], [1131, 1133, 48], [], [], [], [], [], [1135, 1137, 49], [], [], [], [1131, 1133, 48], [], [], [], [], [], []], [[], [], [], [], [], [], [], [], [], []]]
noncomputable def pp_159 : List (List Nat) := [[0, 1, 2, 5, 6, 7, 10, 13, 16, 17, 18, 19, 22, 25, 28, 31, 34, 35, 36, 39, 40]]
noncomputable def ph_159 : List (List (List Nat)) := [[[], [], [825], [], [], [973, 975, 29], [], [1073], [], [], [], [1131, 1133, 48], [], [1143], [], [1074], [], [], [1135, 1137, 49], [], []]]
noncomputable def pp_160 : List (List Nat) := [[0, 1, 2, 5, 6, 10, 11, 12, 13, 14, 17, 20, 21, 22, 23, 24, 25, 26, 29, 30, 33, 34, 37, 38, 39, 40, 41, 44, 45, 46, 49, 52], [55, 56, 59, 60, 62, 65]]
noncomputable def ph_160 : List (List (List Nat)) := [[[], [], [848], [], [849], [], [], [], [], [832], [], [], [], [], [], [], [], [], [], [847], [], [848], [], [], [], [], [848], [], [], [848], [], []], [[], [1008, 1010, 32], [], [], [1087, 1089, 45], []]]
noncomputable def pp_161 : List (List Nat) := [[0, 1, 2, 3, 4, 5, 7, 10, 11, 12, 13, 14, 15, 16, 17, 18, 21, 24, 25]]
noncomputable def ph_161 : List (List (List Nat)) := [[[], [], [], [], [], [], [], [], [], [], [], [], [], [], [], [], [], [], []]]
noncomputable def pp_162 : List (List Nat) := [[0, 1, 2, 5, 6, 7, 8, 11, 12, 13, 14, 15, 16, 17, 18, 21, 22]]
noncomputable def ph_162 : List (List (List Nat)) := [[[], [], [1163, 1165, 53], [], [], [], [832], [], [], [], [], [], [], [], [1163, 1165, 53], [], []]]
noncomputable def pp_163 : List (List Nat) := [[0, 1, 2, 3, 4, 5, 7, 9, 10, 11, 14, 15, 18, 20, 23, 24, 25, 26, 29, 32, 33, 35, 38, 40, 41, 44, 46, 47, 48, 51, 53, 54], [56, 57, 60, 63, 64]]
noncomputable def ph_163 : List (List (List Nat)) := [[[], [], [], [], [], [], [], [], [], [832], [], [], [], [1156, 1157], [], [], [], [832], [], [], [], [1159, 1161, 52], [], [], [], [], [], [], [], [], [], []], [[], [], [], [], []]]
noncomputable def pp_164 : List (List Nat) := [[0, 1, 4, 5, 8, 9, 12, 14, 17, 18, 21, 22]]
noncomputable def ph_164 : List (List (List Nat)) := [[[], [832], [], [], [], [832], [], [], [], [], [], []]]
noncomputable def pp_165 : List (List Nat) := [[0, 1, 2, 5, 6, 9, 12, 14, 17, 18, 21]]
noncomputable def ph_165 : List (List (List Nat)) := [[[], [], [825], [], [1148, 1150, 50], [], [], [], [], [1152, 1154, 51], []]]
noncomputable def pp_166 : List (List Nat) := [[0, 1, 2, 5, 6, 9, 12, 15, 18, 21, 22, 23, 26, 29, 30]]
noncomputable def ph_166 : List (List (List Nat)) := [[[], [], [825], [], [1148, 1150, 50], [], [1143], [], [1074], [], [], [1152, 1154, 51], [1159, 1161, 52], [], []]]
noncomputable def pp_167 : List (List Nat) := [[0, 1, 3, 5, 6, 9, 12, 13, 16, 18, 19, 22, 24, 25, 26, 28, 29, 30, 31, 34, 37, 38, 41, 42, 43, 44, 45, 46, 49, 50, 51, 52], [55]]
noncomputable def ph_167 : List (List (List Nat)) := [[[], [], [], [], [848], [], [], [854], [], [], [850], [], [], [], [], [], [], [], [], [], [], [854], [], [], [], [], [], [1032, 1034, 38], [], [], [], [1043, 1045, 40]], [[]]]
noncomputable def pp_168 : List (List Nat) := [[0, 1, 2, 3, 4, 5, 6, 9, 11, 12, 14, 16, 17, 20, 21, 22, 25, 26, 27, 28, 30, 33, 35, 37, 39, 40, 43, 45, 47, 49, 50, 53], [56, 57]]
noncomputable def ph_168 : List (List (List Nat)) := [[[], [], [], [], [], [], [1179, 1181, 55], [], [], [], [], [], [829], [], [], [], [], [], [], [], [1179, 1181, 55], [], [], [], [], [], [], [], [], [], [], []], [[], []]]
noncomputable def pp_169 : List (List Nat) := [[0, 1, 2, 5, 6, 7, 10, 13, 14, 17, 20, 21, 22, 23, 26, 27, 28, 29, 32, 35, 36, 37, 38, 41, 44, 46]]
noncomputable def ph_169 : List (List (List Nat)) := [[[], [], [825], [], [], [973, 975, 29], [], [], [981, 982], [], [], [], [], [1004, 1006, 31], [], [], [], [1012, 1014, 33], [], [], [], [], [1175, 1177, 54], [], [], []]]
noncomputable def pp_170 : List (List Nat) := [[0, 1, 2, 5, 6, 7, 10, 13, 14, 17, 20, 23, 24, 25, 26, 27, 28, 31, 32, 33, 34, 37, 40, 43, 44, 45, 48, 49, 50, 51, 54, 57], [60, 61, 62, 63, 64, 67, 68, 71, 74]]
noncomputable def ph_170 : List (List (List Nat)) := [[[], [], [825], [], [], [973, 975, 29], [], [], [981, 982], [], [1073], [], [], [], [], [], [829], [], [], [], [925, 926], [], [1187], [], [], [1004, 1006, 31], [], [], [], [1012, 1014, 33], [], [1074]], [[], [], [], [], [1179, 1181, 55], [], [], [1143], []]]
noncomputable def pp_171 : List (List Nat) := [[0, 1, 2, 5, 6, 9, 12, 13, 14, 15, 18, 19, 20, 21, 22, 23, 24, 27, 30, 31, 32, 33, 36, 39, 40, 43, 44, 45, 46, 47, 50, 52], [53, 54, 55, 56, 57, 60, 61, 62, 63, 64, 65, 66, 69, 72, 73, 76, 77, 80, 81, 82, 85, 88, 89, 92, 93, 96, 97]]
noncomputable def ph_171 : List (List (List Nat)) := [[[], [], [825], [], [981, 982], [], [], [], [], [1004, 1006, 31], [], [], [], [], [], [], [832], [], [], [], [], [1012, 1014, 33], [], [], [], [], [], [], [], [850], [], []], [[], [], [], [], [1179, 1181, 55], [], [], [], [], [], [], [1175, 1177, 54], [1179, 1181, 55], [], [], [], [], [], [], [], [], [], [], [], [], [], []]]
noncomputable def pp_172 : List (List Nat) := [[0, 1, 2, 3, 6, 9, 12, 13, 14, 15, 18, 21, 24, 25, 28, 29]]
noncomputable def ph_172 : List (List (List Nat)) := [[[], [], [], [952], [925, 926], [], [], [], [], [1199], [925, 926], [], [], [], [], []]]
noncomputable def pp_173 : List (List Nat) := [[0, 1, 2, 5, 6, 7, 10, 13, 14, 15, 16, 17, 18, 21, 24, 27, 28, 30, 33, 35, 36, 37, 40, 42, 43, 44, 45, 46, 47, 49, 50, 53], [55, 56, 57, 58, 59, 60, 61, 63]]
noncomputable def ph_173 : List (List (List Nat)) := [[[], [], [825], [], [], [1196, 1197], [], [], [], [], [], [], [985], [925, 926], [], [], [], [], [], [], [], [846], [], [], [], [], [], [], [], [], [846], []], [[], [], [], [], [], [], [], []]]
noncomputable def pp_174 : List (List Nat) := [[0, 1, 4, 5, 6, 9, 12, 15, 18, 19, 20, 23, 26, 29, 32, 33, 34, 37, 40, 43, 46, 47, 50, 51]]
noncomputable def ph_174 : List (List (List Nat)) := [[[], [], [], [], [1207], [1208], [925, 926], [], [], [], [1209], [1210], [925, 926], [], [], [], [1211], [1212], [925, 926], [], [], [], [], []]]
noncomputable def pp_175 : List (List Nat) := [[0, 1, 4, 7, 8, 11, 12, 15, 16, 18, 19, 20, 21, 24, 26, 27, 28, 30, 31, 33, 34, 36, 38, 40, 43, 44, 47, 49, 51, 52, 53, 54], [55, 56, 57, 59, 61, 63, 66, 67, 70, 73, 74, 77, 78, 80, 81, 84, 85, 88, 89, 92, 94, 96, 97, 99, 102, 105, 108, 110, 113, 115, 116, 118], [120, 121, 122, 124, 125, 126, 128, 130, 133, 134, 137, 139]]
noncomputable def ph_175 : List (List (List Nat)) := [[[], [], [], [], [], [], [], [], [], [], [], [], [], [], [], [], [], [], [], [], [], [], [], [], [], [846], [], [], [], [], [], []], [[], [], [], [], [], [], [], [], [], [], [], [], [], [], [], [], [], [], [], [], [], [], [], [], [], [], [], [], [], [], [], []], [[], [], [], [], [], [], [], [], [], [], [], []]]
noncomputable def pp_176 : List (List Nat) := [[0, 1, 2, 5, 6, 7, 10, 13, 14, 15, 16, 19, 22, 24, 27, 28, 29, 30, 31, 34]]
noncomputable def ph_176 : List (List (List Nat)) := [[[], [], [825], [], [], [1196, 1197], [], [], [], [], [1204, 1205], [], [], [], [], [], [], [], [1213, 1215, 56], []]]
noncomputable def pp_177 : List (List Nat) := [[0, 1, 2, 3, 5, 7, 9, 12, 13, 16, 18, 19, 20, 22, 23, 24, 26, 27, 28, 29, 31, 34, 36, 37, 39, 41, 44, 46, 48, 51, 53, 55], [58, 59, 62, 63, 64, 65, 68, 71, 72]]
noncomputable def ph_177 : List (List (List Nat)) := [[[], [], [], [], [], [], [], [], [846], [], [], [], [], [], [], [], [], [], [], [], [1213, 1215, 56], [], [], [], [], [], [], [], [], [], [], []], [[], [], [], [], [], [], [], [], []]]
noncomputable def pp_178 : List (List Nat) := [[0, 1, 2, 5, 6, 7, 8, 11, 14, 17, 18, 19, 20, 23, 26, 28, 31, 32, 33, 34, 37]]
noncomputable def ph_178 : List (List (List Nat)) := [[[], [], [825], [], [], [], [952], [925, 926], [], [], [], [], [1204, 1205], [], [], [], [], [], [], [1221, 1223, 57], []]]
noncomputable def pp_179 : List (List Nat) := [[0, 1, 2, 5, 6, 7, 8, 11, 14, 17, 18, 19, 20, 21, 23, 24, 25, 28, 31, 32, 35, 38, 39, 40, 41, 44, 45, 46, 47, 50, 53, 54], [57, 58, 59, 62, 65, 66]]
noncomputable def ph_179 : List (List (List Nat)) := [[[], [], [825], [], [], [], [952], [925, 926], [], [], [], [], [], [], [], [], [], [], [], [1204, 1205], [], [], [], [], [1221, 1223, 57], [], [], [], [1221, 1223, 57], [], [], []], [[], [], [], [], [], []]]
noncomputable def pp_180 : List (List Nat) := [[0, 1, 2, 5, 6, 7, 8, 11, 14, 17, 18, 19, 20, 21, 22, 25, 28, 31, 33, 34, 35, 36, 37, 39, 41, 44, 47, 48, 50, 53, 56, 57], [59, 60, 63, 64, 67, 68, 71, 72, 73, 74, 77, 80, 81]]
noncomputable def ph_180 : List (List (List Nat)) := [[[], [], [825], [], [], [], [952], [925, 926], [], [], [], [], [], [], [924], [925, 926], [], [], [], [], [], [], [], [], [], [], [], [], [1204, 1205], [], [], []], [[], [1221, 1223, 57], [], [], [], [], [], [], [], [], [], [], []]]
noncomputable def pp_181 : List (List Nat) := [[0, 1, 2, 5, 6, 9, 10, 11, 12, 13, 14, 16, 19, 20, 21, 22, 24, 27, 28, 29, 32, 35, 36, 37, 38, 41, 44, 45, 48, 49, 51, 52], [55, 57, 58, 59, 60, 61, 63, 66, 67, 70, 72, 73, 74, 75, 76, 77, 80, 82, 83, 84, 86, 89, 90, 93, 94, 95, 96, 99, 102, 105, 108, 109]]
noncomputable def ph_181 : List (List (List Nat)) := [[[], [], [825], [], [1004, 1006, 31], [], [], [], [], [], [], [], [], [], [], [], [], [], [], [832], [], [], [], [], [1012, 1014, 33], [], [], [], [], [], [], [846]], [[], [], [], [], [], [], [], [], [850], [], [], [], [], [], [], [], [], [], [], [], [], [], [], [], [], [], [], [], [], [], [], []]]
noncomputable def pp_182 : List (List Nat) := [[0, 1, 2, 3, 4, 5, 8, 11, 12, 13, 16, 17, 18, 20, 23, 24, 27, 28, 29, 30, 33, 36, 37]]
noncomputable def ph_182 : List (List (List Nat)) := [[[], [], [], [], [], [], [], [], [], [840], [], [], [], [], [], [], [], [], [], [], [], [], []]]
noncomputable def pp_183 : List (List Nat) := [[0, 1, 2, 5, 6, 7, 8, 9, 12, 15, 16, 17, 18, 21, 22, 24, 25, 26, 27, 30, 33, 34, 37, 40, 41, 42, 43, 44, 45, 48, 49, 50], [51, 54, 57, 58, 59, 60, 62, 65, 66, 69, 71, 72, 73, 74, 75, 76, 79, 80, 81, 82, 85, 88, 89, 90, 91, 93, 96, 97, 100, 102, 103, 104], [105, 106, 107, 110, 111, 112, 113, 116, 119, 120, 123]]
noncomputable def ph_183 : List (List (List Nat)) := [[[], [], [825], [], [], [], [], [925, 926], [], [], [], [], [845], [], [], [], [], [], [], [], [], [842], [], [], [], [], [], [], [840], [], [], []], [[], [], [], [], [], [], [], [], [843], [], [], [], [], [], [], [841], [], [], [], [], [], [], [], [], [], [], [], [844], [], [], [], []], [[], [], [846], [], [], [], [], [], [], [1241, 1243, 58], []]]
noncomputable def pp_184 : List (List Nat) := [[0, 1, 2, 5, 6, 7, 8, 9, 12, 15, 16, 17, 18, 21, 22, 23, 26, 28, 29, 30, 31, 32, 35, 38, 39, 42, 43, 44, 47, 50, 51, 52], [53, 54, 55, 56, 59, 62, 63, 64, 65, 67, 70, 71, 74, 75, 76, 79, 81, 82, 83, 84, 85, 86, 87, 90, 93, 94, 95, 96, 98, 101, 102, 105], [106, 107, 110, 112, 113, 114, 115, 116, 117, 118, 121, 124, 125, 128]]
noncomputable def ph_184 : List (List (List Nat)) := [[[], [], [825], [], [], [], [], [925, 926], [], [], [], [], [845], [], [], [], [], [], [], [], [], [], [], [], [840], [], [], [842], [], [], [], []], [[], [], [], [], [], [], [], [], [], [], [], [841], [], [], [843], [], [], [], [], [], [], [], [], [], [], [], [], [], [], [], [846], []], [[], [844], [], [], [], [], [], [], [], [], [], [], [1241, 1243, 58], []]]
noncomputable def pp_185 : List (List Nat) := [[0, 1, 2, 5, 6, 7, 8, 9, 10, 11, 14, 17, 18, 19, 22, 23, 24, 26, 29, 30, 33, 34, 35, 36, 39, 42, 43, 44, 45, 47, 49, 51], [54, 55, 56, 59, 61, 62, 64, 67, 68, 71, 72, 73, 74, 77, 80, 81, 116, 117, 120, 121, 122, 125, 126, 127, 128, 129, 130, 131, 134, 135, 137]]
noncomputable def ph_185 : List (List (List Nat)) := [[[], [], [825], [], [], [], [], [], [], [832], [], [], [], [841], [], [], [], [], [], [], [], [], [], [], [], [], [], [], [], [], [], []], [[], [], [846], [], [], [], [], [], [], [], [], [], [], [], [], [], [], [832], [], [], [1241, 1243, 58], [], [], [], [], [], [], [827], [], [], []]]
noncomputable def pp_186 : List (List Nat) := [[0, 1, 2, 3, 6]]
noncomputable def ph_186 : List (List (List Nat)) := [[[], [], [], [346, 347, 348], []]]
noncomputable def pp_187 : List (List Nat) := [[0, 1, 4, 7, 8, 11, 12, 13, 14, 17, 20, 23, 24, 27, 28, 29, 30, 33, 36]]
noncomputable def ph_187 : List (List (List Nat)) := [[[], [350, 351, 352], [], [], [1255], [], [], [], [356, 357, 358], [364, 365], [], [], [1255], [], [], [], [356, 357, 358], [], []]]
noncomputable def pp_188 : List (List Nat) := [[0, 3, 6, 7, 10, 13, 14, 17, 18]]
noncomputable def ph_188 : List (List (List Nat)) := [[[354], [], [], [1254], [], [], [], [], []]]
noncomputable def pp_189 : List (List Nat) := [[0, 1, 4, 5, 6, 9, 10]]
noncomputable def ph_189 : List (List (List Nat)) := [[[], [1255], [], [], [360, 361, 362], [], []]]
noncomputable def pp_190 : List (List Nat) := [[0, 3, 6, 7, 10, 13, 14]]
noncomputable def ph_190 : List (List (List Nat)) := [[[354], [], [], [1254], [], [], []]]
noncomputable def pp_191 : List (List Nat) := [[0, 1, 4, 5, 8, 11, 12, 15, 16]]
noncomputable def ph_191 : List (List (List Nat)) := [[[], [], [], [], [], [], [], [], []]]
noncomputable def pp_192 : List (List Nat) := [[0, 1, 4, 7, 8, 9, 10, 11, 14, 15, 16, 17, 18, 21, 22, 23, 24, 27, 28, 29, 30, 31, 32, 33, 36]]
noncomputable def ph_192 : List (List (List Nat)) := [[[], [367, 368], [], [], [], [], [], [370, 371, 72, 372], [], [], [], [], [373, 374, 72, 375], [], [], [], [], [], [], [], [], [], [], [376, 377], []]]
noncomputable def pp_193 : List (List Nat) := [[0, 1, 2, 4, 5, 7, 9, 10, 13, 14, 16, 17, 19, 22, 24, 25, 28, 31, 32]]
noncomputable def ph_193 : List (List (List Nat)) := [[[], [], [], [], [], [], [], [], [], [], [], [], [], [], [], [], [], [], []]]
noncomputable def pp_194 : List (List Nat) := [[0, 1, 2, 3, 4, 7, 8, 9, 10, 11, 14, 15, 16, 17, 18, 21, 22, 23, 24, 25, 26, 27, 28, 29, 32, 33, 34, 35, 36, 38, 39, 40], [41, 42, 43, 45, 46, 47, 48, 49, 51, 52]]
noncomputable def ph_194 : List (List (List Nat)) := [[[], [], [], [], [678], [], [], [], [], [679], [], [], [], [], [679], [], [], [], [], [], [], [], [], [680], [], [], [], [], [], [], [], []], [[], [], [], [], [], [], [], [], [], []]]
noncomputable def pp_195 : List (List Nat) := [[0, 1, 2, 3, 4, 5, 6, 7, 10, 11, 12, 13, 14, 17, 20]]
noncomputable def ph_195 : List (List (List Nat)) := [[[], [], [], [], [], [], [], [], [], [], [], [], [], [], []]]
noncomputable def pp_196 : List (List Nat) := [[0, 3, 4, 7, 8, 11, 12, 15, 16, 17, 18, 19, 20, 21, 22, 23, 26, 27, 28, 29, 31, 32, 204, 205, 206, 207, 208, 209, 210, 211, 212, 213], [214, 215, 216, 218, 219, 220, 221, 222, 223, 224, 225, 228, 229, 230, 233, 234, 235, 236, 237, 238, 239, 240, 241, 242, 243, 244, 245, 247, 248, 249, 250, 251], [252, 253, 254, 257, 258, 259, 262, 265, 266, 267, 268, 271, 272, 275, 278, 279, 280, 281, 282, 283, 284, 285, 286, 289, 290, 293, 294, 297, 298, 299, 300, 301], [302, 303, 306, 307, 310, 311, 314, 317, 318, 319, 320, 323, 324, 327, 330, 331, 332, 333, 336, 337, 340, 343, 344, 345, 346, 347, 348, 349, 350, 351, 354, 355], [356, 357, 358, 359, 360, 363, 366, 367, 368, 369, 370, 371, 372, 373, 374, 375, 376, 377, 378, 379, 382, 383, 384, 385, 386, 387, 388, 389, 390, 391, 392, 393], [396, 399, 400, 401, 402, 403, 404, 405, 406, 407, 408, 409, 410, 411, 412, 413, 414, 415, 416, 417, 420, 421, 422, 423, 424, 425, 426, 427, 428, 429, 430, 431], [432, 433, 434, 435, 436, 439, 442, 443, 444, 445, 446, 447, 448, 449, 450, 451, 452, 453, 454, 455, 458, 459, 460, 461, 462, 463, 464, 465, 466, 467, 468, 469], [472, 475, 476, 477, 478, 479, 480, 481, 482, 483, 486, 487, 488, 489, 490, 491, 492, 495, 498, 499, 500, 501, 502, 503, 504, 505, 506, 507, 508, 509, 510, 511], [514, 515, 516, 517, 518, 519, 520, 521, 522, 523, 524, 525, 528, 531, 532, 533, 534, 535, 536, 537, 538, 539, 540, 541, 542, 543, 544, 545, 546, 547, 548, 549], [552, 553, 554, 555, 556, 557, 558, 559, 560, 561, 562, 563, 564, 565, 566, 567, 568, 571, 574, 575, 576, 577, 578, 579, 580, 581, 582, 585, 586, 587, 588, 589], [590, 591, 594, 597, 598, 599, 600, 601, 602, 603, 604, 605, 608, 609, 610, 611, 612, 613, 614, 617, 620, 621, 622, 623, 624, 625, 626, 627, 628, 629, 630, 631], [632, 633, 636, 637, 638, 639, 640, 641, 642, 643, 644, 645, 646, 647, 650, 651, 654, 655, 656, 657, 658, 659, 660, 661, 662, 663, 664, 665, 666, 667, 670, 671], [674, 675, 678, 679, 680, 681, 682, 683, 684, 685, 686, 687, 688, 689, 692, 693, 696, 697, 700, 701, 704, 705, 706, 707, 708, 709, 710, 711, 712, 713, 714, 715], [716, 717, 720, 721, 722, 723, 724, 725, 726, 727, 728, 729, 730, 731, 734, 737, 738, 739, 740, 743, 744, 747, 750, 751, 752, 753, 756, 757, 760, 763, 764, 765], [766, 767, 768, 769, 770, 771, 774, 775, 776, 777, 778, 779, 780, 783, 786, 787, 788, 789, 790, 791, 792, 793, 794, 795, 796, 797, 798, 799, 802, 803, 804, 805], [806, 807, 808, 809, 810, 811, 812, 813, 816, 819, 820, 821, 822, 825, 826, 829, 832, 833, 834, 835, 838, 839, 842, 843, 846, 847, 848, 849, 852, 853, 856, 859], [860, 861, 862, 863, 864, 865, 866, 867, 870, 871, 872, 873, 874, 875, 876, 879, 880, 883, 884, 885, 886, 889, 890, 893, 896, 897, 898, 899, 902, 903, 906, 907], [910, 911, 912, 913, 914, 915, 916, 917, 918, 919, 920, 921, 922, 923, 926, 927, 928, 929, 930, 931, 932, 933, 934, 935, 936, 937, 940, 943, 944, 945, 946, 947], [948, 949, 950, 951, 952, 953, 954, 955, 956, 957, 958, 959, 960, 961, 964, 965, 966, 967, 968, 969, 970, 971, 972, 973, 974, 975, 976, 977, 978, 979, 980, 983], [984, 987, 988, 989, 990, 991, 992, 993, 994, 995, 998, 999, 1000, 1001, 1002, 1003, 1004, 1007, 1010, 1011, 1012, 1013, 1014, 1015, 1016, 1017, 1018, 1019, 1020, 1021, 1022, 1023], [1024, 1025, 1026, 1027, 1028, 1031, 1032, 1033, 1034, 1035, 1036, 1037, 1038, 1039, 1040, 1041, 1042, 1043, 1044, 1045, 1046, 1047, 1050, 1053, 1054, 1055, 1056, 1057, 1058, 1059, 1060, 1061], [1062, 1063, 1064, 1065, 1066, 1067, 1068, 1069, 1070, 1071, 1074, 1075, 1076, 1077, 1078, 1079, 1080, 1081, 1082, 1083, 1084, 1085, 1086, 1087, 1088, 1089, 1090, 1093, 1096, 1097, 1098, 1099], [1100, 1101, 1102, 1103, 1104, 1105, 1106, 1107, 1108, 1109, 1112, 1113, 1114, 1115, 1116, 1117, 1118, 1119, 1120, 1121, 1122, 1123, 1126, 1129, 1130, 1131, 1132, 1133, 1134, 1135, 1136, 1137], [1140, 1141, 1142, 1143, 1144, 1145, 1146, 1149, 1152, 1153, 1154, 1155, 1156, 1157, 1158, 1159, 1160, 1161, 1162, 1163, 1164, 1165, 1168, 1169, 1170, 1171, 1172, 1173, 1174, 1175, 1176, 1177], [1178, 1179, 1182, 1185, 1186, 1187, 1188, 1191, 1192, 1195, 1198, 1199, 1200, 1201, 1202, 1203, 1204, 1205, 1206, 1209, 1210, 1211, 1212, 1213, 1214, 1215, 1218, 1221, 1222, 1223, 1224, 1225], [1226, 1227, 1228, 1229, 1232, 1233, 1234, 1235, 1236, 1237, 1238, 1241, 1244, 1245, 1246, 1247, 1248, 1249, 1250, 1251, 1252, 1255, 1256, 1257, 1258, 1259, 1260, 1261, 1264, 1267, 1268, 1269], [1272, 1275, 1276]]
noncomputable def ph_196 : List (List (List Nat)) := [[[77, 78, 60], [], [79, 80], [], [815, 816, 69], [], [817, 818], [], [], [], [], [], [], [], [], [], [], [], [], [], [], [], [], [], [], [], [], [], [], [], [], []], [[], [], [], [], [], [], [], [], [], [], [1253], [], [], [322, 323, 324], [], [], [], [], [], [], [], [], [], [], [], [], [], [], [], [], [], []], [[], [], [1253], [], [], [920, 921, 922], [], [], [], [], [330, 331, 332], [], [928, 929, 930], [], [], [], [], [], [], [], [], [], [], [], [], [], [334, 335, 336], [], [], [], [], []], [[], [], [], [], [], [932, 933, 934], [], [], [], [], [436, 437, 438], [], [957, 958, 959], [], [], [], [], [444, 445, 446], [], [961, 962, 963], [], [], [], [], [], [], [], [], [], [459, 460, 461], [], []], [[], [], [], [], [965, 966, 967], [], [], [], [], [], [], [], [], [], [], [], [], [], [], [463, 464, 465], [], [], [], [], [], [], [], [], [], [], [], [969, 970, 971]], [[], [], [], [], [], [], [], [], [], [], [], [], [], [], [], [], [], [], [], [471, 472, 473], [], [], [], [], [], [], [], [], [], [], [], []], [[], [], [], [], [977, 978, 979], [], [], [], [], [], [], [], [], [], [], [], [], [], [], [484, 485, 486], [], [], [], [], [], [], [], [], [], [], [], [986, 987, 988]], [[], [], [], [], [], [], [], [], [], [500, 501, 502], [], [], [], [], [], [], [995, 996, 997], [], [], [], [], [], [], [], [], [], [], [], [], [], [], [504, 505, 506]], [[], [], [], [], [], [], [], [], [], [], [], [1000, 1001, 1002], [], [], [], [], [], [], [], [], [], [], [], [], [], [], [], [], [], [], [], [579, 580, 581]], [[], [], [], [], [], [], [], [], [], [], [], [], [], [], [], [], [1053, 1054, 1055], [], [], [], [], [], [], [], [], [], [584, 585, 586], [], [], [], [], []], [[], [1057, 1058, 1059], [], [], [], [], [], [], [], [], [], [588, 589, 590], [], [], [], [], [], [], [1065, 1066, 1067], [], [], [], [], [], [], [], [], [], [], [], [], []], [[], [593, 594, 595], [], [], [], [], [], [], [], [], [], [], [], [1069, 1070, 1071], [], [], [], [], [], [], [], [], [], [], [], [], [], [], [], [], [], []], [[], [599, 600, 601], [], [], [], [], [], [], [], [], [], [], [], [], [], [], [], [1075, 1076, 1077], [], [], [], [], [], [], [], [], [], [], [], [], [], []], [[], [615, 616, 617], [], [], [], [], [], [], [], [], [], [], [], [1091, 1092, 1093], [], [], [], [], [619, 620, 621], [], [1095, 1096, 1097], [], [], [], [], [623, 624, 625], [], [1099, 1100, 1101], [], [], [], []], [[], [], [], [], [], [627, 628, 629], [], [], [], [], [], [], [1103, 1104, 1105], [], [], [], [], [], [], [], [], [], [], [], [], [], [], [631, 632, 633], [], [], [], []], [[], [], [], [], [], [], [], [1107, 1108, 1109], [], [], [], [], [635, 636, 637], [], [1111, 1112, 1113], [], [], [], [], [643, 644, 645], [], [1123, 1124, 1125], [], [], [], [], [], [650, 651, 652], [], [1127, 1128, 1129], [], []], [[], [], [], [], [], [], [], [658, 659, 660], [], [], [], [], [], [], [1139, 1140, 1141], [], [], [], [], [], [663, 664, 665], [], [1144, 1145, 1146], [], [], [], [], [690, 691, 692], [], [1167, 1168, 1169], [], []], [[], [], [], [], [], [], [], [], [], [], [], [], [], [695, 696, 697], [], [], [], [], [], [], [], [], [], [], [], [1171, 1172, 1173], [], [], [], [], [], []], [[], [], [], [], [], [], [], [], [], [], [], [], [], [708, 709, 710], [], [], [], [], [], [], [], [], [], [], [], [], [], [], [], [], [1183, 1184, 1185], []], [[], [], [], [], [], [], [], [], [], [714, 715, 716], [], [], [], [], [], [], [1188, 1189, 1190], [], [], [], [], [], [], [], [], [], [], [], [], [], [], []], [[], [], [], [], [723, 724, 725], [], [], [], [], [], [], [], [], [], [], [], [], [], [], [], [], [1192, 1193, 1194], [], [], [], [], [], [], [], [], [], []], [[], [], [], [], [], [], [], [], [], [736, 737, 738], [], [], [], [], [], [], [], [], [], [], [], [], [], [], [], [], [1200, 1201, 1202], [], [], [], [], []], [[], [], [], [], [], [], [], [], [], [754, 755, 756], [], [], [], [], [], [], [], [], [], [], [], [1217, 1218, 1219], [], [], [], [], [], [], [], [], [], [763, 764, 765]], [[], [], [], [], [], [], [1225, 1226, 1227], [], [], [], [], [], [], [], [], [], [], [], [], [], [], [775, 776, 777], [], [], [], [], [], [], [], [], [], []], [[], [1229, 1230, 1231], [], [], [], [], [783, 784, 785], [], [1233, 1234, 1235], [], [], [], [], [], [], [], [], [], [791, 792, 793], [], [], [], [], [], [], [1237, 1238, 1239], [], [], [], [], [], []], [[], [], [], [803, 804, 805], [], [], [], [], [], [], [1245, 1246, 1247], [], [], [], [], [], [], [], [], [], [811, 812, 813], [], [], [], [], [], [], [1249, 1250, 1251], [], [], [], []], [[], [], []]]
noncomputable def pps : List (List (List (List Nat))) := [[pp_0, pp_1, pp_2, pp_3, pp_4, pp_5, pp_6, pp_7, pp_8, pp_9, pp_10, pp_11, pp_12, pp_13, pp_14, pp_15],
  [pp_16, pp_17, pp_18, pp_19, pp_20, pp_21, pp_22, pp_23, pp_24, pp_25, pp_26, pp_27, pp_28, pp_29, pp_30, pp_31],
  [pp_32, pp_33, pp_34, pp_35, pp_36, pp_37, pp_38, pp_39, pp_40, pp_41, pp_42, pp_43, pp_44, pp_45, pp_46, pp_47],
  [pp_48, pp_49, pp_50, pp_51, pp_52, pp_53, pp_54, pp_55, pp_56, pp_57, pp_58, pp_59, pp_60, pp_61, pp_62, pp_63],
  [pp_64, pp_65, pp_66, pp_67, pp_68, pp_69, pp_70, pp_71, pp_72, pp_73, pp_74, pp_75, pp_76, pp_77, pp_78, pp_79],
  [pp_80, pp_81, pp_82, pp_83, pp_84, pp_85, pp_86, pp_87, pp_88, pp_89, pp_90, pp_91, pp_92, pp_93, pp_94, pp_95],
  [pp_96, pp_97, pp_98, pp_99, pp_100, pp_101, pp_102, pp_103, pp_104, pp_105, pp_106, pp_107, pp_108, pp_109, pp_110, pp_111],
  [pp_112, pp_113, pp_114, pp_115, pp_116, pp_117, pp_118, pp_119, pp_120, pp_121, pp_122, pp_123, pp_124, pp_125, pp_126, pp_127],
  [pp_128, pp_129, pp_130, pp_131, pp_132, pp_133, pp_134, pp_135, pp_136, pp_137, pp_138, pp_139, pp_140, pp_141, pp_142, pp_143],
  [pp_144, pp_145, pp_146, pp_147, pp_148, pp_149, pp_150, pp_151, pp_152, pp_153, pp_154, pp_155, pp_156, pp_157, pp_158, pp_159],
  [pp_160, pp_161, pp_162, pp_163, pp_164, pp_165, pp_166, pp_167, pp_168, pp_169, pp_170, pp_171, pp_172, pp_173, pp_174, pp_175],
  [pp_176, pp_177, pp_178, pp_179, pp_180, pp_181, pp_182, pp_183, pp_184, pp_185, pp_186, pp_187, pp_188, pp_189, pp_190, pp_191],
  [pp_192, pp_193, pp_194, pp_195, pp_196]]
noncomputable def phs : List (List (List (List (List Nat)))) := [[ph_0, ph_1, ph_2, ph_3, ph_4, ph_5, ph_6, ph_7, ph_8, ph_9, ph_10, ph_11, ph_12, ph_13, ph_14, ph_15],
  [ph_16, ph_17, ph_18, ph_19, ph_20, ph_21, ph_22, ph_23, ph_24, ph_25, ph_26, ph_27, ph_28, ph_29, ph_30, ph_31],
  [ph_32, ph_33, ph_34, ph_35, ph_36, ph_37, ph_38, ph_39, ph_40, ph_41, ph_42, ph_43, ph_44, ph_45, ph_46, ph_47],
  [ph_48, ph_49, ph_50, ph_51, ph_52, ph_53, ph_54, ph_55, ph_56, ph_57, ph_58, ph_59, ph_60, ph_61, ph_62, ph_63],
  [ph_64, ph_65, ph_66, ph_67, ph_68, ph_69, ph_70, ph_71, ph_72, ph_73, ph_74, ph_75, ph_76, ph_77, ph_78, ph_79],
  [ph_80, ph_81, ph_82, ph_83, ph_84, ph_85, ph_86, ph_87, ph_88, ph_89, ph_90, ph_91, ph_92, ph_93, ph_94, ph_95],
  [ph_96, ph_97, ph_98, ph_99, ph_100, ph_101, ph_102, ph_103, ph_104, ph_105, ph_106, ph_107, ph_108, ph_109, ph_110, ph_111],
  [ph_112, ph_113, ph_114, ph_115, ph_116, ph_117, ph_118, ph_119, ph_120, ph_121, ph_122, ph_123, ph_124, ph_125, ph_126, ph_127],
  [ph_128, ph_129, ph_130, ph_131, ph_132, ph_133, ph_134, ph_135, ph_136, ph_137, ph_138, ph_139, ph_140, ph_141, ph_142, ph_143],
  [ph_144, ph_145, ph_146, ph_147, ph_148, ph_149, ph_150, ph_151, ph_152, ph_153, ph_154, ph_155, ph_156, ph_157, ph_158, ph_159],
  [ph_160, ph_161, ph_162, ph_163, ph_164, ph_165, ph_166, ph_167, ph_168, ph_169, ph_170, ph_171, ph_172, ph_173, ph_174, ph_175],
  [ph_176, ph_177, ph_178, ph_179, ph_180, ph_181, ph_182, ph_183, ph_184, ph_185, ph_186, ph_187, ph_188, ph_189, ph_190, ph_191],
  [ph_192, ph_193, ph_194, ph_195, ph_196]]
noncomputable def pms : List (List (Nat × Nat)) := [[(261, 67), (746, 67), (761, 67), (770, 67), (782, 67), (774, 67), (750, 67), (218, 66), (515, 66), (614, 66), (707, 66), (703, 66), (721, 66), (519, 66), (525, 66), (529, 66)],
  [(536, 66), (569, 66), (545, 66), (549, 66), (565, 66), (573, 66), (577, 66), (553, 66), (557, 66), (561, 66), (124, 62), (275, 68), (801, 68), (810, 68), (167, 63), (443, 63)],
  [(451, 63), (454, 63), (458, 63), (610, 63), (688, 63), (499, 63), (495, 63), (491, 63), (89, 61), (329, 61), (341, 61), (431, 61), (435, 61), (81, 60), (325, 60), (333, 60)],
  [(337, 60), (439, 60), (447, 60), (462, 60), (466, 60), (474, 60), (487, 60), (503, 60), (507, 60), (582, 60), (587, 60), (591, 60), (596, 60), (602, 60), (618, 60), (622, 60)],
  [(626, 60), (630, 60), (634, 60), (638, 60), (646, 60), (653, 60), (661, 60), (666, 60), (693, 60), (698, 60), (711, 60), (717, 60), (726, 60), (739, 60), (757, 60), (766, 60)],
  [(778, 60), (786, 60), (794, 60), (806, 60), (814, 60), (470, 60), (477, 60), (797, 60), (480, 60), (729, 60), (732, 60), (742, 60), (483, 60), (539, 60), (735, 60), (790, 60)],
  [(532, 60), (511, 60), (606, 60), (642, 60), (657, 60), (670, 60), (674, 60), (684, 60), (819, 69), (927, 69), (824, 69), (976, 69), (983, 69), (923, 69), (931, 69), (950, 69)],
  [(946, 69), (956, 69), (942, 69), (939, 69), (935, 69), (960, 69), (964, 69), (968, 69), (972, 69), (980, 69), (994, 69), (989, 69), (998, 69), (1015, 69), (1051, 69), (1023, 69)],
  [(1027, 69), (1031, 69), (1019, 69), (1035, 69), (1042, 69), (1039, 69), (1046, 69), (1011, 69), (1007, 69), (1090, 69), (1082, 69), (1086, 69), (1003, 69), (1056, 69), (1064, 69), (1060, 69)],
  [(1068, 69), (1072, 69), (1078, 69), (1094, 69), (1098, 69), (1102, 69), (1106, 69), (1110, 69), (1122, 69), (1118, 69), (1114, 69), (1126, 69), (1134, 69), (1138, 69), (1130, 69), (1142, 69)],
  [(1166, 69), (1158, 69), (1162, 69), (1155, 69), (1151, 69), (1147, 69), (1170, 69), (1182, 69), (1178, 69), (1174, 69), (1186, 69), (1191, 69), (1198, 69), (1195, 69), (1206, 69), (1216, 69)],
  [(1203, 69), (1224, 69), (1220, 69), (1228, 69), (1232, 69), (1236, 69), (1244, 69), (1240, 69), (1248, 69), (1252, 69), (345, 70), (349, 70), (353, 70), (359, 70), (363, 70), (369, 71)],
  [(366, 71), (378, 71), (677, 76), (176, 65), (0, 0)]]
/-- a place of the micro-code as a place of the bytes -/
noncomputable def pPc (y i : Nat) : Nat := mNth 0 (mNth [] (mNth [] (mNth [] pps (y / 16)) (y % 16)) (i / 32)) (i % 32)
noncomputable def pHi (y i : Nat) : List Nat := mNth [] (mNth [] (mNth [] (mNth [] phs (y / 16)) (y % 16)) (i / 32)) (i % 32)
noncomputable def pHm (y : Nat) : Nat × Nat := mNth (0, 0) (mNth [] pms (y / 16)) (y % 16)
/-- which fields of a class are references -/
noncomputable def pkin : List (List Nat) := [[1], [1, 1, 1, 1, 1, 1, 1, 0, 0, 0], [1, 1, 1, 1, 0, 0, 0], [0, 1, 1, 1], [1, 0, 1, 1, 1, 1, 1], [1, 0, 1, 1, 0], [1, 1, 1, 1, 1, 1, 1, 1, 1, 0], [0, 1, 0, 0, 1, 1, 0, 0, 1, 1, 1, 0, 1, 1, 1, 1, 1, 1, 1, 1, 1, 1, 1, 0, 0, 1, 1, 1, 1, 1, 1]]
/-- links to private members of a nest mate -/
noncomputable def pNW : List Cond := [(Jvm.Cond.methodLinkNest "PotAndFine" (9 : Nat) ({ cls := "PotAndFine$Text", name := "<init>", desc := "()V" } : Jvm.MethodName) "PotAndFine"), (Jvm.Cond.fieldLinkNest "PotAndFine$Setup" (34 : Nat) "PotAndFine" "RULE_ELSE" "[I" "PotAndFine"), (Jvm.Cond.methodLinkNest "PotAndFine" (90 : Nat) ({ cls := "PotAndFine$Kept", name := "<init>", desc := "()V" } : Jvm.MethodName) "PotAndFine"), (Jvm.Cond.methodLinkNest "PotAndFine$Course" (64 : Nat) ({ cls := "PotAndFine", name := "placeOf", desc := "(II)I" } : Jvm.MethodName) "PotAndFine"), (Jvm.Cond.methodLinkNest "PotAndFine$Course" (121 : Nat) ({ cls := "PotAndFine", name := "meanOf", desc := "(II)I" } : Jvm.MethodName) "PotAndFine"), (Jvm.Cond.methodLinkNest "PotAndFine$Course" (124 : Nat) ({ cls := "PotAndFine", name := "paymentOf", desc := "(III)I" } : Jvm.MethodName) "PotAndFine"), (Jvm.Cond.methodLinkNest "PotAndFine$Book" (25 : Nat) ({ cls := "PotAndFine", name := "bookPlaceOf", desc := "(II)I" } : Jvm.MethodName) "PotAndFine"), (Jvm.Cond.methodLinkNest "PotAndFine$Book" (44 : Nat) ({ cls := "PotAndFine", name := "meanOf", desc := "(II)I" } : Jvm.MethodName) "PotAndFine")]
/-- static rows by their places -/
noncomputable def pSt : List (Nat × String) := [(1004, "RULE_ELSE"), (1052, "RULE_DIGITS"), (1053, "RULE_LEAST"), (1054, "RULE_MOST"), (1062, "PEOPLE_DIGITS"), (1063, "PEOPLE_LEAST"), (1064, "PEOPLE_MOST")]
/-- texts: index in the pool, text, place -/
noncomputable def pTx : List (Nat × String × Nat) := [(18, "EMFC", 1050), (37, "PZMGSVL", 1060)]
end
section
/-! THE TABLES AGREE WITH THE BYTES: one check for each micro-operation, run by the kernel -/
noncomputable def oW (w : Cond) (h : Nat) : Bool := match lw_tbl[h]? with
  | some v => decide (v = w) && goodWord w
  | none => false
noncomputable def TB : List Cond := lw_tbl.filter goodWord
theorem oW_in {w : Cond} {h : Nat} (q : oW w h = true) : w ∈ TB := by
  unfold oW at q
  split at q
  · rename_i v hv
    simp only [Bool.and_eq_true, decide_eq_true_eq] at q
    obtain ⟨rfl, q2⟩ := q
    exact List.mem_filter.mpr ⟨List.mem_of_getElem? hv, q2⟩
  · cases q
theorem TB_good {w : Cond} (h : w ∈ TB) : goodWord w = true := (List.mem_filter.mp h).2
noncomputable def oN (w : Cond) : Bool := decide (w ∈ pNW)
noncomputable def oH (hs : List Nat) (i : Nat) : Nat := mNth 5000 hs i
noncomputable def ok0 (cc : ByteArray) (own : String) (hs : List Nat) (c : Int32) (pc pn : Nat) : Bool := match decode cc pc with
  | .ok (.iconst n, 1) => decide (Int32.ofInt n = c) && decide (pn = pc + 1)
  | .ok (.bipush n, 2) => decide ((Int8.ofInt n).toInt32 = c) && decide (pn = pc + 2)
  | .ok (.sipush n, 3) => decide ((Int16.ofInt n).toInt32 = c) && decide (pn = pc + 3)
  | .ok (.ldc k, 2) => oW (.constant own k c) (oH hs 0) && decide (pn = pc + 2)
  | .ok (.ldc_w k, 3) => oW (.constant own k c) (oH hs 0) && decide (pn = pc + 3)
  | .ok (.getstatic k, 3) => decide (c = 1) && (oW (.fieldLink own k "java/lang/String" "COMPACT_STRINGS" "Z") (oH hs 0) && decide (pn = pc + 3))
  | _ => false
noncomputable def ok1 (cc : ByteArray) (own : String) (hs : List Nat) (d : Int64) (pc pn : Nat) : Bool := match decode cc pc with
  | .ok (.lconst n, 1) => decide (Int64.ofNat (n : Nat) = d) && decide (pn = pc + 1)
  | .ok (.ldc2_w k, 3) => oW (.constantLong own k d) (oH hs 0) && decide (pn = pc + 3)
  | _ => false
noncomputable def ok2 (cc : ByteArray) (a b : Nat) (pc pn : Nat) : Bool := match decode cc pc with
  | .ok (.iload_n k, 1) => decide (b = 0) && (decide ((k : Nat) = a) && decide (pn = pc + 1))
  | .ok (.iload k, 2) => decide (b = 0) && (decide (k = a) && decide (pn = pc + 2))
  | .ok (.lload_n k, 1) => decide (b = 1) && (decide ((k : Nat) = a) && decide (pn = pc + 1))
  | .ok (.lload k, 2) => decide (b = 1) && (decide (k = a) && decide (pn = pc + 2))
  | .ok (.aload_n k, 1) => decide (b = 2) && (decide ((k : Nat) = a) && decide (pn = pc + 1))
  | .ok (.aload k, 2) => decide (b = 2) && (decide (k = a) && decide (pn = pc + 2))
  | _ => false
noncomputable def ok3 (cc : ByteArray) (nL a b : Nat) (pc pn : Nat) : Bool := match decode cc pc with
  | .ok (.istore_n k, 1) => decide (b = 0) && (decide ((k : Nat) = a) && (decide (a < nL) && decide (pn = pc + 1)))
  | .ok (.istore k, 2) => decide (b = 0) && (decide (k = a) && (decide (a < nL) && decide (pn = pc + 2)))
  | .ok (.lstore_n k, 1) => decide (b = 1) && (decide ((k : Nat) = a) && (decide (a + 1 < nL) && decide (pn = pc + 1)))
  | .ok (.lstore k, 2) => decide (b = 1) && (decide (k = a) && (decide (a + 1 < nL) && decide (pn = pc + 2)))
  | .ok (.astore_n k, 1) => decide (b = 2) && (decide ((k : Nat) = a) && (decide (a < nL) && decide (pn = pc + 1)))
  | .ok (.astore k, 2) => decide (b = 2) && (decide (k = a) && (decide (a < nL) && decide (pn = pc + 2)))
  | _ => false
noncomputable def ok4 (cc : ByteArray) (nL a : Nat) (c : Int32) (pc pn : Nat) : Bool := match decode cc pc with
  | .ok (.iinc k n, 3) => decide (k = a) && (decide (Int32.ofInt n = c) && (decide (a < nL) && decide (pn = pc + 3)))
  | _ => false
noncomputable def ok5 (cc : ByteArray) (b : Nat) (pc pn : Nat) : Bool := decide (pn = pc + 1) && (match decode cc pc with
  | .ok (.iadd, 1) => decide (b = 0)
  | .ok (.isub, 1) => decide (b = 1)
  | .ok (.imul, 1) => decide (b = 2)
  | .ok (.iand, 1) => decide (b = 3)
  | .ok (.ior, 1) => decide (b = 4)
  | .ok (.ixor, 1) => decide (b = 5)
  | .ok (.ishl, 1) => decide (b = 6)
  | .ok (.ishr, 1) => decide (b = 7)
  | .ok (.iushr, 1) => decide (b = 8)
  | _ => false)
noncomputable def ok9 (cc : ByteArray) (b : Nat) (pc pn : Nat) : Bool := decide (pn = pc + 1) && (match decode cc pc with
  | .ok (.ladd, 1) => decide (b = 0)
  | .ok (.lsub, 1) => decide (b = 1)
  | .ok (.lmul, 1) => decide (b = 2)
  | .ok (.land, 1) => decide (b = 3)
  | .ok (.lor, 1) => decide (b = 4)
  | .ok (.lxor, 1) => decide (b = 5)
  | _ => false)
noncomputable def ok11 (cc : ByteArray) (b : Nat) (pc pn : Nat) : Bool := decide (pn = pc + 1) && (match decode cc pc with
  | .ok (.lshl, 1) => decide (b = 0)
  | .ok (.lshr, 1) => decide (b = 1)
  | .ok (.lushr, 1) => decide (b = 2)
  | _ => false)
noncomputable def ok12 (cc : ByteArray) (b : Nat) (pc pn : Nat) : Bool := decide (pn = pc + 1) && (match decode cc pc with
  | .ok (.i2l, 1) => decide (b = 0)
  | .ok (.l2i, 1) => decide (b = 1)
  | .ok (.i2c, 1) => decide (b = 2)
  | .ok (.i2b, 1) => decide (b = 3)
  | _ => false)
/-- an instruction of one byte without anything beside it -/
noncomputable def okP (cc : ByteArray) (k pc pn : Nat) : Bool := decide (pn = pc + 1) && (match decode cc pc with
  | .ok (.idiv, 1) => decide (k = 6)
  | .ok (.irem, 1) => decide (k = 7)
  | .ok (.ineg, 1) => decide (k = 8)
  | .ok (.ldiv, 1) => decide (k = 10)
  | .ok (.lcmp, 1) => decide (k = 13)
  | .ok (.dup, 1) => decide (k = 14)
  | .ok (.pop, 1) => decide (k = 15)
  | .ok (.laload, 1) => decide (k = 24)
  | .ok (.aaload, 1) => decide (k = 25)
  | .ok (.iastore, 1) => decide (k = 26)
  | .ok (.lastore, 1) => decide (k = 27)
  | .ok (.aastore, 1) => decide (k = 28)
  | .ok (.arraylength, 1) => decide (k = 29)
  | _ => false)
noncomputable def ok16 (cc : ByteArray) (pc pt : Nat) : Bool := match decode cc pc with
  | .ok (.goto n, 3) => decide ((pc : Int) + n = (pt : Int))
  | _ => false
noncomputable def ok17 (cc : ByteArray) (b pc pt pn : Nat) : Bool := decide (pn = pc + 3) && (match decode cc pc with
  | .ok (.ifCond .eq n, 3) => decide (b = 0) && decide ((pc : Int) + n = (pt : Int))
  | .ok (.ifCond .ne n, 3) => decide (b = 1) && decide ((pc : Int) + n = (pt : Int))
  | .ok (.ifCond .lt n, 3) => decide (b = 2) && decide ((pc : Int) + n = (pt : Int))
  | .ok (.ifCond .ge n, 3) => decide (b = 3) && decide ((pc : Int) + n = (pt : Int))
  | .ok (.ifCond .gt n, 3) => decide (b = 4) && decide ((pc : Int) + n = (pt : Int))
  | .ok (.ifCond .le n, 3) => decide (b = 5) && decide ((pc : Int) + n = (pt : Int))
  | _ => false)
noncomputable def ok18 (cc : ByteArray) (b pc pt pn : Nat) : Bool := decide (pn = pc + 3) && (match decode cc pc with
  | .ok (.if_icmp .eq n, 3) => decide (b = 0) && decide ((pc : Int) + n = (pt : Int))
  | .ok (.if_icmp .ne n, 3) => decide (b = 1) && decide ((pc : Int) + n = (pt : Int))
  | .ok (.if_icmp .lt n, 3) => decide (b = 2) && decide ((pc : Int) + n = (pt : Int))
  | .ok (.if_icmp .ge n, 3) => decide (b = 3) && decide ((pc : Int) + n = (pt : Int))
  | .ok (.if_icmp .gt n, 3) => decide (b = 4) && decide ((pc : Int) + n = (pt : Int))
  | .ok (.if_icmp .le n, 3) => decide (b = 5) && decide ((pc : Int) + n = (pt : Int))
  | _ => false)
/-- a switch: its offsets are the targets' -/
def okOff (pc : Nat) (pcs : Nat → Nat) : List Int → List Nat → Bool
  | [], [] => true
  | o :: os, t :: ts => decide ((pc : Int) + o = ((pcs t : Nat) : Int)) && okOff pc pcs os ts
  | _, _ => false
noncomputable def ok19 (cc : ByteArray) (pcs : Nat → Nat) (a b pc : Nat) (l : List Nat) : Bool := match decode cc pc with
  | .ok (.tableswitch d lo hi os, _) => decide (lo = (b : Int)) && (decide (hi + 1 = (b : Int) + l.length) && (decide ((b : Int) + l.length < 2147483648) && (decide ((pc : Int) + d = ((pcs a : Nat) : Int)) && okOff pc pcs os.toList l)))
  | _ => false
/-- a field of a class by its number -/
noncomputable def oF (ci a : Nat) : Option (String × String × String × Bool) := match vwCl[ci]? with
  | some q => if a < q.2.2 then some (q.2.1 a) else none
  | none => none
noncomputable def ok20 (cc : ByteArray) (own : String) (hs : List Nat) (ci a b pc pn : Nat) : Bool := decide (pn = pc + 3) && (match decode cc pc with
  | .ok (.getfield k, 3) => match ci with
    | 8 => (decide (a = 0 ∧ ¬ b = 0) && oW (.fieldLink own k "java/lang/String" "value" "[B") (oH hs 0)) || (decide (a = 1 ∧ b = 0) && oW (.fieldLink own k "java/lang/String" "coder" "B") (oH hs 0))
    | ci => match oF ci a with
      | some f => oW (.fieldLink own k f.1 f.2.1 f.2.2.1) (oH hs 0) && decide ((b = 0 ∧ mNth 2 (mNth [] pkin ci) a = 0) ∨ (¬ b = 0 ∧ mNth 2 (mNth [] pkin ci) a = 1))
      | none => false
  | _ => false)
/-- a put into a field: of a type, final ones in a maker of the class alone -/
noncomputable def okPut (cc : ByteArray) (own nm : String) (hs : List Nat) (ci a pc : Nat) (z : Bool) (r : Nat) : Bool := match decode cc pc with
  | .ok (.putfield k, 3) => match oF ci a with
    | some f => oW (.fieldLink own k f.1 f.2.1 f.2.2.1) (oH hs 0) && (decide (mNth 2 (mNth [] pkin ci) a = r) && ((decide (f.2.2.2 = false) || (decide (nm = "<init>") && decide (f.1 = own))) && (decide (r = 1) || decide (f.2.2.1 = (if z then "Z" else "I")))))
    | none => false
  | _ => false
noncomputable def okC (cc : ByteArray) (pc pc2 : Nat) (c : Int32) : Bool := match decode cc pc with
  | .ok (.iconst n, 1) => decide (Int32.ofInt n = c) && (decide (pc2 = pc + 1) && decide (c = 0 ∨ c = 1))
  | _ => false
noncomputable def ok40 (cc : ByteArray) (pc pn : Nat) : Bool := match decode cc pc with
  | .ok (.bastore, 1) => decide (pn = pc + 1)
  | _ => false
noncomputable def oSt (a : Nat) (n : String) : Bool := decide ((a, n) ∈ pSt)
noncomputable def ok22 (cc : ByteArray) (own : String) (hs : List Nat) (a pc pn : Nat) : Bool := match decode cc pc with
  | .ok (.getstatic k, 3) => decide (pn = pc + 3) && (match pSt.find? (fun q => q.1 == a) with
    | some q => oW (.fieldLink own k "PotAndFine" q.2 "[I") (oH hs 0) || oN (.fieldLinkNest own k "PotAndFine" q.2 "[I" "PotAndFine")
    | none => false)
  | .ok (.ldc k, 2) => decide (pn = pc + 2) && (decide (own = "PotAndFine") && (match pTx.find? (fun q => q.2.2 == a) with
    | some q => decide (q.1 = k)
    | none => false))
  | _ => false
noncomputable def ok23 (cc : ByteArray) (b pc pn : Nat) : Bool := decide (pn = pc + 1) && (match decode cc pc with
  | .ok (.iaload, 1) => decide (b = 0)
  | .ok (.baload, 1) => decide (b = 1)
  | _ => false)
noncomputable def ok30 (cc : ByteArray) (own : String) (hs : List Nat) (ci n pc pn : Nat) : Bool := match decode cc pc with
  | .ok (.new k, 3) => decide (pn = pc + 3) && (match vwCl[ci]? with
    | some q => decide (q.2.2 = n) && (oW (.classLink own k q.1) (oH hs 0) && (oW (.instantiable q.1 n) (oH hs 1) && oW (.initialized q.1) (oH hs 2)))
    | none => false)
  | _ => false
noncomputable def ok31 (cc : ByteArray) (hs : List Nat) (a b : Nat) (c : Int32) (pc pn : Nat) : Bool := decide (pn = pc + 2) && (decide (c = Int32.ofNat b ∧ b < 65536 ∧ 0 < b) && (match decode cc pc with
  | .ok (.newarray .int, 2) => decide (a = 1) && oW (.arrayClass .int) (oH hs 0)
  | .ok (.newarray .long, 2) => decide (a = 2) && oW (.arrayClass .long) (oH hs 0)
  | .ok (.newarray .boolean, 2) => decide (a = 3) && oW (.arrayClass .boolean) (oH hs 0)
  | _ => false))
noncomputable def ok32 (cc : ByteArray) (own : String) (hs : List Nat) (b : Nat) (c : Int32) (pc pn : Nat) : Bool := decide (pn = pc + 3) && (decide (c = Int32.ofNat b ∧ b < 65536 ∧ 0 < b) && (match decode cc pc with
  | .ok (.anewarray k, 3) => oW (.classLink own k "PotAndFine$Kept") (oH hs 0)
  | _ => false))
noncomputable def ok33 (cc : ByteArray) (own : String) (hs : List Nat) (z n pc pn : Nat) : Bool := decide (pn = pc + 3) && (decide (z < 196) && (match decode cc pc with
  | .ok (.invokevirtual k, 3) => decide ((PG.2.1 z).2.2.2.2.1 < 9 ∧ (PG.2.1 z).2.2.1 = 1 ∧ (parseMethodDescriptor (pnm z).desc).map (fun d => d.parameters.length + 1) = some n) && (oW (.methodLink own k (pnm z)) (oH hs 0) && (oW (.instanceMethod (pnm z)) (oH hs 1) && oW (.selects (pnm z).cls (pnm z) (pnm z)) (oH hs 2)))
  | .ok (.invokestatic k, 3) => decide ((PG.2.1 z).2.2.2.2.1 = 9 ∧ (PG.2.1 z).2.2.1 = 1 ∧ (parseMethodDescriptor (pnm z).desc).map (fun d => d.parameters.length) = some n) && ((oW (.methodLink own k (pnm z)) (oH hs 0) && oW (.static (pnm z)) (oH hs 1)) || (oN (.methodLinkNest own k (pnm z) "PotAndFine") && oW (.static (pnm z)) (oH hs 0)))
  | .ok (.invokespecial k, 3) => decide ((PG.2.1 z).2.2.2.2.1 < 8 ∧ (PG.2.1 z).2.2.1 = 0 ∧ (pnm z).name = "<init>" ∧ prt z = none ∧ (parseMethodDescriptor (pnm z).desc).map (fun d => d.parameters.length + 1) = some n) && ((oW (.methodLink own k (pnm z)) (oH hs 0) && oW (.instanceMethod (pnm z)) (oH hs 1)) || (oN (.methodLinkNest own k (pnm z) "PotAndFine") && oW (.instanceMethod (pnm z)) (oH hs 0)))
  | _ => false))
noncomputable def ok34 (cc : ByteArray) (r pc : Nat) : Bool := match decode cc pc with
  | .ok (.return_, 1) => decide (r = 0)
  | .ok (.ireturn, 1) => decide (r = 1 ∨ r = 4 ∨ r = 5)
  | .ok (.lreturn, 1) => decide (r = 2)
  | .ok (.areturn, 1) => decide (r = 3)
  | _ => false
noncomputable def ok35 (cc : ByteArray) (own : String) (hs : List Nat) (pc pn : Nat) : Bool := match decode cc pc with
  | .ok (.invokestatic k, 3) => decide (pn = pc + 3) && (oW (.methodLink own k arraycopyName) (oH hs 0) && (oW (.native arraycopyName) (oH hs 1) && (oW (.static arraycopyName) (oH hs 2) && oW (.initialized "java/lang/System") (oH hs 3))))
  | _ => false
noncomputable def ok37 (cc : ByteArray) (own : String) (hs : List Nat) (pc pn : Nat) : Bool := match decode cc pc with
  | .ok (.invokespecial k, 3) => decide (pn = pc + 3) && (oW (.methodLink own k Lib.objectInit) (oH hs 0) && (oW (.instanceMethod Lib.objectInit) (oH hs 1) && oW (.code Lib.objectInit ⟨#[0xb1]⟩ 1 none) (oH hs 2)))
  | _ => false
noncomputable def ok41 (cc : ByteArray) (own : String) (hs : List Nat) (b pc pn : Nat) : Bool := match decode cc pc with
  | .ok (.invokestatic k, 3) => decide (pn = pc + 3) && (oW (.initialized "java/lang/Math") (oH hs 2) && (match b with
    | 0 => oW (.methodLink own k Lib.Math.max.name) (oH hs 0) && (oW (.static Lib.Math.max.name) (oH hs 1) && oW (.code Lib.Math.max.name Lib.Math.max.code 2 (some .int)) (oH hs 3))
    | 1 => oW (.methodLink own k Lib.Math.min.name) (oH hs 0) && (oW (.static Lib.Math.min.name) (oH hs 1) && oW (.code Lib.Math.min.name Lib.Math.min.code 2 (some .int)) (oH hs 3))
    | 2 => oW (.methodLink own k Lib.MathLoose.max_long.x) (oH hs 0) && (oW (.static Lib.MathLoose.max_long.x) (oH hs 1) && oW (.code Lib.MathLoose.max_long.x Lib.MathLoose.max_long.code 4 (some .long)) (oH hs 3))
    | _ => false))
  | _ => false
/-- the check of one micro-operation at its place -/
noncomputable def okOp (cc : ByteArray) (own nm : String) (nL rt rk : Nat) (pcs : Nat → Nat) (hs : List Nat) (pc : Nat) (o : mOp) : Bool := match o with
  | (ok, oa, ob, oc, od, _, on, ol, _) => match ok with
    | 0 => ok0 cc own hs oc pc (pcs on)
    | 1 => ok1 cc own hs od pc (pcs on)
    | 2 => ok2 cc oa ob pc (pcs on)
    | 3 => ok3 cc nL oa ob pc (pcs on)
    | 4 => ok4 cc nL oa oc pc (pcs on)
    | 5 => ok5 cc ob pc (pcs on)
    | 9 => ok9 cc ob pc (pcs on)
    | 11 => ok11 cc ob pc (pcs on)
    | 12 => ok12 cc ob pc (pcs on)
    | 16 => ok16 cc pc (pcs oa)
    | 17 => ok17 cc ob pc (pcs oa) (pcs on)
    | 18 => ok18 cc ob pc (pcs oa) (pcs on)
    | 19 => ok19 cc pcs oa ob pc ol
    | 20 => ok20 cc own hs (mNth 9 ol 0) oa ob pc (pcs on)
    | 21 => okPut cc own nm hs (mNth 9 ol 0) oa pc false 0 && decide (pcs on = pc + 3)
    | 22 => ok22 cc own hs oa pc (pcs on)
    | 23 => ok23 cc ob pc (pcs on)
    | 30 => ok30 cc own hs oa ob pc (pcs on)
    | 31 => ok31 cc hs oa ob oc pc (pcs on)
    | 32 => ok32 cc own hs ob oc pc (pcs on)
    | 33 => ok33 cc own hs oa ob pc (pcs on)
    | 34 => ok34 cc rt pc
    | 35 => ok35 cc own hs pc (pcs on) && decide (1 ≤ rk)
    | 36 => okPut cc own nm hs (mNth 9 ol 0) oa pc false 1 && decide (pcs on = pc + 3)
    | 37 => ok37 cc own hs pc (pcs on) && decide (1 ≤ rk)
    | 38 => okPut cc own nm hs (mNth 9 ol 0) oa pc true 0 && decide (pcs on = pc + 3)
    | 39 => okC cc pc (pc + 1) oc && (okPut cc own nm hs (mNth 9 ol 0) oa (pc + 1) true 0 && decide (pcs on = pc + 4))
    | 40 => okC cc pc (pc + 1) oc && ok40 cc (pc + 1) (pcs on)
    | 41 => ok41 cc own hs ob pc (pcs on) && decide (1 ≤ rk)
    | 99 => true
    | k => okP cc k pc (pcs on)
noncomputable def okMi (y i : Nat) : Bool := okOp (pby y) (pnm y).cls (pnm y).name (PG.2.1 y).1 (PG.2.1 y).2.1 (PG.2.1 y).2.2.2.1 (pPc y) (pHi y i) (pPc y i) (mFe PG y i)
/-- the check of a method's code -/
noncomputable def okM (y : Nat) : Bool := (List.range (32 * (PG.1 y).length)).all (okMi y)
/-- what a callee's contract wants of its tables -/
noncomputable def okZ (z : Nat) : Bool := oW (.code (pnm z) (pby z) (PG.2.1 z).1 (prt z)) (pHm z).1 && (oW (.initialized (pnm z).cls) (pHm z).2 && (decide ((pnm z).cls ≠ "java/lang/invoke/MethodHandle" ∧ (pnm z).cls ≠ "java/lang/invoke/VarHandle" ∧ plainName (pnm z).cls = true ∧ (PG.2.1 z).1 ≤ 18 ∧ pPc z 0 = 0 ∧ (¬ (PG.2.1 z).2.1 = 3 ∨ ¬ (PG.2.1 z).2.2.2.2.2.2.2 = 0)) && (decide ((PG.2.1 z).2.2.2.2.1 = 9 ∨ ((PG.2.1 z).2.2.2.2.1 = 8 ∧ (pnm z).cls = "java/lang/String") ∨ (vwCl[(PG.2.1 z).2.2.2.2.1]?).map (fun q => q.1) = some (pnm z).cls) && (decide (((PG.2.1 z).2.1 = 0 ∧ prt z = none) ∨ ((PG.2.1 z).2.1 = 1 ∧ prt z = some .int) ∨ ((PG.2.1 z).2.1 = 2 ∧ prt z = some .long) ∨ ((PG.2.1 z).2.1 = 3 ∧ prt z = some (.object "PotAndFine$Course")) ∨ ((PG.2.1 z).2.1 = 4 ∧ prt z = some .boolean) ∨ ((PG.2.1 z).2.1 = 5 ∧ prt z = some .byte)) && decide (((PG.2.1 z).2.2.1 = 0 ∧ (PG.2.1 z).2.1 = 0) ∨ ((PG.2.1 z).2.2.1 = 1 ∧ (PG.2.1 z).2.2.2.2.2.1 = 0 ∧ (PG.2.1 z).2.2.2.2.2.2.1 = 0))))))
end
section
/-! THE SMALL MACHINE'S WORLD in the kit's words: addresses and array classes by places -/
abbrev mRho : Type := Nat → Nat × ClassId
def mTr (ρ : mRho) (v : Value) : Value := match v with
  | .ref k => .ref (ρ k).1
  | v => v
def mRo (ρ : mRho) (r : Nat) : Option Nat := match r with
  | 0 => none
  | a + 1 => some (ρ a).1
/-- an object's fields -/
def mFV (ρ : mRho) (ks rs : List Nat) (f : Nat → Int32) : List Value := (List.range ks.length).map (fun j => if mNth 2 ks j = 0 then .int (f j) else mTr ρ (mRef (mNth 0 rs j)))
noncomputable def mCell (ρ : mRho) (M : mMI) (J : mMJ) (k : Nat) (c : mSC) : va_E := match c.1 with
  | 0 => .inr (c.2.1, mFV ρ (mNth [] pkin c.2.1) c.2.2 (M k))
  | 1 => .inl ((ρ k).2, c.2.1, .inl (M k))
  | 2 => .inl ((ρ k).2, c.2.1, .inr (.inl (J k)))
  | 3 => .inl ((ρ k).2, c.2.1, .inl (M k))
  | _ => .inl ((ρ k).2, c.2.1, .inr (.inr (.inr (.inr (fun i => mRo ρ (mNth 0 c.2.2 i))))))
noncomputable def mWd (ρ : mRho) (M : mMI) (J : mMJ) (sh : List mSC) : va_W := sh.mapIdx (fun k c => ((ρ k).1, mCell ρ M J k c))
def mAt1 (c : mSC) : Option FieldType := match c.1 with
  | 0 => none
  | 1 => some .int
  | 2 => some .long
  | 3 => some .boolean
  | _ => some (.object "PotAndFine$Kept")
/-- what is known of the classes of arrays -/
def mAF (ρ : mRho) (sh : List mSC) (U : State) : Prop := ∀ (k : Nat) (c : mSC) (ty : FieldType), sh[k]? = some c → mAt1 c = some ty → ArrOfT U (ρ k).2 ty ∧ va_RA U (ρ k).2 ty
/-- one thing that was there before -/
def mCC (ρ : mRho) (M0 : mMI) (A : Nat → Prop) (U : State) (H : Heap) (a : Nat) (c : mSC) : Prop := match c.1 with
  | 5 => va_T .int (ρ a).1 (match c.2.1 with | 0 => (M0 999 0).toNatClampNeg | n + 1 => n + 1) (fun j => .int (M0 a j)) A U H
  | 6 => va_T .byte (ρ a).1 c.2.1 (fun j => .int (M0 a j)) A U H
  | 7 => va_O "java/lang/String" (ρ a).1 A U H ∧ va_OF "java/lang/String" "value" "[B" (mTr ρ (mRef (mNth 0 c.2.2 0))) (ρ a).1 A U H ∧ va_OF "java/lang/String" "coder" "B" (.int 0) (ρ a).1 A U H
  | _ => True
/-- all that was there before -/
def mCF (ρ : mRho) (M0 : mMI) (A : Nat → Prop) (U : State) (H : Heap) : Prop :=
  (∀ (j : Nat) (c : mSC), pcon[j]? = some c → mCC ρ M0 A U H (1000 + j) c) ∧ (∀ q ∈ pSt, va_Z "PotAndFine" q.2 "[I" (.ref (ρ q.1).1) A U H) ∧ (∀ q ∈ pTx, vk_R "PotAndFine" q.1 q.2.1 (ρ q.2.2).1 U) ∧ va_Z "java/lang/String" "COMPACT_STRINGS" "Z" (.int 1) A U H ∧ (∀ w ∈ pNW, va_Nw w U) ∧ va_AO "PotAndFine$Kept" U ∧ Int32.ofNat (M0 999 0).toNatClampNeg = M0 999 0
theorem mNth_get {α : Type} (d : α) : ∀ (l : List α) (n : Nat), mNth d l n = (l[n]?).getD d
  | [], n => by cases n <;> rfl
  | x :: l, 0 => rfl
  | x :: l, n + 1 => by simp [mNth, mNth_get d l n]
theorem mNth_far {α : Type} (d : α) (l : List α) (n : Nat) (h : l.length ≤ n) : mNth d l n = d := by
  rw [mNth_get, List.getElem?_eq_none_iff.mpr h]
  rfl
theorem mNth_some {α : Type} {d x : α} {l : List α} {n : Nat} (h : mNth d l n = x) (hx : x ≠ d) : l[n]? = some x := by
  rw [mNth_get] at h
  cases hl : l[n]? with
  | none => rw [hl] at h; exact absurd h.symm hx
  | some y => rw [hl] at h; exact congrArg some h
theorem mWd_at {ρ : mRho} {M : mMI} {J : mMJ} {sh : List mSC} {k : Nat} {c : mSC} (h : sh[k]? = some c) : (mWd ρ M J sh)[k]? = some ((ρ k).1, mCell ρ M J k c) := by
  unfold mWd
  rw [List.getElem?_mapIdx, h]
  rfl
theorem mWd_len {ρ : mRho} {M : mMI} {J : mMJ} {sh : List mSC} : (mWd ρ M J sh).length = sh.length := by
  unfold mWd
  simp
theorem mCell_cong {ρ : mRho} {M M2 : mMI} {J J2 : mMJ} {k : Nat} {c : mSC} (h1 : M2 k = M k) (h2 : J2 k = J k) : mCell ρ M2 J2 k c = mCell ρ M J k c := by
  unfold mCell
  rw [h1, h2]
theorem mCell_0 {ρ : mRho} {M : mMI} {J : mMJ} {k : Nat} {c : mSC} (h : c.1 = 0) : mCell ρ M J k c = .inr (c.2.1, mFV ρ (mNth [] pkin c.2.1) c.2.2 (M k)) := by
  obtain ⟨a, b, d⟩ := c
  cases h
  rfl
theorem mCell_1 {ρ : mRho} {M : mMI} {J : mMJ} {k : Nat} {c : mSC} (h : c.1 = 1 ∨ c.1 = 3) : mCell ρ M J k c = .inl ((ρ k).2, c.2.1, .inl (M k)) := by
  obtain ⟨a, b, d⟩ := c
  rcases h with h | h <;> (cases h; rfl)
theorem mCell_2 {ρ : mRho} {M : mMI} {J : mMJ} {k : Nat} {c : mSC} (h : c.1 = 2) : mCell ρ M J k c = .inl ((ρ k).2, c.2.1, .inr (.inl (J k))) := by
  obtain ⟨a, b, d⟩ := c
  cases h
  rfl
theorem mCell_4 {ρ : mRho} {M : mMI} {J : mMJ} {k : Nat} {c : mSC} (h : c.1 = 4) : mCell ρ M J k c = .inl ((ρ k).2, c.2.1, .inr (.inr (.inr (.inr (fun i => mRo ρ (mNth 0 c.2.2 i)))))) := by
  obtain ⟨a, b, d⟩ := c
  cases h
  rfl
theorem mCC_5 {ρ : mRho} {M0 : mMI} {A : Nat → Prop} {U : State} {H : Heap} {a : Nat} {c : mSC} (h : c.1 = 5) (g : mCC ρ M0 A U H a c) : va_T .int (ρ a).1 (match c.2.1 with | 0 => (M0 999 0).toNatClampNeg | n + 1 => n + 1) (fun j => .int (M0 a j)) A U H := by
  obtain ⟨x, b, d⟩ := c
  cases h
  exact g
theorem mCC_6 {ρ : mRho} {M0 : mMI} {A : Nat → Prop} {U : State} {H : Heap} {a : Nat} {c : mSC} (h : c.1 = 6) (g : mCC ρ M0 A U H a c) : va_T .byte (ρ a).1 c.2.1 (fun j => .int (M0 a j)) A U H := by
  obtain ⟨x, b, d⟩ := c
  cases h
  exact g
theorem mCC_7 {ρ : mRho} {M0 : mMI} {A : Nat → Prop} {U : State} {H : Heap} {a : Nat} {c : mSC} (h : c.1 = 7) (g : mCC ρ M0 A U H a c) : va_O "java/lang/String" (ρ a).1 A U H ∧ va_OF "java/lang/String" "value" "[B" (mTr ρ (mRef (mNth 0 c.2.2 0))) (ρ a).1 A U H ∧ va_OF "java/lang/String" "coder" "B" (.int 0) (ρ a).1 A U H := by
  obtain ⟨x, b, d⟩ := c
  cases h
  exact g
theorem mWd_set {ρ : mRho} {M M2 : mMI} {J J2 : mMJ} {sh : List mSC} {a : Nat} {c : mSC} (h : sh[a]? = some c) (hM : ∀ k, k ≠ a → M2 k = M k) (hJ : ∀ k, k ≠ a → J2 k = J k) : mWd ρ M2 J2 sh = (mWd ρ M J sh).set a ((ρ a).1, mCell ρ M2 J2 a c) := by
  apply List.ext_getElem?
  intro i
  by_cases hi : i = a
  · subst hi
    have hl := (List.getElem?_eq_some_iff.mp h).1
    rw [List.getElem?_set_self (by rw [mWd_len]; exact hl)]
    exact mWd_at h
  · rw [List.getElem?_set_ne (Ne.symm hi)]
    unfold mWd
    rw [List.getElem?_mapIdx, List.getElem?_mapIdx]
    cases sh[i]? with
    | none => rfl
    | some c => exact congrArg some (congrArg (Prod.mk _) (mCell_cong (hM i hi) (hJ i hi)))
theorem mWd_same {ρ : mRho} {M M2 : mMI} {J J2 : mMJ} {sh : List mSC} (hM : ∀ k, k < sh.length → M2 k = M k) (hJ : ∀ k, k < sh.length → J2 k = J k) : mWd ρ M2 J2 sh = mWd ρ M J sh := by
  apply List.ext_getElem?
  intro i
  unfold mWd
  rw [List.getElem?_mapIdx, List.getElem?_mapIdx]
  cases h : sh[i]? with
  | none => rfl
  | some c =>
    have hl := (List.getElem?_eq_some_iff.mp h).1
    exact congrArg some (congrArg (Prod.mk _) (mCell_cong (hM i hl) (hJ i hl)))
theorem mPut_at {α : Type} {l : List α} {a : Nat} {c v : α} (h : l[a]? = some c) (k : Nat) : (mPut l a v)[k]? = if k = a then some v else l[k]? := by
  rw [mPut_get]
  have hl := (List.getElem?_eq_some_iff.mp h).1
  by_cases hk : k = a
  · subst hk
    simp [hl]
  · simp [hk]
theorem mWd_put {ρ : mRho} {M : mMI} {J : mMJ} {sh : List mSC} {a : Nat} {c d : mSC} (h : sh[a]? = some c) : mWd ρ M J (mPut sh a d) = (mWd ρ M J sh).set a ((ρ a).1, mCell ρ M J a d) := by
  apply List.ext_getElem?
  intro i
  by_cases hi : i = a
  · subst hi
    have hl := (List.getElem?_eq_some_iff.mp h).1
    rw [List.getElem?_set_self (by rw [mWd_len]; exact hl)]
    exact mWd_at (by rw [mPut_at h]; simp)
  · rw [List.getElem?_set_ne (Ne.symm hi)]
    unfold mWd
    rw [List.getElem?_mapIdx, List.getElem?_mapIdx, mPut_at h, if_neg hi]
theorem mTr_cat (ρ : mRho) (v : Value) : (mTr ρ v).category = v.category := by cases v <;> rfl
theorem mCat2_iff {v : Value} : mCat2 (some v) = true ↔ v.category = 2 := by cases v <;> simp [mCat2, Value.category]
theorem mCF.to {ρ : mRho} {M0 : mMI} {A B : Nat → Prop} {s U : State} {H : Heap} {locs : List Loc} (h : mCF ρ M0 A s s.heap) (hS : va_S A s.heap H locs) (hW : s.WarmedH U.vm) (hB : ∀ q, B q → A q) : mCF ρ M0 B U H := by
  obtain ⟨h1, h2, h3, h4, h5, h6, h7⟩ := h
  have hq : ∀ a : Nat, a < s.heap.size → ¬ A a → H[a]? = s.heap[a]? := hS.2.1
  refine ⟨fun j c hj => ?_, fun q hq1 => (((h2 q hq1).moved hW.alike).kept hq).narrow hB, fun q hq1 => (h3 q hq1).warm hW, ((h4.moved hW.alike).kept hq).narrow hB, fun w hw => ?_, h6.moved hW.alike, h7⟩
  · have g := h1 j c hj
    unfold mCC at g ⊢
    split at g <;> rename_i hc
    · exact ((g.moved hW.alike).kept hq).narrow hB
    · exact ((g.moved hW.alike).kept hq).narrow hB
    · exact ⟨((g.1.moved hW.alike).kept hq).narrow hB, ((g.2.1.moved hW.alike).kept hq).narrow hB, ((g.2.2.moved hW.alike).kept hq).narrow hB⟩
    · trivial
  · have g := h5 w hw
    simp only [pNW, List.mem_cons, List.not_mem_nil, or_false] at hw
    rcases hw with rfl | rfl | rfl | rfl | rfl | rfl | rfl | rfl <;> first | exact g.warmM hW | exact g.warmF hW
end
section
/-! locals by places -/
def mLoc (ρ : mRho) (ls : Array Slot) (nL : Nat) (L : List (Option Value)) : Prop := ls.size = nL ∧ lv_wf ls ∧ ∀ (i : Nat) (v : Value), L[i]? = some (some v) → ls[i]? = some (.val (mTr ρ v))
def mLs (ρ : mRho) (L : List (Option Value)) : List (Nat × Value) := (L.mapIdx (fun i o => (i, o))).filterMap (fun q => q.2.map (fun v => (q.1, mTr ρ v)))
theorem mLs_mem {ρ : mRho} {L : List (Option Value)} {q : Nat × Value} : q ∈ mLs ρ L ↔ ∃ (i : Nat) (v : Value), L[i]? = some (some v) ∧ q = (i, mTr ρ v) := by
  unfold mLs
  rw [List.mem_filterMap]
  constructor
  · rintro ⟨x, hx, hq⟩
    obtain ⟨i, hi⟩ := List.getElem?_of_mem hx
    rw [List.getElem?_mapIdx] at hi
    cases hL : L[i]? with
    | none => rw [hL] at hi; cases hi
    | some o =>
      rw [hL] at hi
      cases hi
      cases o with
      | none => cases hq
      | some v =>
        cases hq
        exact ⟨i, v, hL, rfl⟩
  · rintro ⟨i, v, h, rfl⟩
    refine ⟨(i, some v), ?_, rfl⟩
    refine List.mem_of_getElem? (i := i) ?_
    rw [List.getElem?_mapIdx, h]
    rfl
theorem mLoc.has {ρ : mRho} {ls : Array Slot} {nL : Nat} {L : List (Option Value)} (h : mLoc ρ ls nL L) : lv_has ls nL (mLs ρ L) := by
  refine ⟨h.1, h.2.1, fun q hq => ?_⟩
  obtain ⟨i, v, h1, rfl⟩ := mLs_mem.mp hq
  exact h.2.2 i v h1
theorem mLoc.ers {ρ : mRho} {ls : Array Slot} {nL : Nat} {L : List (Option Value)} (h : mLoc ρ ls nL L) (l : List Nat) : mLoc ρ ls nL (mErs l L) := by
  refine ⟨h.1, h.2.1, fun i v hi => h.2.2 i v ?_⟩
  rw [mErs_get] at hi
  split at hi
  · cases hi
  · exact hi
theorem mLoc.get {ρ : mRho} {ls : Array Slot} {nL : Nat} {L : List (Option Value)} (h : mLoc ρ ls nL L) {a : Nat} {v : Value} (hv : mNth none L a = some v) : ls[a]? = some (.val (mTr ρ v)) := h.2.2 a v (mNth_some hv (by simp))
theorem mSto_in {L : List (Option Value)} {a : Nat} {v : Value} {i : Nat} {w : Value} (h : (mSto L a v)[i]? = some (some w)) : (i = a ∧ w = v) ∨ (¬ i = a ∧ L[i]? = some (some w) ∧ ¬ (i + 1 = a ∧ w.category = 2) ∧ ¬ (v.category = 2 ∧ i = a + 1)) := by
  have key : ∀ (L1 : List (Option Value)), (∀ j u, L1[j]? = some (some u) → L[j]? = some (some u) ∧ ¬ (j + 1 = a ∧ u.category = 2)) → (mPut L1 a (some v))[i]? = some (some w) → (i = a ∧ w = v) ∨ (¬ i = a ∧ L[i]? = some (some w) ∧ ¬ (i + 1 = a ∧ w.category = 2)) := by
    intro L1 h1 h2
    rw [mPut_get] at h2
    split at h2
    · rename_i hc
      cases h2
      exact Or.inl ⟨hc.1, rfl⟩
    · rename_i hc
      have h3 := h1 i w h2
      by_cases hi : i = a
      · exact absurd ⟨hi, (List.getElem?_eq_some_iff.mp h2).1⟩ hc
      · exact Or.inr ⟨hi, h3⟩
  have base : ∀ j u, (mBrk L a)[j]? = some (some u) → L[j]? = some (some u) ∧ ¬ (j + 1 = a ∧ u.category = 2) := by
    intro j u hj
    unfold mBrk at hj
    cases a with
    | zero => exact ⟨hj, fun q => absurd q.1 (by omega)⟩
    | succ b =>
      cases hb : mCat2 (mNth none L b) with
      | true =>
        simp only [hb] at hj
        rw [mPut_get] at hj
        split at hj
        · cases hj
        · rename_i hc
          refine ⟨hj, fun q => hc ⟨by omega, (List.getElem?_eq_some_iff.mp hj).1⟩⟩
      | false =>
        simp only [hb] at hj
        refine ⟨hj, fun q => ?_⟩
        have e2 : j = b := by omega
        subst e2
        rw [mNth_get, hj] at hb
        have := mCat2_iff.mpr q.2
        rw [show (some (some u)).getD none = some u from rfl] at hb
        rw [this] at hb
        cases hb
  unfold mSto at h
  cases hv : mCat2 (some v) with
  | false =>
    simp only [hv] at h
    have hc : ¬ v.category = 2 := fun q => by rw [mCat2_iff.mpr q] at hv; cases hv
    rcases key _ base h with h | h
    · exact Or.inl h
    · exact Or.inr ⟨h.1, h.2.1, h.2.2, fun q => hc q.1⟩
  | true =>
    simp only [hv] at h
    rw [mPut_get] at h
    split at h
    · cases h
    · rename_i hn
      rcases key _ base h with g | g
      · exact Or.inl g
      · exact Or.inr ⟨g.1, g.2.1, g.2.2, fun q => hn ⟨q.2, (List.getElem?_eq_some_iff.mp h).1⟩⟩
theorem mLoc.sto1 {ρ : mRho} {ls2 : Array Slot} {nL : Nat} {L : List (Option Value)} {a : Nat} {v : Value} (hc : ¬ v.category = 2) (h2 : lv_has ls2 nL ((a, mTr ρ v) :: (mLs ρ L).filter (fun q => !(q.1 == a) && !(q.1 + 1 == a && q.2.category == 2)))) : mLoc ρ ls2 nL (mSto L a v) := by
  refine ⟨h2.1, h2.2.1, fun i w hi => h2.2.2 (i, mTr ρ w) ?_⟩
  rcases mSto_in hi with ⟨rfl, rfl⟩ | ⟨g1, g2, g3, -⟩
  · exact List.mem_cons_self
  · refine List.mem_cons_of_mem _ (List.mem_filter.mpr ⟨mLs_mem.mpr ⟨i, w, g2, rfl⟩, ?_⟩)
    simp only [mTr_cat, Bool.and_eq_true, Bool.not_eq_true', beq_eq_false_iff_ne, Bool.and_eq_false_iff]
    refine ⟨g1, ?_⟩
    by_cases q : i + 1 = a
    · exact Or.inr (fun z => g3 ⟨q, z⟩)
    · exact Or.inl q
theorem mLoc.sto2 {ρ : mRho} {ls2 : Array Slot} {nL : Nat} {L : List (Option Value)} {a : Nat} {v : Value} (hc : v.category = 2) (h2 : lv_has ls2 nL ((a, mTr ρ v) :: (mLs ρ L).filter (fun q => !(q.1 == a) && (!(q.1 == a + 1) && !(q.1 + 1 == a && q.2.category == 2))))) : mLoc ρ ls2 nL (mSto L a v) := by
  refine ⟨h2.1, h2.2.1, fun i w hi => h2.2.2 (i, mTr ρ w) ?_⟩
  rcases mSto_in hi with ⟨rfl, rfl⟩ | ⟨g1, g2, g3, g4⟩
  · exact List.mem_cons_self
  · refine List.mem_cons_of_mem _ (List.mem_filter.mpr ⟨mLs_mem.mpr ⟨i, w, g2, rfl⟩, ?_⟩)
    simp only [mTr_cat, Bool.and_eq_true, Bool.not_eq_true', beq_eq_false_iff_ne, Bool.and_eq_false_iff]
    refine ⟨g1, fun z => g4 ⟨hc, z⟩, ?_⟩
    by_cases q : i + 1 = a
    · exact Or.inr (fun z => g3 ⟨q, z⟩)
    · exact Or.inl q
theorem mLoc.inc {ρ : mRho} {ls ls2 : Array Slot} {nL : Nat} {L : List (Option Value)} {a : Nat} {x v : Int32} (h : mLoc ρ ls nL L) (hx : L[a]? = some (some (.int x))) (h2 : lv_has ls2 nL ((a, Value.int v) :: (mLs ρ L).filter (fun q => !(q.1 == a) && !(q.1 + 1 == a && q.2.category == 2)))) : mLoc ρ ls2 nL (mPut L a (some (.int v))) := by
  refine ⟨h2.1, h2.2.1, fun i w hi => h2.2.2 (i, mTr ρ w) ?_⟩
  rw [mPut_at hx] at hi
  split at hi
  · rename_i e
    subst e
    cases hi
    exact List.mem_cons_self
  · rename_i e
    refine List.mem_cons_of_mem _ (List.mem_filter.mpr ⟨mLs_mem.mpr ⟨i, w, hi, rfl⟩, ?_⟩)
    simp only [mTr_cat, Bool.and_eq_true, Bool.not_eq_true', beq_eq_false_iff_ne, Bool.and_eq_false_iff]
    refine ⟨e, ?_⟩
    by_cases q : i + 1 = a
    · refine Or.inr (fun z => ?_)
      have g1 := h.2.2 i w hi
      have g2 := h.2.2 a (.int x) hx
      have g3 := h.2.1.1 i (mTr ρ w) g1 (by rw [mTr_cat]; exact z)
      rw [q, g2] at g3
      cases g3
    · exact Or.inl q
/-- a new frame's locals -/
theorem mLoc.entry {ρ : mRho} (vs : List Value) {n : Nat} (h : (lg_sl (vs.map (mTr ρ))).length ≤ n) : mLoc ρ ((lg_sl (vs.map (mTr ρ)) ++ List.replicate (n - (lg_sl (vs.map (mTr ρ))).length) Slot.unset).toArray) n (mPad n (mArgs vs)) := by
  have h1 := lv_entry (vs.map (mTr ρ)) h
  refine ⟨h1.1, h1.2.1, fun i v hi => h1.2.2 (i, mTr ρ v) ?_⟩
  have pad : ∀ (n : Nat) (l : List (Option Value)) (i : Nat) (v : Value), (mPad n l)[i]? = some (some v) → l[i]? = some (some v) := by
    intro n
    induction n with
    | zero => intro l i v h; simp [mPad] at h
    | succ n ih =>
      intro l i v h
      cases l with
      | nil =>
        cases i with
        | zero => simp [mPad] at h
        | succ i => exact absurd (ih [] i v (by simpa [mPad] using h)) (by simp)
      | cons x l =>
        cases i with
        | zero => simpa [mPad] using h
        | succ i => simpa using ih l i v (by simpa [mPad] using h)
  have key : ∀ (vs : List Value) (b i : Nat) (v : Value), (mArgs vs)[i]? = some (some v) → (b + i, mTr ρ v) ∈ lv_args b (vs.map (mTr ρ)) := by
    intro vs
    induction vs with
    | nil => intro b i v h; simp [mArgs] at h
    | cons w vs ih =>
      intro b i v h
      cases hw : mCat2 (some w) with
      | true =>
        have e : mArgs (w :: vs) = some w :: none :: mArgs vs := by simp [mArgs, hw]
        rw [e] at h
        have hcat : (mTr ρ w).category = 2 := by rw [mTr_cat]; exact mCat2_iff.mp hw
        match i, h with
        | 0, h => cases h; simp [lv_args]
        | 1, h => cases h
        | i + 2, h =>
          have := ih (b + 2) i v (by simpa using h)
          rw [List.map_cons, lv_args, hcat]
          refine List.mem_cons_of_mem _ ?_
          rw [show b + (i + 2) = b + 2 + i by omega]
          exact this
      | false =>
        have e : mArgs (w :: vs) = some w :: mArgs vs := by simp [mArgs, hw]
        rw [e] at h
        have hcat : (mTr ρ w).category = 1 := by
          rcases lv_cat (mTr ρ w) with q | q
          · exact q
          · rw [mTr_cat] at q
            rw [mCat2_iff.mpr q] at hw
            cases hw
        match i, h with
        | 0, h => cases h; simp [lv_args]
        | i + 1, h =>
          have := ih (b + 1) i v (by simpa using h)
          rw [List.map_cons, lv_args, hcat]
          refine List.mem_cons_of_mem _ ?_
          rw [show b + (i + 1) = b + 1 + i by omega]
          exact this
  have := key vs 0 i v (pad n _ i v hi)
  rwa [Nat.zero_add] at this
end
section
/-! an activation, its world, and what a run of the small machine promises -/
/-- facts of an activation of method y -/
def mAct (p : Program) (s : State) (m : MethodId) (args : Array Value) (meth : Method) (c : Code) (R : Room) (y : Nat) (D : va_G) (A : Nat → Prop) (ρ0 : mRho) (M0 : mMI) : Prop :=
  p.tables.exec = Jvm.exec ∧ c.code = pby y ∧ c.maxLocals = (PG.2.1 y).1 ∧ s.vm.findClass (pnm y).cls = some m.cls ∧ (∀ w ∈ TB, w.before args s = true) ∧ meth.name = (pnm y).name ∧ (∀ q : Nat, s.heap.size ≤ q → A q) ∧ va_K D vwCl [] s ∧ mCF ρ0 M0 A s s.heap ∧ (PG.2.1 y).2.2.2.1 ≤ R.frames ∧ 37 * (PG.2.1 y).2.2.2.1 ≤ R.locals ∧ (PG.2.1 y).2.2.2.2.2.1 ≤ R.cells ∧ (PG.2.1 y).2.2.2.2.2.2.1 ≤ R.slots
/-- the heap of an activation -/
def mHI (s : State) (y : Nat) (D : va_G) (A : Nat → Prop) (ρ0 : mRho) (M0 : mMI) (sh0 : List mSC) (ρ : mRho) (sh : List mSC) (M : mMI) (J : mMJ) (nc ns : Nat) (H : Heap) (locs : List Loc) : Prop :=
  va_P D vwCl (mWd ρ M J sh) H ∧ va_D A (mWd ρ M J sh) ∧ va_S A s.heap H locs ∧ mAF ρ sh s ∧ (∀ k, 999 ≤ k → M k = M0 k) ∧ (sh.length < 999 ∧ ∀ q ∈ sh, q.1 ≤ 4) ∧ (¬ (PG.2.1 y).2.2.1 = 0 → ρ = ρ0 ∧ sh = sh0 ∧ nc = 0 ∧ ns = 0) ∧ (∀ k, k < sh0.length ∨ 999 ≤ k → ρ k = ρ0 k) ∧ sh0.length ≤ sh.length ∧ nc ≤ (PG.2.1 y).2.2.2.2.2.1 ∧ ns ≤ (PG.2.1 y).2.2.2.2.2.2.1
/-- what is wanted at a return -/
def mRetH (p : Program) (l : Launch) (e : Env) (R : Room) (s : State) (m : MethodId) (args : Array Value) (below : List Frame) (meth : Method) (c : Code) (Q : State → Prop) (y : Nat) (D : va_G) (A : Nat → Prop) (ρ0 : mRho) (M0 : mMI) (sh0 : List mSC) (r : mRs) : Prop :=
  ∀ (i : Nat) (ρ : mRho) (S : List Value) (sh : List mSC) (M : mMI) (J : mMJ) (nc ns : Nat) (H : Heap) (locs : List Loc) (ls : Array Slot), ok34 (pby y) (PG.2.1 y).2.1 (pPc y i) = true → mRet (PG.2.1 y).2.1 S (sh, M, J, nc, ns) = some r → mHI s y D A ρ0 M0 sh0 ρ sh M J nc ns H locs → W p l e R s m args below meth c H locs nc ns Q (F0 m (pPc y i) ls (S.map (mTr ρ)))
/-- soundness of n steps -/
def mSim (n : Nat) : Prop := ∀ (p : Program) (l : Launch) (e : Env) (R : Room) (s : State) (m : MethodId) (args : Array Value) (below : List Frame) (meth : Method) (c : Code) (Q : State → Prop) (y i : Nat) (L : List (Option Value)) (S : List Value) (sh : List mSC) (M : mMI) (J : mMJ) (nc ns : Nat) (r : mRs) (D : va_G) (A : Nat → Prop) (ρ0 : mRho) (M0 : mMI) (sh0 : List mSC) (ρ : mRho) (H : Heap) (locs : List Loc) (ls : Array Slot),
  mEv PG n (y, i, L, S, sh, M, J, nc, ns) = some r → mAct p s m args meth c R y D A ρ0 M0 → mHI s y D A ρ0 M0 sh0 ρ sh M J nc ns H locs → mLoc ρ ls (PG.2.1 y).1 L → mRetH p l e R s m args below meth c Q y D A ρ0 M0 sh0 r → W p l e R s m args below meth c H locs nc ns Q (F0 m (pPc y i) ls (S.map (mTr ρ)))
section OPS
variable {p : Program} {l : Launch} {e : Env} {R : Room} {s : State} {m : MethodId} {args : Array Value} {below : List Frame} {meth : Method} {c : Code} {Q : State → Prop} {y : Nat} {D : va_G} {A : Nat → Prop} {ρ0 : mRho} {M0 : mMI} {H : Heap} {locs : List Loc} {cells slots : Nat} {ls : Array Slot} {st : List Value} {pc pn : Nat}
theorem so0 {hs : List Nat} {v : Int32} (C : mAct p s m args meth c R y D A ρ0 M0) (hS : va_S A s.heap H locs) (h : ok0 (pby y) (pnm y).cls hs v pc pn = true) (k : W p l e R s m args below meth c H locs cells slots Q (F0 m pn ls (.int v :: st))) : W p l e R s m args below meth c H locs cells slots Q (F0 m pc ls st) := by
  obtain ⟨hx, hb, hml, hown, hts, hnm, hA, hK, hCF, -⟩ := C
  unfold ok0 at h
  split at h
  · rename_i n hd
    simp only [Bool.and_eq_true, decide_eq_true_eq] at h
    obtain ⟨h1, rfl⟩ := h
    exact lv_iconst hx hb hd h1 k
  · rename_i n hd
    simp only [Bool.and_eq_true, decide_eq_true_eq] at h
    obtain ⟨h1, rfl⟩ := h
    exact lv_bipush hx hb hd h1 k
  · rename_i n hd
    simp only [Bool.and_eq_true, decide_eq_true_eq] at h
    obtain ⟨h1, rfl⟩ := h
    exact lv_sipush hx hb hd h1 k
  · rename_i n hd
    simp only [Bool.and_eq_true, decide_eq_true_eq] at h
    obtain ⟨h1, rfl⟩ := h
    exact lv_ldc hx hb hown (hts _ (oW_in h1)) hd k
  · rename_i n hd
    simp only [Bool.and_eq_true, decide_eq_true_eq] at h
    obtain ⟨h1, rfl⟩ := h
    exact lv_ldcw hx hb hown (hts _ (oW_in h1)) hd k
  · rename_i n hd
    simp only [Bool.and_eq_true, decide_eq_true_eq] at h
    obtain ⟨rfl, h1, rfl⟩ := h
    exact va_gets hx hb hCF.2.2.2.1 hS hown (hts _ (oW_in h1)) (fun _ q => q) hd k
  · cases h
theorem so1 {hs : List Nat} {v : Int64} (C : mAct p s m args meth c R y D A ρ0 M0) (h : ok1 (pby y) (pnm y).cls hs v pc pn = true) (k : W p l e R s m args below meth c H locs cells slots Q (F0 m pn ls (.long v :: st))) : W p l e R s m args below meth c H locs cells slots Q (F0 m pc ls st) := by
  obtain ⟨hx, hb, hml, hown, hts, hnm, hA, hK, hCF, -⟩ := C
  unfold ok1 at h
  split at h
  · rename_i n hd
    simp only [Bool.and_eq_true, decide_eq_true_eq] at h
    obtain ⟨h1, rfl⟩ := h
    exact lv_lconst hx hb hd h1 k
  · rename_i n hd
    simp only [Bool.and_eq_true, decide_eq_true_eq] at h
    obtain ⟨h1, rfl⟩ := h
    exact lv_ldc2 hx hb hown (hts _ (oW_in h1)) hd k
  · cases h
theorem so2 {a b : Nat} {v : Value} {ρ : mRho} (C : mAct p s m args meth c R y D A ρ0 M0) (h : ok2 (pby y) a b pc pn = true) (ht : mTyp b v = true) (hl : ls[a]? = some (.val (mTr ρ v))) (k : W p l e R s m args below meth c H locs cells slots Q (F0 m pn ls (mTr ρ v :: st))) : W p l e R s m args below meth c H locs cells slots Q (F0 m pc ls st) := by
  obtain ⟨hx, hb, hml, hown, hts, hnm, hA, hK, hCF, -⟩ := C
  unfold ok2 at h
  split at h <;> rename_i n hd
  all_goals (try (simp only [Bool.and_eq_true, decide_eq_true_eq] at h; obtain ⟨rfl, h1, rfl⟩ := h))
  · cases v <;> first | (simp [mTyp] at ht; done) | exact lv_iload_n hx hb hd h1 hl k
  · subst h1
    cases v <;> first | (simp [mTyp] at ht; done) | exact lv_iload hx hb hd hl k
  · cases v <;> first | (simp [mTyp] at ht; done) | exact lv_lload_n hx hb hd h1 hl k
  · subst h1
    cases v <;> first | (simp [mTyp] at ht; done) | exact lv_lload hx hb hd hl k
  · cases v <;> first | (simp [mTyp] at ht; done) | exact lv_aload_n hx hb hd h1 hl k
  · subst h1
    cases v <;> first | (simp [mTyp] at ht; done) | exact lv_aload hx hb hd hl k
  · cases h
theorem so3 {a b : Nat} {v : Value} {ρ : mRho} {L : List (Option Value)} {nL : Nat} (C : mAct p s m args meth c R y D A ρ0 M0) (h : ok3 (pby y) nL a b pc pn = true) (ht : mTyp b v = true) (hL : mLoc ρ ls nL L) (k : ∀ ls2 : Array Slot, mLoc ρ ls2 nL (mSto L a v) → W p l e R s m args below meth c H locs cells slots Q (F0 m pn ls2 st)) : W p l e R s m args below meth c H locs cells slots Q (F0 m pc ls (mTr ρ v :: st)) := by
  obtain ⟨hx, hb, hml, hown, hts, hnm, hA, hK, hCF, -⟩ := C
  unfold ok3 at h
  split at h <;> rename_i n hd
  all_goals (try (simp only [Bool.and_eq_true, decide_eq_true_eq] at h; obtain ⟨rfl, h1, h2, rfl⟩ := h))
  · cases v <;> first | (simp [mTyp] at ht; done) | exact lv_istore_n hx hb hd h1 hL.has h2 rfl (fun ls2 q => k ls2 (mLoc.sto1 (by simp [Value.category]) q))
  · subst h1
    cases v <;> first | (simp [mTyp] at ht; done) | exact lv_istore hx hb hd hL.has h2 rfl (fun ls2 q => k ls2 (mLoc.sto1 (by simp [Value.category]) q))
  · cases v <;> first | (simp [mTyp] at ht; done) | exact lv_lstore_n hx hb hd h1 hL.has h2 rfl (fun ls2 q => k ls2 (mLoc.sto2 (by simp [Value.category]) q))
  · subst h1
    cases v <;> first | (simp [mTyp] at ht; done) | exact lv_lstore hx hb hd hL.has h2 rfl (fun ls2 q => k ls2 (mLoc.sto2 (by simp [Value.category]) q))
  · cases v <;> first | (simp [mTyp] at ht; done) | exact lv_astore_n hx hb hd h1 hL.has h2 rfl (fun ls2 q => k ls2 (mLoc.sto1 (ρ := ρ) (by simp [Value.category]) q))
  · subst h1
    cases v <;> first | (simp [mTyp] at ht; done) | exact lv_astore hx hb hd hL.has h2 rfl (fun ls2 q => k ls2 (mLoc.sto1 (ρ := ρ) (by simp [Value.category]) q))
  · cases h
theorem so4 {a : Nat} {x v : Int32} {ρ : mRho} {L : List (Option Value)} {nL : Nat} (C : mAct p s m args meth c R y D A ρ0 M0) (h : ok4 (pby y) nL a v pc pn = true) (hL : mLoc ρ ls nL L) (hv : mNth none L a = some (.int x)) (k : ∀ ls2 : Array Slot, mLoc ρ ls2 nL (mPut L a (some (.int (x + v)))) → W p l e R s m args below meth c H locs cells slots Q (F0 m pn ls2 st)) : W p l e R s m args below meth c H locs cells slots Q (F0 m pc ls st) := by
  obtain ⟨hx, hb, hml, hown, hts, hnm, hA, hK, hCF, -⟩ := C
  have hL1 : L[a]? = some (some (.int x)) := mNth_some hv (by simp)
  obtain ⟨j, hj⟩ := List.getElem?_of_mem (mLs_mem.mpr ⟨a, .int x, hL1, rfl⟩ : (a, mTr ρ (.int x)) ∈ mLs ρ L)
  unfold ok4 at h
  split at h
  · rename_i n2 n hd
    simp only [Bool.and_eq_true, decide_eq_true_eq] at h
    obtain ⟨rfl, h1, h2, rfl⟩ := h
    exact lv_iinc (v := x + v) hx hb hd hL.has (k := j) hj (by rw [h1]) h2 rfl (fun ls2 q => k ls2 (hL.inc hL1 q))
  · cases h
end OPS
end
section
/-! soundness of numbers, jumps and switches -/
section OPS
variable {p : Program} {l : Launch} {e : Env} {R : Room} {s : State} {m : MethodId} {args : Array Value} {below : List Frame} {meth : Method} {c : Code} {Q : State → Prop} {y : Nat} {D : va_G} {A : Nat → Prop} {ρ0 : mRho} {M0 : mMI} {H : Heap} {locs : List Loc} {cells slots : Nat} {ls : Array Slot} {st : List Value} {pc pn pt : Nat}
theorem so5 {b : Nat} {x v : Int32} (C : mAct p s m args meth c R y D A ρ0 M0) (h : ok5 (pby y) b pc pn = true) (k : W p l e R s m args below meth c H locs cells slots Q (F0 m pn ls (.int (mBin b x v) :: st))) : W p l e R s m args below meth c H locs cells slots Q (F0 m pc ls (.int v :: .int x :: st)) := by
  obtain ⟨hx, hb, hml, hown, hts, hnm, hA, hK, hCF, -⟩ := C
  unfold ok5 at h
  simp only [Bool.and_eq_true, decide_eq_true_eq] at h
  obtain ⟨rfl, h⟩ := h
  split at h <;> rename_i hd
  all_goals (try (rw [decide_eq_true_eq] at h; subst h))
  · exact lv_iadd hx hb hd k
  · exact lv_isub hx hb hd k
  · exact lv_imul hx hb hd k
  · exact lv_iand hx hb hd k
  · exact lv_ior hx hb hd k
  · exact lv_ixor hx hb hd k
  · exact lv_ishl hx hb hd k
  · exact lv_ishr hx hb hd k
  · exact lv_iushr hx hb hd rfl k
  · cases h
theorem so9 {b : Nat} {x v : Int64} (C : mAct p s m args meth c R y D A ρ0 M0) (h : ok9 (pby y) b pc pn = true) (k : W p l e R s m args below meth c H locs cells slots Q (F0 m pn ls (.long (mBinJ b x v) :: st))) : W p l e R s m args below meth c H locs cells slots Q (F0 m pc ls (.long v :: .long x :: st)) := by
  obtain ⟨hx, hb, hml, hown, hts, hnm, hA, hK, hCF, -⟩ := C
  unfold ok9 at h
  simp only [Bool.and_eq_true, decide_eq_true_eq] at h
  obtain ⟨rfl, h⟩ := h
  split at h <;> rename_i hd
  all_goals (try (rw [decide_eq_true_eq] at h; subst h))
  · exact lv_ladd hx hb hd k
  · exact lv_lsub hx hb hd k
  · exact lv_lmul hx hb hd k
  · exact lv_land hx hb hd k
  · exact lv_lor hx hb hd k
  · exact lv_lxor hx hb hd k
  · cases h
theorem so11 {b : Nat} {x : Int64} {v : Int32} (C : mAct p s m args meth c R y D A ρ0 M0) (h : ok11 (pby y) b pc pn = true) (k : W p l e R s m args below meth c H locs cells slots Q (F0 m pn ls (.long (mShJ b x v) :: st))) : W p l e R s m args below meth c H locs cells slots Q (F0 m pc ls (.int v :: .long x :: st)) := by
  obtain ⟨hx, hb, hml, hown, hts, hnm, hA, hK, hCF, -⟩ := C
  unfold ok11 at h
  simp only [Bool.and_eq_true, decide_eq_true_eq] at h
  obtain ⟨rfl, h⟩ := h
  split at h <;> rename_i hd
  all_goals (try (rw [decide_eq_true_eq] at h; subst h))
  · exact lv_lshl hx hb hd rfl k
  · exact lv_lshr hx hb hd rfl k
  · exact lv_lushr hx hb hd rfl k
  · cases h
theorem so12 {b : Nat} {v w : Value} {ρ : mRho} (C : mAct p s m args meth c R y D A ρ0 M0) (h : ok12 (pby y) b pc pn = true) (hv : mCv b v = some w) (k : W p l e R s m args below meth c H locs cells slots Q (F0 m pn ls (mTr ρ w :: st))) : W p l e R s m args below meth c H locs cells slots Q (F0 m pc ls (mTr ρ v :: st)) := by
  obtain ⟨hx, hb, hml, hown, hts, hnm, hA, hK, hCF, -⟩ := C
  unfold ok12 at h
  simp only [Bool.and_eq_true, decide_eq_true_eq] at h
  obtain ⟨rfl, h⟩ := h
  split at h <;> rename_i hd
  all_goals (try (rw [decide_eq_true_eq] at h; subst h))
  · cases v <;> first | (simp [mCv] at hv; done) | (cases hv; exact lv_i2l hx hb hd rfl k)
  · cases v <;> first | (simp [mCv] at hv; done) | (cases hv; exact lv_l2i hx hb hd rfl k)
  · cases v <;> first | (simp [mCv] at hv; done) | (cases hv; exact lv_i2c hx hb hd rfl k)
  · cases v <;> first | (simp [mCv] at hv; done) | (cases hv; exact lv_i2b hx hb hd rfl k)
  · cases h
theorem okP_at {k : Nat} (h : okP (pby y) k pc pn = true) : pn = pc + 1 ∧ ((k = 6 ∧ decode (pby y) pc = .ok (.idiv, 1)) ∨ (k = 7 ∧ decode (pby y) pc = .ok (.irem, 1)) ∨ (k = 8 ∧ decode (pby y) pc = .ok (.ineg, 1)) ∨ (k = 10 ∧ decode (pby y) pc = .ok (.ldiv, 1)) ∨ (k = 13 ∧ decode (pby y) pc = .ok (.lcmp, 1)) ∨ (k = 14 ∧ decode (pby y) pc = .ok (.dup, 1)) ∨ (k = 15 ∧ decode (pby y) pc = .ok (.pop, 1)) ∨ (k = 24 ∧ decode (pby y) pc = .ok (.laload, 1)) ∨ (k = 25 ∧ decode (pby y) pc = .ok (.aaload, 1)) ∨ (k = 26 ∧ decode (pby y) pc = .ok (.iastore, 1)) ∨ (k = 27 ∧ decode (pby y) pc = .ok (.lastore, 1)) ∨ (k = 28 ∧ decode (pby y) pc = .ok (.aastore, 1)) ∨ (k = 29 ∧ decode (pby y) pc = .ok (.arraylength, 1))) := by
  unfold okP at h
  simp only [Bool.and_eq_true, decide_eq_true_eq] at h
  obtain ⟨rfl, h⟩ := h
  refine ⟨rfl, ?_⟩
  split at h <;> rename_i hd
  all_goals (try (rw [decide_eq_true_eq] at h; subst h; simp [hd]; done))
  cases h
theorem so6 {x v : Int32} (C : mAct p s m args meth c R y D A ρ0 M0) (h : okP (pby y) 6 pc pn = true) (hv : ¬ v = 0) (k : W p l e R s m args below meth c H locs cells slots Q (F0 m pn ls (.int (x / v) :: st))) : W p l e R s m args below meth c H locs cells slots Q (F0 m pc ls (.int v :: .int x :: st)) := by
  obtain ⟨rfl, h2⟩ := okP_at h
  have h : decode (pby y) pc = .ok (.idiv, 1) := by simpa using h2
  exact lv_idiv C.1 C.2.1 h hv k
theorem so7 {x v : Int32} (C : mAct p s m args meth c R y D A ρ0 M0) (h : okP (pby y) 7 pc pn = true) (hv : ¬ v = 0) (k : W p l e R s m args below meth c H locs cells slots Q (F0 m pn ls (.int (x - x / v * v) :: st))) : W p l e R s m args below meth c H locs cells slots Q (F0 m pc ls (.int v :: .int x :: st)) := by
  obtain ⟨rfl, h2⟩ := okP_at h
  have h : decode (pby y) pc = .ok (.irem, 1) := by simpa using h2
  exact lv_irem C.1 C.2.1 h hv k
theorem so8 {x : Int32} (C : mAct p s m args meth c R y D A ρ0 M0) (h : okP (pby y) 8 pc pn = true) (k : W p l e R s m args below meth c H locs cells slots Q (F0 m pn ls (.int (-x) :: st))) : W p l e R s m args below meth c H locs cells slots Q (F0 m pc ls (.int x :: st)) := by
  obtain ⟨rfl, h2⟩ := okP_at h
  have h : decode (pby y) pc = .ok (.ineg, 1) := by simpa using h2
  exact lv_ineg C.1 C.2.1 h k
theorem so10 {x v : Int64} (C : mAct p s m args meth c R y D A ρ0 M0) (h : okP (pby y) 10 pc pn = true) (hv : ¬ v = 0) (k : W p l e R s m args below meth c H locs cells slots Q (F0 m pn ls (.long (x / v) :: st))) : W p l e R s m args below meth c H locs cells slots Q (F0 m pc ls (.long v :: .long x :: st)) := by
  obtain ⟨rfl, h2⟩ := okP_at h
  have h : decode (pby y) pc = .ok (.ldiv, 1) := by simpa using h2
  exact lv_ldiv C.1 C.2.1 h hv k
theorem so13 {x v : Int64} (C : mAct p s m args meth c R y D A ρ0 M0) (h : okP (pby y) 13 pc pn = true) (k : W p l e R s m args below meth c H locs cells slots Q (F0 m pn ls (.int (lg_cmp x v) :: st))) : W p l e R s m args below meth c H locs cells slots Q (F0 m pc ls (.long v :: .long x :: st)) := by
  obtain ⟨rfl, h2⟩ := okP_at h
  have h : decode (pby y) pc = .ok (.lcmp, 1) := by simpa using h2
  exact W.lcmp C.1 C.2.1 h k
theorem so14 {v : Value} (C : mAct p s m args meth c R y D A ρ0 M0) (h : okP (pby y) 14 pc pn = true) (hv : v.category = 1) (k : W p l e R s m args below meth c H locs cells slots Q (F0 m pn ls (v :: v :: st))) : W p l e R s m args below meth c H locs cells slots Q (F0 m pc ls (v :: st)) := by
  obtain ⟨rfl, h2⟩ := okP_at h
  have h : decode (pby y) pc = .ok (.dup, 1) := by simpa using h2
  exact lv_dup C.1 C.2.1 h hv k
theorem so15 {v : Value} (C : mAct p s m args meth c R y D A ρ0 M0) (h : okP (pby y) 15 pc pn = true) (hv : v.category = 1) (k : W p l e R s m args below meth c H locs cells slots Q (F0 m pn ls st)) : W p l e R s m args below meth c H locs cells slots Q (F0 m pc ls (v :: st)) := by
  obtain ⟨rfl, h2⟩ := okP_at h
  have h : decode (pby y) pc = .ok (.pop, 1) := by simpa using h2
  exact lv_pop C.1 C.2.1 h hv k
theorem so16 (C : mAct p s m args meth c R y D A ρ0 M0) (h : ok16 (pby y) pc pt = true) (k : W p l e R s m args below meth c H locs cells slots Q (F0 m pt ls st)) : W p l e R s m args below meth c H locs cells slots Q (F0 m pc ls st) := by
  unfold ok16 at h
  split at h
  · rename_i n hd
    rw [decide_eq_true_eq] at h
    exact lv_goto C.1 C.2.1 hd h k
  · cases h
theorem so17 {b : Nat} {x : Int32} (C : mAct p s m args meth c R y D A ρ0 M0) (h : ok17 (pby y) b pc pt pn = true) (k1 : (mCc b x 0).1 → W p l e R s m args below meth c H locs cells slots Q (F0 m pt ls st)) (k2 : ¬ (mCc b x 0).1 → W p l e R s m args below meth c H locs cells slots Q (F0 m pn ls st)) : W p l e R s m args below meth c H locs cells slots Q (F0 m pc ls (.int x :: st)) := by
  obtain ⟨hx, hb, -⟩ := C
  unfold ok17 at h
  simp only [Bool.and_eq_true, decide_eq_true_eq] at h
  obtain ⟨rfl, h⟩ := h
  split at h <;> rename_i hd
  all_goals (try (simp only [Bool.and_eq_true, decide_eq_true_eq] at h; obtain ⟨rfl, h⟩ := h))
  · exact lv_if_eq hx hb hd h k1 k2
  · exact lv_if_ne hx hb hd h k1 (fun q => k2 (fun z => z q))
  · exact lv_if_lt hx hb hd h k1 k2
  · exact lv_if_ge hx hb hd h k1 k2
  · exact lv_if_gt hx hb hd h k1 k2
  · exact lv_if_le hx hb hd h k1 k2
  · cases h
theorem so18 {b : Nat} {x v : Int32} (C : mAct p s m args meth c R y D A ρ0 M0) (h : ok18 (pby y) b pc pt pn = true) (k1 : (mCc b x v).1 → W p l e R s m args below meth c H locs cells slots Q (F0 m pt ls st)) (k2 : ¬ (mCc b x v).1 → W p l e R s m args below meth c H locs cells slots Q (F0 m pn ls st)) : W p l e R s m args below meth c H locs cells slots Q (F0 m pc ls (.int v :: .int x :: st)) := by
  obtain ⟨hx, hb, -⟩ := C
  unfold ok18 at h
  simp only [Bool.and_eq_true, decide_eq_true_eq] at h
  obtain ⟨rfl, h⟩ := h
  split at h <;> rename_i hd
  all_goals (try (simp only [Bool.and_eq_true, decide_eq_true_eq] at h; obtain ⟨rfl, h⟩ := h))
  · exact lv_icmp_eq hx hb hd h k1 k2
  · exact lv_icmp_ne hx hb hd h k1 (fun q => k2 (fun z => z q))
  · exact lv_icmp_lt hx hb hd h k1 k2
  · exact lv_icmp_ge hx hb hd h k1 k2
  · exact lv_icmp_gt hx hb hd h k1 k2
  · exact lv_icmp_le hx hb hd h k1 k2
  · cases h
theorem okOff_at {pcs : Nat → Nat} : ∀ {os : List Int} {ts : List Nat}, okOff pc pcs os ts = true → os.length = ts.length ∧ ∀ (j t : Nat), ts[j]? = some t → ∃ o : Int, os[j]? = some o ∧ (pc : Int) + o = ((pcs t : Nat) : Int)
  | [], [], _ => ⟨rfl, fun j t h => by simp at h⟩
  | [], _ :: _, h => by cases h
  | _ :: _, [], h => by cases h
  | o :: os, t :: ts, h => by
    simp only [okOff, Bool.and_eq_true, decide_eq_true_eq] at h
    obtain ⟨h1, h2⟩ := okOff_at h.2
    refine ⟨by simp [h1], fun j u hj => ?_⟩
    cases j with
    | zero => cases hj; exact ⟨o, rfl, h.1⟩
    | succ j => exact h2 j u hj
theorem so19 {a b : Nat} {ts : List Nat} {x : Int32} {pcs : Nat → Nat} (C : mAct p s m args meth c R y D A ρ0 M0) (h : ok19 (pby y) pcs a b pc ts = true) (k1 : ∀ (j t : Nat), ts[j]? = some t → x = nI (b + j) → W p l e R s m args below meth c H locs cells slots Q (F0 m (pcs t) ls st)) (k2 : (∀ j, j < ts.length → ¬ x = nI (b + j)) → W p l e R s m args below meth c H locs cells slots Q (F0 m (pcs a) ls st)) : W p l e R s m args below meth c H locs cells slots Q (F0 m pc ls (.int x :: st)) := by
  obtain ⟨hx, hb, -⟩ := C
  unfold ok19 at h
  split at h
  · rename_i d lo hi os len hd
    simp only [Bool.and_eq_true, decide_eq_true_eq] at h
    obtain ⟨rfl, h1, h2, h3, h4⟩ := h
    obtain ⟨h5, h6⟩ := okOff_at h4
    by_cases hin : x.toInt < (b : Int) ∨ hi < x.toInt
    · refine lv_tableOut hx hb hd hin h3 (k2 fun j hj e => ?_)
      have : x.toInt = ((b + j : Nat) : Int) := by rw [e]; exact nI_toInt (by omega)
      omega
    · have g1 : ¬ x.toInt < (b : Int) := fun q => hin (Or.inl q)
      have g2 : ¬ hi < x.toInt := fun q => hin (Or.inr q)
      have g3 : (x.toInt - b).toNat < ts.length := by omega
      obtain ⟨t, ht⟩ : ∃ t, ts[(x.toInt - b).toNat]? = some t := ⟨_, List.getElem?_eq_getElem g3⟩
      obtain ⟨o, ho, hp⟩ := h6 _ t ht
      refine lv_tableIn hx hb hd g1 g2 (by rw [← Array.getElem?_toList]; exact ho) hp (k1 _ t ht ?_)
      have e : x.toInt = (nI (b + (x.toInt - b).toNat)).toInt := by
        rw [nI_toInt (by omega)]
        omega
      exact Int32.toInt_inj.mp e
  · cases h
end OPS
end
section
/-! soundness of fields and arrays -/
noncomputable def oWs (ws : List Cond) : Bool := ws.all (fun w => decide (w ∈ lw_tbl) && goodWord w)
theorem oWs_in {ws : List Cond} (h : oWs ws = true) : ∀ w ∈ ws, w ∈ TB := by
  intro w hw
  have := List.all_eq_true.mp h w hw
  simp only [Bool.and_eq_true, decide_eq_true_eq] at this
  exact List.mem_filter.mpr this
theorem vw_in {ci : Nat} {q : vw_C} (h : vwCl[ci]? = some q) : ∀ w ∈ u_ws q.1 q.2.1 q.2.2, w ∈ TB := by
  match ci, h with
  | 0, h => cases h; exact oWs_in (by decide +kernel)
  | 1, h => cases h; exact oWs_in (by decide +kernel)
  | 2, h => cases h; exact oWs_in (by decide +kernel)
  | 3, h => cases h; exact oWs_in (by decide +kernel)
  | 4, h => cases h; exact oWs_in (by decide +kernel)
  | 5, h => cases h; exact oWs_in (by decide +kernel)
  | 6, h => cases h; exact oWs_in (by decide +kernel)
  | 7, h => cases h; exact oWs_in (by decide +kernel)
  | n + 8, h => simp [vwCl] at h
theorem fits_ref {t : FieldType} (h : fits t (.ref 0) = true) (a : Nat) : narrow t (.ref a) = .ref a ∧ fits t (.ref a) = true := by
  cases t <;> first | exact ⟨rfl, rfl⟩ | (simp [fits] at h)
/-- the fields' names and types -/
theorem vw_ty {ci : Nat} {q : vw_C} (h : vwCl[ci]? = some q) : (∀ a, a < q.2.2 → ∀ b, b < q.2.2 → a ≠ b → (q.2.1 a).2.1 ≠ (q.2.1 b).2.1) ∧ ∃ ty : Nat → FieldType, (∀ k, k < q.2.2 → parseFieldDescriptor (q.2.1 k).2.2.1 = some (ty k)) ∧ (∀ k, k < q.2.2 → mNth 2 (mNth [] pkin ci) k = 1 → fits (ty k) (.ref 0) = true) ∧ (∀ k, k < q.2.2 → defaultValue (ty k) = if mNth 2 (mNth [] pkin ci) k = 0 then .int 0 else .null) ∧ (mNth [] pkin ci).length = q.2.2 ∧ (∀ k, k < q.2.2 → mNth 2 (mNth [] pkin ci) k = 0 ∨ mNth 2 (mNth [] pkin ci) k = 1) := by
  match ci, h with
  | 0, h => cases h; exact ⟨nmX0, tyX0, tyX0_ok, by decide +kernel, by decide +kernel, by decide +kernel, by decide +kernel⟩
  | 1, h => cases h; exact ⟨nmX1, tyX1, tyX1_ok, by decide +kernel, by decide +kernel, by decide +kernel, by decide +kernel⟩
  | 2, h => cases h; exact ⟨nmX2, tyX2, tyX2_ok, by decide +kernel, by decide +kernel, by decide +kernel, by decide +kernel⟩
  | 3, h => cases h; exact ⟨nmX3, tyX3, tyX3_ok, by decide +kernel, by decide +kernel, by decide +kernel, by decide +kernel⟩
  | 4, h => cases h; exact ⟨nmX4, tyX4, tyX4_ok, by decide +kernel, by decide +kernel, by decide +kernel, by decide +kernel⟩
  | 5, h => cases h; exact ⟨nmX5, tyX5, tyX5_ok, by decide +kernel, by decide +kernel, by decide +kernel, by decide +kernel⟩
  | 6, h => cases h; exact ⟨nmX6, tyX6, tyX6_ok, by decide +kernel, by decide +kernel, by decide +kernel, by decide +kernel⟩
  | 7, h => cases h; exact ⟨nmX7, tyX7, tyX7_ok, by decide +kernel, by decide +kernel, by decide +kernel, by decide +kernel⟩
  | n + 8, h => simp [vwCl] at h
theorem mFV_get {ρ : mRho} {ks rs : List Nat} {f : Nat → Int32} {a : Nat} (h : ¬ mNth 2 ks a = 2) : (mFV ρ ks rs f)[a]? = some (if mNth 2 ks a = 0 then .int (f a) else mTr ρ (mRef (mNth 0 rs a))) := by
  have hl : a < ks.length := by
    rcases Nat.lt_or_ge a ks.length with q | q
    · exact q
    · exact absurd (mNth_far 2 ks a q) h
  unfold mFV
  rw [List.getElem?_map, List.getElem?_range hl]
  rfl
theorem mFV_len {ρ : mRho} {ks rs : List Nat} {f : Nat → Int32} : (mFV ρ ks rs f).length = ks.length := by simp [mFV]
theorem mFV_upd {ρ : mRho} {ks rs : List Nat} {f : Nat → Int32} {a : Nat} {v : Int32} (h : mNth 2 ks a = 0) : mFV ρ ks rs (upd f a v) = (mFV ρ ks rs f).set a (.int v) := by
  have hl : a < ks.length := by
    rcases Nat.lt_or_ge a ks.length with q | q
    · exact q
    · rw [mNth_far 2 ks a q] at h; cases h
  apply List.ext_getElem?
  intro i
  by_cases hi : i = a
  · subst hi
    rw [List.getElem?_set_self (by rw [mFV_len]; exact hl), mFV_get (by rw [h]; decide), if_pos h]
    simp [upd]
  · rw [List.getElem?_set_ne (Ne.symm hi)]
    unfold mFV
    rw [List.getElem?_map, List.getElem?_map]
    rcases Nat.lt_or_ge i ks.length with q | q
    · rw [List.getElem?_range q]
      simp [upd, hi]
    · rw [List.getElem?_eq_none_iff.mpr (by simpa using q)]
      rfl
theorem mFV_lnk {ρ : mRho} {ks rs : List Nat} {f : Nat → Int32} {a r : Nat} (h : mNth 2 ks a = 1) (hr : a < rs.length) : mFV ρ ks (mPut rs a (r + 1)) f = (mFV ρ ks rs f).set a (.ref (ρ r).1) := by
  have hl : a < ks.length := by
    rcases Nat.lt_or_ge a ks.length with q | q
    · exact q
    · rw [mNth_far 2 ks a q] at h; cases h
  obtain ⟨z, hz⟩ : ∃ z, rs[a]? = some z := ⟨_, List.getElem?_eq_getElem hr⟩
  apply List.ext_getElem?
  intro i
  by_cases hi : i = a
  · subst hi
    rw [List.getElem?_set_self (by rw [mFV_len]; exact hl), mFV_get (by rw [h]; decide), if_neg (by rw [h]; decide)]
    have : mNth 0 (mPut rs i (r + 1)) i = r + 1 := by rw [mNth_get, mPut_at hz]; simp
    rw [this]
    rfl
  · rw [List.getElem?_set_ne (Ne.symm hi)]
    unfold mFV
    rw [List.getElem?_map, List.getElem?_map]
    rcases Nat.lt_or_ge i ks.length with q | q
    · rw [List.getElem?_range q]
      have : mNth 0 (mPut rs a (r + 1)) i = mNth 0 rs i := by rw [mNth_get, mNth_get, mPut_at hz, if_neg hi]
      simp [this]
    · rw [List.getElem?_eq_none_iff.mpr (by simpa using q)]
      rfl
theorem pcon_kd : ∀ q ∈ pcon, q.1 = 5 ∨ q.1 = 6 ∨ q.1 = 7 ∨ q.1 = 9 := by decide +kernel
/-- what a place is: of the world, or of what was there before -/
theorem mAt_or {sh : List mSC} {a : Nat} (hk : ∀ q ∈ sh, q.1 ≤ 4) (h9 : ¬ (mAt pcon sh a).1 = 9) : (sh[a]? = some (mAt pcon sh a) ∧ (mAt pcon sh a).1 ≤ 4) ∨ (∃ j, a = 1000 + j ∧ pcon[j]? = some (mAt pcon sh a) ∧ ((mAt pcon sh a).1 = 5 ∨ (mAt pcon sh a).1 = 6 ∨ (mAt pcon sh a).1 = 7)) := by
  by_cases ha : a < 1000
  · have e : mAt pcon sh a = mNth (9, 0, []) sh a := if_pos ha
    rw [e] at h9 ⊢
    have g := mNth_some (d := (9, 0, [])) (l := sh) (n := a) rfl (fun q => h9 (by rw [q]))
    exact Or.inl ⟨g, hk _ (List.mem_of_getElem? g)⟩
  · have e : mAt pcon sh a = mNth (9, 0, []) pcon (a - 1000) := if_neg ha
    rw [e] at h9 ⊢
    have g := mNth_some (d := (9, 0, [])) (l := pcon) (n := a - 1000) rfl (fun q => h9 (by rw [q]))
    refine Or.inr ⟨a - 1000, by omega, g, ?_⟩
    have := pcon_kd _ (List.mem_of_getElem? g)
    simpa [h9] using this
theorem mK1 {D : va_G} {s : State} {cA : ClassId} {ty : FieldType} (hK : va_K D vwCl [] s) (h : ArrOfT s cA ty ∧ va_RA s cA ty) : va_K D vwCl [(cA, ty)] s := ⟨hK.1, fun k q hk => by
  cases k with
  | zero => cases hk; exact h
  | succ k => simp at hk⟩
theorem mK2 {D : va_G} {s : State} {cA cB : ClassId} {ty tz : FieldType} (hK : va_K D vwCl [] s) (h : ArrOfT s cA ty ∧ va_RA s cA ty) (h2 : ArrOfT s cB tz ∧ va_RA s cB tz) : va_K D vwCl [(cA, ty), (cB, tz)] s := ⟨hK.1, fun k q hk => by
  match k, hk with
  | 0, hk => cases hk; exact h
  | 1, hk => cases hk; exact h2
  | k + 2, hk => simp at hk⟩
section OPS
variable {p : Program} {l : Launch} {e : Env} {R : Room} {s : State} {m : MethodId} {args : Array Value} {below : List Frame} {meth : Method} {c : Code} {Q : State → Prop} {y : Nat} {D : va_G} {A : Nat → Prop} {ρ0 : mRho} {M0 : mMI} {sh0 : List mSC} {ρ : mRho} {sh : List mSC} {M : mMI} {J : mMJ} {nc ns : Nat} {H : Heap} {locs : List Loc} {ls : Array Slot} {st : List Value} {pc pn : Nat} {hs : List Nat}
/-- getfield of an object of the world -/
theorem so20 {ci a b o : Nat} {cell : mSC} {v : Value} (C : mAct p s m args meth c R y D A ρ0 M0) (I : mHI s y D A ρ0 M0 sh0 ρ sh M J nc ns H locs) (h : ok20 (pby y) (pnm y).cls hs ci a b pc pn = true) (hc : sh[o]? = some cell) (hk : cell.1 = 0) (hci : cell.2.1 = ci) (hv : (b = 0 ∧ v = .int (M o a)) ∨ (¬ b = 0 ∧ ∃ r, mNth 0 cell.2.2 a = r + 1 ∧ v = .ref r)) (k : W p l e R s m args below meth c H locs nc ns Q (F0 m pn ls (mTr ρ v :: st))) : W p l e R s m args below meth c H locs nc ns Q (F0 m pc ls (.ref (ρ o).1 :: st)) := by
  obtain ⟨hx, hb, hml, hown, hts, hnm, hA, hK, hCF, -⟩ := C
  obtain ⟨hP, hD, hS, -⟩ := I
  have hw := mWd_at (ρ := ρ) (M := M) (J := J) hc
  have ecell : mCell ρ M J o cell = .inr (ci, mFV ρ (mNth [] pkin ci) cell.2.2 (M o)) := by rw [mCell_0 hk, hci]
  rw [ecell] at hw
  obtain ⟨q, hq, -⟩ := hP o _ hw
  unfold ok20 at h
  simp only [Bool.and_eq_true, decide_eq_true_eq] at h
  obtain ⟨rfl, h⟩ := h
  split at h
  · rename_i kx hd
    split at h
    · simp [vwCl] at hq
    · split at h
      · rename_i f hf
        unfold oF at hf
        have hq' : vwCl[ci]? = some q := hq
        rw [hq'] at hf
        dsimp only at hf
        split at hf
        · rename_i hlt
          cases hf
          simp only [Bool.and_eq_true, decide_eq_true_eq] at h
          have hv2 : (mFV ρ (mNth [] pkin ci) cell.2.2 (M o))[a]? = some (mTr ρ v) := by
            rcases hv with ⟨hb0, rfl⟩ | ⟨hb0, r, hr, rfl⟩
            · have h0 : mNth 2 (mNth [] pkin ci) a = 0 := by
                rcases h.2 with g | g
                · exact g.2
                · exact absurd hb0 g.1
              rw [mFV_get (by rw [h0]; decide), if_pos h0]
              rfl
            · have h0 : mNth 2 (mNth [] pkin ci) a = 1 := by
                rcases h.2 with g | g
                · exact absurd g.1 hb0
                · exact g.2
              rw [mFV_get (by rw [h0]; decide), if_neg (by rw [h0]; decide), hr]
              rfl
          exact va_get hx hb hts (vw_in hq') hown hK hP o hw hq' a hlt (hts _ (oW_in h.1)) (fun _ z => z) hv2 hd k
        · cases hf
      · cases h
  · cases h
/-- getfield of a text that was there before -/
theorem so20s {a b j : Nat} {cell : mSC} {v : Value} (C : mAct p s m args meth c R y D A ρ0 M0) (I : mHI s y D A ρ0 M0 sh0 ρ sh M J nc ns H locs) (h : ok20 (pby y) (pnm y).cls hs 8 a b pc pn = true) (hc : pcon[j]? = some cell) (hk : cell.1 = 7) (hv : (b = 0 ∧ v = .int 0) ∨ (¬ b = 0 ∧ ∃ r, mNth 0 cell.2.2 a = r + 1 ∧ v = .ref r)) (hp : ∀ r, mNth 0 cell.2.2 0 = r + 1 → 999 ≤ r) (k : W p l e R s m args below meth c H locs nc ns Q (F0 m pn ls (mTr ρ v :: st))) : W p l e R s m args below meth c H locs nc ns Q (F0 m pc ls (.ref (ρ (1000 + j)).1 :: st)) := by
  obtain ⟨hx, hb, hml, hown, hts, hnm, hA, hK, hCF, -⟩ := C
  obtain ⟨hP, hD, hS, hAF, hM, hkd, hpl, hρ, -⟩ := I
  have g := mCC_7 hk (hCF.1 j cell hc)
  rw [hρ (1000 + j) (Or.inr (by omega))]
  unfold ok20 at h
  simp only [Bool.and_eq_true, decide_eq_true_eq] at h
  obtain ⟨rfl, h⟩ := h
  split at h
  · rename_i kx hd
    simp only [Bool.or_eq_true, Bool.and_eq_true, decide_eq_true_eq] at h
    rcases h with ⟨⟨rfl, hb0⟩, hw⟩ | ⟨⟨rfl, hb0⟩, hw⟩
    · rcases hv with ⟨q, -⟩ | ⟨-, r, hr, rfl⟩
      · exact absurd q hb0
      · have g2 := g.2.1
        rw [hr] at g2
        have e : mTr ρ (.ref r) = mTr ρ0 (mRef (r + 1)) := by
          show Value.ref (ρ r).1 = Value.ref (ρ0 r).1
          rw [hρ r (Or.inr (hp r hr))]
        rw [e] at k
        exact vk_getf hx hb g2 hS hown (hts _ (oW_in hw)) (fun _ z => z) hd k
    · rcases hv with ⟨-, rfl⟩ | ⟨q, -⟩
      · exact vk_getf hx hb g.2.2 hS hown (hts _ (oW_in hw)) (fun _ z => z) hd k
      · exact absurd hb0 q
  · cases h
end OPS
end
section
/-! soundness of stores, of arrays, of what was there before -/
theorem mUp_at (M : mMI) (o a : Nat) (v : Int32) : mUp M o a v o = upd (M o) a v := if_pos rfl
theorem mUp_ne (M : mMI) {o a k : Nat} {v : Int32} (h : k ≠ o) : mUp M o a v k = M k := if_neg h
theorem mUpJ_at (M : mMJ) (o a : Nat) (v : Int64) : mUpJ M o a v o = vp_updL (M o) a v := if_pos rfl
theorem mUpJ_ne (M : mMJ) {o a k : Nat} {v : Int64} (h : k ≠ o) : mUpJ M o a v k = M k := if_neg h
theorem mSet_at (M : mMI) (o : Nat) (f : Nat → Int32) : mSet M o f o = f := if_pos rfl
theorem mSet_ne (M : mMI) {o k : Nat} {f : Nat → Int32} (h : k ≠ o) : mSet M o f k = M k := if_neg h
theorem mSetJ_at (M : mMJ) (o : Nat) (f : Nat → Int64) : mSetJ M o f o = f := if_pos rfl
theorem mSetJ_ne (M : mMJ) {o k : Nat} {f : Nat → Int64} (h : k ≠ o) : mSetJ M o f k = M k := if_neg h
theorem mHI.upd {s : State} {y : Nat} {D : va_G} {A : Nat → Prop} {ρ0 : mRho} {M0 : mMI} {sh0 : List mSC} {ρ : mRho} {sh : List mSC} {M M2 : mMI} {J J2 : mMJ} {nc ns : Nat} {H H1 : Heap} {locs locs1 : List Loc} (I : mHI s y D A ρ0 M0 sh0 ρ sh M J nc ns H locs) (hP : va_P D vwCl (mWd ρ M2 J2 sh) H1) (hD : va_D A (mWd ρ M2 J2 sh)) (hS : va_S A s.heap H1 locs1) (hM : ∀ k, 999 ≤ k → M2 k = M k) : mHI s y D A ρ0 M0 sh0 ρ sh M2 J2 nc ns H1 locs1 := by
  obtain ⟨-, -, -, h4, h5, h6, h7⟩ := I
  exact ⟨hP, hD, hS, h4, fun k hk => (hM k hk).trans (h5 k hk), h6, h7⟩
theorem sh_lt {sh : List mSC} {o : Nat} {cell : mSC} (h : sh[o]? = some cell) : o < sh.length := (List.getElem?_eq_some_iff.mp h).1
theorem mLenI_0 {c : mSC} {M : mMI} {n : Nat} (h : mLenI 0 c M = some n) : (c.1 = 1 ∧ n = c.2.1) ∨ (c.1 = 5 ∧ n = (match c.2.1 with | 0 => (M 999 0).toNatClampNeg | k + 1 => k + 1)) := by
  obtain ⟨k1, k2, k3⟩ := c
  match k1, h with
  | 0, h => cases h
  | 1, h => cases h; exact Or.inl ⟨rfl, rfl⟩
  | 2, h => cases h
  | 3, h => cases h
  | 4, h => cases h
  | 5, h => exact Or.inr ⟨rfl, by cases k2 <;> (cases h; rfl)⟩
  | n + 6, h => cases h
theorem mLenI_1 {c : mSC} {M : mMI} {n : Nat} (h : mLenI 1 c M = some n) : (c.1 = 3 ∨ c.1 = 6) ∧ n = c.2.1 := by
  obtain ⟨k1, k2, k3⟩ := c
  match k1, h with
  | 0, h => cases h
  | 1, h => cases h
  | 2, h => cases h
  | 3, h => cases h; exact ⟨Or.inl rfl, rfl⟩
  | 4, h => cases h
  | 5, h => cases h
  | 6, h => cases h; exact ⟨Or.inr rfl, rfl⟩
  | n + 7, h => cases h
theorem mLn_at {c : mSC} {M : mMI} {n : Int32} (h : mLn c M = some n) : ((c.1 = 1 ∨ c.1 = 6) ∧ n = Int32.ofNat c.2.1) ∨ (c.1 = 5 ∧ ((c.2.1 = 0 ∧ n = M 999 0) ∨ ∃ k, c.2.1 = k + 1 ∧ n = Int32.ofNat (k + 1))) := by
  obtain ⟨k1, k2, k3⟩ := c
  match k1, h with
  | 0, h => cases h
  | 1, h => cases h; exact Or.inl ⟨Or.inl rfl, rfl⟩
  | 2, h => cases h
  | 3, h => cases h
  | 4, h => cases h
  | 5, h =>
    refine Or.inr ⟨rfl, ?_⟩
    cases k2 with
    | zero => cases h; exact Or.inl ⟨rfl, rfl⟩
    | succ k => cases h; exact Or.inr ⟨k, rfl, rfl⟩
  | 6, h => cases h; exact Or.inl ⟨Or.inr rfl, rfl⟩
  | n + 7, h => cases h
theorem mAt1_i {c : mSC} (h : c.1 = 1) : mAt1 c = some .int := by
  obtain ⟨k1, k2, k3⟩ := c
  cases h
  rfl
theorem mAt1_j {c : mSC} (h : c.1 = 2) : mAt1 c = some .long := by
  obtain ⟨k1, k2, k3⟩ := c
  cases h
  rfl
theorem mAt1_z {c : mSC} (h : c.1 = 3) : mAt1 c = some .boolean := by
  obtain ⟨k1, k2, k3⟩ := c
  cases h
  rfl
theorem mAt1_r {c : mSC} (h : c.1 = 4) : mAt1 c = some (.object "PotAndFine$Kept") := by
  obtain ⟨k1, k2, k3⟩ := c
  cases h
  rfl
section OPS
variable {p : Program} {l : Launch} {e : Env} {R : Room} {s : State} {m : MethodId} {args : Array Value} {below : List Frame} {meth : Method} {c : Code} {Q : State → Prop} {y : Nat} {D : va_G} {A : Nat → Prop} {ρ0 : mRho} {M0 : mMI} {sh0 : List mSC} {ρ : mRho} {sh : List mSC} {M : mMI} {J : mMJ} {nc ns : Nat} {H : Heap} {locs : List Loc} {ls : Array Slot} {st : List Value} {pc pn : Nat} {hs : List Nat}
theorem okPut_at {ci a r : Nat} {z : Bool} {q : vw_C} (hq : vwCl[ci]? = some q) (h : okPut (pby y) (pnm y).cls (pnm y).name hs ci a pc z r = true) : ∃ kx, decode (pby y) pc = .ok (.putfield kx, 3) ∧ a < q.2.2 ∧ Cond.fieldLink (pnm y).cls kx (q.2.1 a).1 (q.2.1 a).2.1 (q.2.1 a).2.2.1 ∈ TB ∧ mNth 2 (mNth [] pkin ci) a = r ∧ ((q.2.1 a).2.2.2 = false ∨ ((pnm y).name = "<init>" ∧ (q.2.1 a).1 = (pnm y).cls)) ∧ (r = 1 ∨ (q.2.1 a).2.2.1 = (if z then "Z" else "I")) := by
  unfold okPut at h
  split at h
  · rename_i kx hd
    split at h
    · rename_i f hf
      unfold oF at hf
      rw [hq] at hf
      dsimp only at hf
      split at hf
      · rename_i hlt
        cases hf
        simp only [Bool.and_eq_true, Bool.or_eq_true, decide_eq_true_eq] at h
        exact ⟨kx, hd, hlt, oW_in h.1, h.2.1, h.2.2.1, h.2.2.2⟩
      · cases hf
    · cases h
  · cases h
/-- a number is put into a field -/
theorem so21 {ci a o : Nat} {cell : mSC} {v : Int32} {z : Bool} (C : mAct p s m args meth c R y D A ρ0 M0) (I : mHI s y D A ρ0 M0 sh0 ρ sh M J nc ns H locs) (h : okPut (pby y) (pnm y).cls (pnm y).name hs ci a pc z 0 = true) (hc : sh[o]? = some cell) (hk : cell.1 = 0) (hci : cell.2.1 = ci) (hz : z = true → v = 0 ∨ v = 1) (k : ∀ (H1 : Heap) (locs1 : List Loc), mHI s y D A ρ0 M0 sh0 ρ sh (mUp M o a v) J nc ns H1 locs1 → W p l e R s m args below meth c H1 locs1 nc ns Q (F0 m (pc + 3) ls st)) : W p l e R s m args below meth c H locs nc ns Q (F0 m pc ls (.int v :: .ref (ρ o).1 :: st)) := by
  obtain ⟨hx, hb, hml, hown, hts, hnm, hA, hK, hCF, -⟩ := C
  have I0 := I
  obtain ⟨hP, hD, hS, hAF, hM, hkd, -⟩ := I
  have hol := sh_lt hc
  have hw := mWd_at (ρ := ρ) (M := M) (J := J) hc
  rw [mCell_0 hk, hci] at hw
  obtain ⟨q, hq, -⟩ := hP o _ hw
  have hq : vwCl[ci]? = some q := hq
  obtain ⟨kx, hd, hlt, hlk, hr, hfin, hds⟩ := okPut_at hq h
  obtain ⟨hnames, ty, hty, -⟩ := vw_ty hq
  have hds : (q.2.1 a).2.2.1 = (if z then "Z" else "I") := hds.resolve_left (by decide)
  have hd2 : ∃ ty1, parseFieldDescriptor (q.2.1 a).2.2.1 = some ty1 ∧ narrow ty1 (.int v) = .int v ∧ fits ty1 (.int v) = true := by
    rw [hds]
    cases z with
    | false => exact ⟨.int, by decide +kernel, rfl, rfl⟩
    | true =>
      rcases hz rfl with rfl | rfl
      · exact ⟨.boolean, by decide +kernel, by decide +kernel, by decide +kernel⟩
      · exact ⟨.boolean, by decide +kernel, by decide +kernel, by decide +kernel⟩
  obtain ⟨ty1, g1, g2, g3⟩ := hd2
  have hlen : a < (mFV ρ (mNth [] pkin ci) cell.2.2 (M o)).length := by
    rw [mFV_len]
    rcases Nat.lt_or_ge a (mNth [] pkin ci).length with t | t
    · exact t
    · rw [mNth_far 2 _ a t] at hr; cases hr
  have ew : (mWd ρ M J sh).set o ((ρ o).1, .inr (ci, (mFV ρ (mNth [] pkin ci) cell.2.2 (M o)).set a (.int v))) = mWd ρ (mUp M o a v) J sh := by
    rw [mWd_set (M := M) (J := J) (M2 := mUp M o a v) (J2 := J) hc (fun k hk => mUp_ne M hk) (fun _ _ => rfl), mCell_0 hk, hci, mUp_at, mFV_upd hr]
  have fin : ∀ (H1 : Heap) (locs1 : List Loc), va_P D vwCl ((mWd ρ M J sh).set o ((ρ o).1, .inr (ci, (mFV ρ (mNth [] pkin ci) cell.2.2 (M o)).set a (.int v)))) H1 → va_D A ((mWd ρ M J sh).set o ((ρ o).1, .inr (ci, (mFV ρ (mNth [] pkin ci) cell.2.2 (M o)).set a (.int v)))) → va_S A s.heap H1 locs1 → W p l e R s m args below meth c H1 locs1 nc ns Q (F0 m (pc + 3) ls st) := by
    intro H1 locs1 hP1 hD1 hS1
    rw [ew] at hP1 hD1
    exact k H1 locs1 (I0.upd hP1 hD1 hS1 (fun k hk => mUp_ne M (by omega)))
  rcases hfin with hf | ⟨hf1, hf2⟩
  · exact va_put hx hb hts (vw_in hq) ty hty hnames hown hK hP hD hS o hw hq a hlt (hts _ hlk) (fun _ z => z) hf g1 g2 g3 hlen hd fin
  · by_cases hf : (q.2.1 a).2.2.2 = false
    · exact va_put hx hb hts (vw_in hq) ty hty hnames hown hK hP hD hS o hw hq a hlt (hts _ hlk) (fun _ z => z) hf g1 g2 g3 hlen hd fin
    · exact va_putF hx hb hts (vw_in hq) ty hty hnames hown hK hP hD hS o hw hq a hlt (hts _ hlk) (fun _ z => z) (by simpa using hf) (hnm.trans hf1) hf2 g1 g2 g3 hlen hd fin
/-- a static row or a text -/
theorem so22 {a : Nat} (C : mAct p s m args meth c R y D A ρ0 M0) (I : mHI s y D A ρ0 M0 sh0 ρ sh M J nc ns H locs) (h : ok22 (pby y) (pnm y).cls hs a pc pn = true) (k : W p l e R s m args below meth c H locs nc ns Q (F0 m pn ls (.ref (ρ a).1 :: st))) : W p l e R s m args below meth c H locs nc ns Q (F0 m pc ls st) := by
  obtain ⟨hx, hb, hml, hown, hts, hnm, hA, hK, hCF, -⟩ := C
  obtain ⟨hP, hD, hS, hAF, hM, hkd, hpl, hρ, -⟩ := I
  have pl1 : ∀ q ∈ pSt, 999 ≤ q.1 := by decide +kernel
  have pl2 : ∀ q ∈ pTx, 999 ≤ q.2.2 := by decide +kernel
  unfold ok22 at h
  split at h
  · rename_i kx hd
    simp only [Bool.and_eq_true, decide_eq_true_eq] at h
    obtain ⟨rfl, h⟩ := h
    split at h
    · rename_i q hq
      have hq1 := List.mem_of_find?_eq_some hq
      have hq2 : q.1 = a := by simpa using List.find?_some hq
      subst hq2
      rw [hρ q.1 (Or.inr (pl1 q hq1))] at k
      simp only [Bool.or_eq_true] at h
      rcases h with h | h
      · exact va_gets hx hb (hCF.2.1 q hq1) hS hown (hts _ (oW_in h)) (fun _ z => z) hd k
      · have hn := hCF.2.2.2.2.1 _ (of_decide_eq_true h)
        exact va_getsN hx hb (hCF.2.1 q hq1) hS hown (va_Nw.use rfl hn) (fun _ z => z) hd k
    · cases h
  · rename_i kx hd
    simp only [Bool.and_eq_true, decide_eq_true_eq] at h
    obtain ⟨rfl, ho, h⟩ := h
    split at h
    · rename_i q hq
      have hq1 := List.mem_of_find?_eq_some hq
      have hq2 : q.2.2 = a := by simpa using List.find?_some hq
      subst hq2
      rw [decide_eq_true_eq] at h
      subst h
      rw [hρ q.2.2 (Or.inr (pl2 q hq1))] at k
      exact va_ldcS hx hb (ho ▸ hown) (hCF.2.2.1 q hq1) hd k
    · cases h
  · cases h
/-- reading a row of numbers -/
theorem so23 {a b n : Nat} {x : Int32} (C : mAct p s m args meth c R y D A ρ0 M0) (I : mHI s y D A ρ0 M0 sh0 ρ sh M J nc ns H locs) (h : ok23 (pby y) b pc pn = true) (hn : mLenI b (mAt pcon sh a) M = some n) (hin : mIn x n) (k : W p l e R s m args below meth c H locs nc ns Q (F0 m pn ls (.int (M a x.toNatClampNeg) :: st))) : W p l e R s m args below meth c H locs nc ns Q (F0 m pc ls (.int x :: .ref (ρ a).1 :: st)) := by
  obtain ⟨hx, hb, hml, hown, hts, hnm, hA, hK, hCF, -⟩ := C
  obtain ⟨hP, hD, hS, hAF, hM, hkd, hpl, hρ, -⟩ := I
  unfold ok23 at h
  simp only [Bool.and_eq_true, decide_eq_true_eq] at h
  obtain ⟨rfl, h⟩ := h
  split at h <;> rename_i hd
  · rw [decide_eq_true_eq] at h
    subst h
    rcases mLenI_0 hn with ⟨hk, rfl⟩ | ⟨hk, rfl⟩
    · rcases mAt_or hkd.2 (by rw [hk]; decide) with ⟨h1, -⟩ | ⟨j, -, -, h1⟩
      · have hw := mWd_at (ρ := ρ) (M := M) (J := J) h1
        rw [mCell_1 (Or.inl hk)] at hw
        exact va_iald hx hb (mK1 hK (hAF a _ .int h1 (mAt1_i hk))) hP a 0 hw rfl hin hd k
      · rw [hk] at h1
        simp at h1
    · rcases mAt_or hkd.2 (by rw [hk]; decide) with ⟨-, h1⟩ | ⟨j, rfl, h1, -⟩
      · rw [hk] at h1
        simp at h1
      · have g := mCC_5 hk (hCF.1 j _ h1)
        rw [hM (1000 + j) (by omega)] at k
        rw [hρ (1000 + j) (Or.inr (by omega))]
        rw [hM 999 (by omega)] at hin
        exact va_ti hx hb g hS hin rfl hd k
  · rw [decide_eq_true_eq] at h
    subst h
    obtain ⟨hk, rfl⟩ := mLenI_1 hn
    rcases hk with hk | hk
    · rcases mAt_or hkd.2 (by rw [hk]; decide) with ⟨h1, -⟩ | ⟨j, -, -, h1⟩
      · have hw := mWd_at (ρ := ρ) (M := M) (J := J) h1
        rw [mCell_1 (Or.inr hk)] at hw
        exact va_zald hx hb (mK1 hK (hAF a _ .boolean h1 (mAt1_z hk))) hP a 0 hw rfl hin hd k
      · rw [hk] at h1
        simp at h1
    · rcases mAt_or hkd.2 (by rw [hk]; decide) with ⟨-, h1⟩ | ⟨j, rfl, h1, -⟩
      · rw [hk] at h1
        simp at h1
      · have g := mCC_6 hk (hCF.1 j _ h1)
        rw [hM (1000 + j) (by omega)] at k
        rw [hρ (1000 + j) (Or.inr (by omega))]
        exact va_tb hx hb g hS hin rfl hd k
  · cases h
theorem so24 {a : Nat} {x : Int32} (C : mAct p s m args meth c R y D A ρ0 M0) (I : mHI s y D A ρ0 M0 sh0 ρ sh M J nc ns H locs) (h : okP (pby y) 24 pc pn = true) (hk : (mAt pcon sh a).1 = 2) (hin : mIn x (mAt pcon sh a).2.1) (k : W p l e R s m args below meth c H locs nc ns Q (F0 m pn ls (.long (J a x.toNatClampNeg) :: st))) : W p l e R s m args below meth c H locs nc ns Q (F0 m pc ls (.int x :: .ref (ρ a).1 :: st)) := by
  obtain ⟨rfl, h2⟩ := okP_at h
  have h : decode (pby y) pc = .ok (.laload, 1) := by simpa using h2
  obtain ⟨hx, hb, hml, hown, hts, hnm, hA, hK, hCF, -⟩ := C
  obtain ⟨hP, hD, hS, hAF, hM, hkd, hpl, hρ, -⟩ := I
  rcases mAt_or hkd.2 (by rw [hk]; decide) with ⟨h1, -⟩ | ⟨j, -, -, h1⟩
  · have hw := mWd_at (ρ := ρ) (M := M) (J := J) h1
    rw [mCell_2 hk] at hw
    exact va_lald hx hb (mK1 hK (hAF a _ .long h1 (mAt1_j hk))) hP a 0 hw rfl hin h k
  · rw [hk] at h1
    simp at h1
theorem so26 {a : Nat} {x v : Int32} (C : mAct p s m args meth c R y D A ρ0 M0) (I : mHI s y D A ρ0 M0 sh0 ρ sh M J nc ns H locs) (h : okP (pby y) 26 pc pn = true) (hk : (mAt pcon sh a).1 = 1) (hin : mIn x (mAt pcon sh a).2.1) (k : ∀ (H1 : Heap) (locs1 : List Loc), mHI s y D A ρ0 M0 sh0 ρ sh (mUp M a x.toNatClampNeg v) J nc ns H1 locs1 → W p l e R s m args below meth c H1 locs1 nc ns Q (F0 m pn ls st)) : W p l e R s m args below meth c H locs nc ns Q (F0 m pc ls (.int v :: .int x :: .ref (ρ a).1 :: st)) := by
  obtain ⟨rfl, h2⟩ := okP_at h
  have h : decode (pby y) pc = .ok (.iastore, 1) := by simpa using h2
  obtain ⟨hx, hb, hml, hown, hts, hnm, hA, hK, hCF, -⟩ := C
  have I0 := I
  obtain ⟨hP, hD, hS, hAF, hM, hkd, hpl, hρ, -⟩ := I
  rcases mAt_or hkd.2 (by rw [hk]; decide) with ⟨h1, -⟩ | ⟨j, -, -, h1⟩
  · have hw := mWd_at (ρ := ρ) (M := M) (J := J) h1
    have hl := sh_lt h1
    rw [mCell_1 (Or.inl hk)] at hw
    refine va_iast hx hb (mK1 hK (hAF a _ .int h1 (mAt1_i hk))) hP hD hS a 0 hw rfl hin h (fun H1 locs1 hP1 hD1 hS1 => ?_)
    have ew : (mWd ρ M J sh).set a ((ρ a).1, .inl ((ρ a).2, (mAt pcon sh a).2.1, .inl (upd (M a) x.toNatClampNeg v))) = mWd ρ (mUp M a x.toNatClampNeg v) J sh := by
      rw [mWd_set (M := M) (J := J) (M2 := mUp M a x.toNatClampNeg v) (J2 := J) h1 (fun k hk => mUp_ne M hk) (fun _ _ => rfl), mCell_1 (Or.inl hk), mUp_at]
    rw [ew] at hP1 hD1
    exact k H1 locs1 (I0.upd hP1 hD1 hS1 (fun k hk => mUp_ne M (by omega)))
  · rw [hk] at h1
    simp at h1
theorem so27 {a : Nat} {x : Int32} {v : Int64} (C : mAct p s m args meth c R y D A ρ0 M0) (I : mHI s y D A ρ0 M0 sh0 ρ sh M J nc ns H locs) (h : okP (pby y) 27 pc pn = true) (hk : (mAt pcon sh a).1 = 2) (hin : mIn x (mAt pcon sh a).2.1) (k : ∀ (H1 : Heap) (locs1 : List Loc), mHI s y D A ρ0 M0 sh0 ρ sh M (mUpJ J a x.toNatClampNeg v) nc ns H1 locs1 → W p l e R s m args below meth c H1 locs1 nc ns Q (F0 m pn ls st)) : W p l e R s m args below meth c H locs nc ns Q (F0 m pc ls (.long v :: .int x :: .ref (ρ a).1 :: st)) := by
  obtain ⟨rfl, h2⟩ := okP_at h
  have h : decode (pby y) pc = .ok (.lastore, 1) := by simpa using h2
  obtain ⟨hx, hb, hml, hown, hts, hnm, hA, hK, hCF, -⟩ := C
  have I0 := I
  obtain ⟨hP, hD, hS, hAF, hM, hkd, hpl, hρ, -⟩ := I
  rcases mAt_or hkd.2 (by rw [hk]; decide) with ⟨h1, -⟩ | ⟨j, -, -, h1⟩
  · have hw := mWd_at (ρ := ρ) (M := M) (J := J) h1
    have hl := sh_lt h1
    rw [mCell_2 hk] at hw
    refine va_last hx hb (mK1 hK (hAF a _ .long h1 (mAt1_j hk))) hP hD hS a 0 hw rfl hin h (fun H1 locs1 hP1 hD1 hS1 => ?_)
    have ew : (mWd ρ M J sh).set a ((ρ a).1, .inl ((ρ a).2, (mAt pcon sh a).2.1, .inr (.inl (vp_updL (J a) x.toNatClampNeg v)))) = mWd ρ M (mUpJ J a x.toNatClampNeg v) sh := by
      rw [mWd_set (M := M) (J := J) (M2 := M) (J2 := mUpJ J a x.toNatClampNeg v) h1 (fun _ _ => rfl) (fun k hk => mUpJ_ne J hk), mCell_2 hk, mUpJ_at]
    rw [ew] at hP1 hD1
    exact k H1 locs1 (I0.upd hP1 hD1 hS1 (fun _ _ => rfl))
  · rw [hk] at h1
    simp at h1
theorem so29 {a : Nat} {n : Int32} (C : mAct p s m args meth c R y D A ρ0 M0) (I : mHI s y D A ρ0 M0 sh0 ρ sh M J nc ns H locs) (h : okP (pby y) 29 pc pn = true) (hn : mLn (mAt pcon sh a) M = some n) (k : W p l e R s m args below meth c H locs nc ns Q (F0 m pn ls (.int n :: st))) : W p l e R s m args below meth c H locs nc ns Q (F0 m pc ls (.ref (ρ a).1 :: st)) := by
  obtain ⟨rfl, h2⟩ := okP_at h
  have h : decode (pby y) pc = .ok (.arraylength, 1) := by simpa using h2
  obtain ⟨hx, hb, hml, hown, hts, hnm, hA, hK, hCF, -⟩ := C
  obtain ⟨hP, hD, hS, hAF, hM, hkd, hpl, hρ, -⟩ := I
  rcases mLn_at hn with ⟨hk | hk, rfl⟩ | ⟨hk, hn⟩
  · rcases mAt_or hkd.2 (by rw [hk]; decide) with ⟨h1, -⟩ | ⟨j, -, -, h1⟩
    · have hw := mWd_at (ρ := ρ) (M := M) (J := J) h1
      rw [mCell_1 (Or.inl hk)] at hw
      exact va_alen hx hb (mK1 hK (hAF a _ .int h1 (mAt1_i hk))) hP a 0 hw rfl rfl h k
    · rw [hk] at h1
      simp at h1
  · rcases mAt_or hkd.2 (by rw [hk]; decide) with ⟨-, h1⟩ | ⟨j, rfl, h1, -⟩
    · rw [hk] at h1
      simp at h1
    · have g := mCC_6 hk (hCF.1 j _ h1)
      rw [hρ (1000 + j) (Or.inr (by omega))]
      exact va_tlen hx hb g hS rfl h k
  · rcases mAt_or hkd.2 (by rw [hk]; decide) with ⟨-, h1⟩ | ⟨j, rfl, h1, -⟩
    · rw [hk] at h1
      simp at h1
    · have g := mCC_5 hk (hCF.1 j _ h1)
      rw [hρ (1000 + j) (Or.inr (by omega))]
      rcases hn with ⟨h0, rfl⟩ | ⟨i, h0, rfl⟩
      · rw [h0] at g
        rw [hM 999 (by omega)] at k
        exact va_tlen hx hb g hS hCF.2.2.2.2.2.2 h k
      · rw [h0] at g
        exact va_tlen hx hb g hS rfl h k
end OPS
end
section
/-! soundness of rows of references, of copies, of calls that the kit knows, of makers -/
theorem mRowR_at {c : mSC} (h : mRowR c = true) : c.1 = 4 ∧ c.2.2.length = c.2.1 ∧ c.2.1 < 65536 := by
  unfold mRowR at h
  simp only [Bool.and_eq_true, beq_iff_eq, Nat.blt_eq] at h
  exact h
theorem mObj_at {sh : List mSC} {a ci : Nat} (hk : ∀ q ∈ sh, q.1 ≤ 4) (h : mObj pcon sh a ci = true) : sh[a]? = some (mAt pcon sh a) ∧ (mAt pcon sh a).1 = 0 ∧ (mAt pcon sh a).2.1 = ci := by
  unfold mObj at h
  simp only [Bool.and_eq_true, beq_iff_eq, Nat.blt_eq] at h
  refine ⟨?_, h.2.1, h.2.2⟩
  rcases mAt_or hk (by rw [h.2.1]; decide) with ⟨h1, -⟩ | ⟨j, -, -, h1⟩
  · exact h1
  · rw [h.2.1] at h1
    simp at h1
theorem mRo_rf (ρ : mRho) (r : Nat) : va_rf (mRo ρ r) = mTr ρ (mRef r) := by cases r <;> rfl
section OPS
variable {p : Program} {l : Launch} {e : Env} {R : Room} {s : State} {m : MethodId} {args : Array Value} {below : List Frame} {meth : Method} {c : Code} {Q : State → Prop} {y : Nat} {D : va_G} {A : Nat → Prop} {ρ0 : mRho} {M0 : mMI} {sh0 : List mSC} {ρ : mRho} {sh : List mSC} {M : mMI} {J : mMJ} {nc ns : Nat} {H : Heap} {locs : List Loc} {ls : Array Slot} {st : List Value} {pc pn : Nat} {hs : List Nat}
theorem so25 {a j r : Nat} {x : Int32} (C : mAct p s m args meth c R y D A ρ0 M0) (I : mHI s y D A ρ0 M0 sh0 ρ sh M J nc ns H locs) (h : okP (pby y) 25 pc pn = true) (hk : mRowR (mAt pcon sh a) = true) (hj : (mAt pcon sh a).2.2[j]? = some r) (hx2 : x = nI j) (k : W p l e R s m args below meth c H locs nc ns Q (F0 m pn ls (mTr ρ (mRef r) :: st))) : W p l e R s m args below meth c H locs nc ns Q (F0 m pc ls (.int x :: .ref (ρ a).1 :: st)) := by
  obtain ⟨rfl, h2⟩ := okP_at h
  have h : decode (pby y) pc = .ok (.aaload, 1) := by simpa using h2
  obtain ⟨hx, hb, hml, hown, hts, hnm, hA, hK, hCF, -⟩ := C
  obtain ⟨hP, hD, hS, hAF, hM, hkd, hpl, hρ, -⟩ := I
  obtain ⟨hk1, hk2, hk3⟩ := mRowR_at hk
  have hjl : j < (mAt pcon sh a).2.1 := by rw [← hk2]; exact (List.getElem?_eq_some_iff.mp hj).1
  subst hx2
  rcases mAt_or hkd.2 (by rw [hk1]; decide) with ⟨h1, -⟩ | ⟨i, -, -, h1⟩
  · have hw := mWd_at (ρ := ρ) (M := M) (J := J) h1
    rw [mCell_4 hk1] at hw
    refine va_aldq hx hb (mK1 hK (hAF a _ _ h1 (mAt1_r hk1))) hP a 0 hw rfl (vp_in_nI hjl (by omega)) h ?_
    rw [mRo_rf, nI_clamp (by omega), mNth_get, hj]
    exact k
  · rw [hk1] at h1
    simp at h1
theorem so37 {a : Nat} (C : mAct p s m args meth c R y D A ρ0 M0) (hls : ls.size = (PG.2.1 y).1) (h : ok37 (pby y) (pnm y).cls hs pc pn = true) (hrk : 1 ≤ (PG.2.1 y).2.2.2.1) (hst : (st.map fun v => v.category).sum ≤ 8) (k : W p l e R s m args below meth c H locs nc ns Q (F0 m pn ls st)) : W p l e R s m args below meth c H locs nc ns Q (F0 m pc ls (.ref a :: st)) := by
  obtain ⟨hx, hb, hml, hown, hts, hnm, hA, hK, hCF, hf, hlo, -⟩ := C
  unfold ok37 at h
  split at h
  · rename_i kx hd
    simp only [Bool.and_eq_true, decide_eq_true_eq] at h
    obtain ⟨rfl, h1, h2, h3⟩ := h
    have hroom := lv_room (m := m) (pc := pc) (ls := ls) (rest := .ref a :: st) hst
    exact W.objInit hx hb hown (hts _ (oW_in h1)) (hts _ (oW_in h2)) (hts _ (oW_in h3)) (g := F0 m pc ls (.ref a :: st)) rfl (hls.trans hml.symm) rfl hd (by omega) (by omega) k
  · cases h
theorem so41i {b : Nat} {x v : Int32} (C : mAct p s m args meth c R y D A ρ0 M0) (I : mHI s y D A ρ0 M0 sh0 ρ sh M J nc ns H locs) (hls : ls.size = (PG.2.1 y).1) (h : ok41 (pby y) (pnm y).cls hs b pc pn = true) (hb2 : ¬ b = 2) (hrk : 1 ≤ (PG.2.1 y).2.2.2.1) (hst : (st.map fun v => v.category).sum ≤ 8) (k : W p l e R s m args below meth c H locs nc ns Q (F0 m pn ls (.int (mMx b x v) :: st))) : W p l e R s m args below meth c H locs nc ns Q (F0 m pc ls (.int v :: .int x :: st)) := by
  obtain ⟨hx, hb, hml, hown, hts, hnm, hA, hK, hCF, hf, hlo, hce, hsl⟩ := C
  obtain ⟨-, -, -, -, -, -, -, -, -, hnc, hns⟩ := I
  unfold ok41 at h
  split at h
  · rename_i kx hd
    simp only [Bool.and_eq_true, decide_eq_true_eq] at h
    obtain ⟨rfl, h1, h⟩ := h
    split at h
    · simp only [Bool.and_eq_true] at h
      exact va_mmax hx hb (hml.trans hls.symm) hown (hts _ (oW_in h.1)) (hts _ (oW_in h.2.1)) (hts _ (oW_in h1)) (hts _ (oW_in h.2.2)) (by omega) (by omega) (by omega) (by omega) hd k
    · simp only [Bool.and_eq_true] at h
      exact va_mmin hx hb (hml.trans hls.symm) hown (hts _ (oW_in h.1)) (hts _ (oW_in h.2.1)) (hts _ (oW_in h1)) (hts _ (oW_in h.2.2)) (by omega) (by omega) (by omega) (by omega) hd k
    · exact absurd rfl hb2
    · cases h
  · cases h
theorem so41j {x v : Int64} (C : mAct p s m args meth c R y D A ρ0 M0) (I : mHI s y D A ρ0 M0 sh0 ρ sh M J nc ns H locs) (hls : ls.size = (PG.2.1 y).1) (h : ok41 (pby y) (pnm y).cls hs 2 pc pn = true) (hrk : 1 ≤ (PG.2.1 y).2.2.2.1) (hst : (st.map fun v => v.category).sum ≤ 8) (k : W p l e R s m args below meth c H locs nc ns Q (F0 m pn ls (.long (mMxJ x v) :: st))) : W p l e R s m args below meth c H locs nc ns Q (F0 m pc ls (.long v :: .long x :: st)) := by
  obtain ⟨hx, hb, hml, hown, hts, hnm, hA, hK, hCF, hf, hlo, hce, hsl⟩ := C
  obtain ⟨-, -, -, -, -, -, -, -, -, hnc, hns⟩ := I
  unfold ok41 at h
  split at h
  · rename_i kx hd
    simp only [Bool.and_eq_true, decide_eq_true_eq] at h
    obtain ⟨rfl, h1, h⟩ := h
    exact va_mmax_long hx hb (hml.trans hls.symm) hown (hts _ (oW_in h.1)) (hts _ (oW_in h.2.1)) (hts _ (oW_in h1)) (hts _ (oW_in h.2.2)) (by omega) (by omega) (by omega) (by omega) hd k
  · cases h
theorem so40 {a : Nat} {x v : Int32} (C : mAct p s m args meth c R y D A ρ0 M0) (I : mHI s y D A ρ0 M0 sh0 ρ sh M J nc ns H locs) (h : okC (pby y) pc (pc + 1) v = true) (h2 : ok40 (pby y) (pc + 1) pn = true) (hk : (mAt pcon sh a).1 = 3) (hin : mIn x (mAt pcon sh a).2.1) (k : ∀ (H1 : Heap) (locs1 : List Loc), mHI s y D A ρ0 M0 sh0 ρ sh (mUp M a x.toNatClampNeg v) J nc ns H1 locs1 → W p l e R s m args below meth c H1 locs1 nc ns Q (F0 m pn ls st)) : W p l e R s m args below meth c H locs nc ns Q (F0 m pc ls (.int x :: .ref (ρ a).1 :: st)) := by
  obtain ⟨hx, hb, hml, hown, hts, hnm, hA, hK, hCF, -⟩ := C
  have I0 := I
  obtain ⟨hP, hD, hS, hAF, hM, hkd, hpl, hρ, -⟩ := I
  unfold okC at h
  split at h
  · rename_i n hd
    simp only [Bool.and_eq_true, decide_eq_true_eq] at h
    obtain ⟨g1, -, g2⟩ := h
    unfold ok40 at h2
    split at h2
    · rename_i hd2
      rw [decide_eq_true_eq] at h2
      subst h2
      refine lv_iconst hx hb hd g1 ?_
      rcases mAt_or hkd.2 (by rw [hk]; decide) with ⟨h1, -⟩ | ⟨j, -, -, h1⟩
      · have hw := mWd_at (ρ := ρ) (M := M) (J := J) h1
        have hl := sh_lt h1
        rw [mCell_1 (Or.inr hk)] at hw
        refine va_zast hx hb (mK1 hK (hAF a _ .boolean h1 (mAt1_z hk))) hP hD hS a 0 hw rfl hin hd2 (fun H1 locs1 hP1 hD1 hS1 => ?_)
        have en : vp_nar .boolean v = v := by rcases g2 with rfl | rfl <;> decide +kernel
        rw [en] at hP1 hD1
        have ew : (mWd ρ M J sh).set a ((ρ a).1, .inl ((ρ a).2, (mAt pcon sh a).2.1, .inl (upd (M a) x.toNatClampNeg v))) = mWd ρ (mUp M a x.toNatClampNeg v) J sh := by
          rw [mWd_set (M := M) (J := J) (M2 := mUp M a x.toNatClampNeg v) (J2 := J) h1 (fun k hk => mUp_ne M hk) (fun _ _ => rfl), mCell_1 (Or.inr hk), mUp_at]
        rw [ew] at hP1 hD1
        exact k H1 locs1 (I0.upd hP1 hD1 hS1 (fun k hk => mUp_ne M (by omega)))
      · rw [hk] at h1
        simp at h1
    · cases h2
  · cases h
theorem so39 {ci a o : Nat} {cell : mSC} {v : Int32} (C : mAct p s m args meth c R y D A ρ0 M0) (I : mHI s y D A ρ0 M0 sh0 ρ sh M J nc ns H locs) (h : okC (pby y) pc (pc + 1) v = true) (h2 : okPut (pby y) (pnm y).cls (pnm y).name hs ci a (pc + 1) true 0 = true) (hc : sh[o]? = some cell) (hk : cell.1 = 0) (hci : cell.2.1 = ci) (k : ∀ (H1 : Heap) (locs1 : List Loc), mHI s y D A ρ0 M0 sh0 ρ sh (mUp M o a v) J nc ns H1 locs1 → W p l e R s m args below meth c H1 locs1 nc ns Q (F0 m (pc + 4) ls st)) : W p l e R s m args below meth c H locs nc ns Q (F0 m pc ls (.ref (ρ o).1 :: st)) := by
  have C0 := C
  obtain ⟨hx, hb, -⟩ := C
  unfold okC at h
  split at h
  · rename_i n hd
    simp only [Bool.and_eq_true, decide_eq_true_eq] at h
    obtain ⟨g1, -, g2⟩ := h
    refine lv_iconst hx hb hd g1 ?_
    exact so21 (pc := pc + 1) C0 I h2 hc hk hci (fun _ => g2) k
  · cases h
end OPS
end
section
/-! soundness of copies and of makers -/
theorem mShort_le {ρ : mRho} : ∀ {S : List Value} {n : Nat}, mShort S n = true → ((S.map (mTr ρ)).map fun v => v.category).sum ≤ n
  | [], n, _ => by simp
  | v :: S, n, h => by
    have hc : (mTr ρ v).category = v.category := mTr_cat ρ v
    cases hv : mCat2 (some v) with
    | true =>
      have h2 := mCat2_iff.mp hv
      match n, h with
      | 0, h => simp [mShort, hv] at h
      | 1, h => simp [mShort, hv] at h
      | n + 2, h =>
        have h : mShort S n = true := by simpa [mShort, hv] using h
        have := mShort_le (ρ := ρ) h
        simp only [List.map_cons, List.sum_cons, hc, h2]
        omega
    | false =>
      have h2 : v.category = 1 := by
        rcases lv_cat v with q | q
        · exact q
        · rw [mCat2_iff.mpr q] at hv; cases hv
      match n, h with
      | 0, h => simp [mShort, hv] at h
      | n + 1, h =>
        have h : mShort S n = true := by simpa [mShort, hv] using h
        have := mShort_le (ρ := ρ) h
        simp only [List.map_cons, List.sum_cons, hc, h2]
        omega
section COPY
variable {p : Program} {l : Launch} {e : Env} {R : Room} {s : State} {m : MethodId} {args : Array Value} {below : List Frame} {meth : Method} {c : Code} {Q : State → Prop} {D : va_G} {cl : List vw_C} {tys : List (ClassId × FieldType)} {A : Nat → Prop} {ws : va_W} {H : Heap} {locs : List Loc} {cells slots : Nat} {ls : Array Slot} {rest : List Value} {pc : Nat} {cc : ByteArray} {a : Nat}
/-- ints are copied out of a row that was there before -/
theorem vs_copyT (hexec : p.tables.exec = Jvm.exec) (hb : c.code = cc) (hml : c.maxLocals = ls.size) {own : String} {index : Nat} (hown : s.vm.findClass own = some m.cls) (hlink : (Cond.methodLink own index arraycopyName).before args s = true) (hnat : (Cond.native arraycopyName).before args s = true) (hstat : (Cond.static arraycopyName).before args s = true) (hini : (Cond.initialized "java/lang/System").before args s = true)
    (hK : va_K D cl tys s) (hP : va_P D cl ws H) (hD : va_D A ws) (hS : va_S A s.heap H locs) {b0 n0 : Nat} {f : Nat → Int32} (hX : va_T .int b0 n0 (fun j => .int (f j)) A s s.heap) (q1 t1 : Nat) {c1 : ClassId} {n1 : Nat} {g : Nat → Int32} (ha1 : ws[q1]? = some (a, .inl (c1, n1, .inl g))) (ht1 : tys[t1]? = some (c1, .int))
    {sp dp n : Int32} (h1 : ¬ sp < 0) (h2 : ¬ dp < 0) (h3 : ¬ n < 0) (h4 : sp.toNatClampNeg + n.toNatClampNeg ≤ n0) (h5 : dp.toNatClampNeg + n.toNatClampNeg ≤ n1)
    (hframes : 1 ≤ R.frames) (hlocals : (rest.map fun v => v.category).sum + (nativeFrameWords "java/lang/System" "arraycopy" 5 + 11) ≤ R.locals) (hdg : decode cc pc = .ok (.invokestatic index, 3))
    (kk : ∀ (H1 : Heap) (locs1 : List Loc), va_P D cl (ws.set q1 (a, .inl (c1, n1, .inl (va_cpy f g sp.toNatClampNeg dp.toNatClampNeg n.toNatClampNeg)))) H1 → va_D A (ws.set q1 (a, .inl (c1, n1, .inl (va_cpy f g sp.toNatClampNeg dp.toNatClampNeg n.toNatClampNeg)))) → va_S A s.heap H1 locs1 → W p l e R s m args below meth c H1 locs1 cells slots Q (F0 m (pc + 3) ls rest)) : W p l e R s m args below meth c H locs cells slots Q (F0 m pc ls (.int n :: .int dp :: .ref a :: .int sp :: .ref b0 :: rest)) := by
  have nn : ∀ z : Int32, ¬ z < 0 → z.toInt = (z.toNatClampNeg : Int) := by
    intro z hz
    have hz0 : (0 : Int) ≤ z.toInt := by simpa using Int32.le_iff_toInt_le.mp (Int32.not_lt.mp hz)
    show z.toInt = ((z.toInt.toNat : Nat) : Int)
    omega
  intro T hT X
  obtain ⟨scr, s1, ⟨s6, k0, hk0, cm0, hkk0⟩, s3, s4, -, s5, s7⟩ := hX
  have hc0 : H[b0]? = some scr := by rw [hS.2.1 b0 (Array.getElem?_eq_some_iff.mp s1).1 s7]; exact s1
  have hc1 : H[a]? = some (vp_cell c1 (n1, .inl g)) := hP q1 _ ha1
  obtain ⟨-, k1, hk1, cm1, hkk1⟩ := (hK.2 t1 _ ht1).1 n1 (fun j => .int (g j))
  obtain ⟨vm', X', step⟩ := X.arraycopy hexec hown hlink hnat hstat hini (src := b0) (dst := a) (cs := scr) (cd := vp_cell c1 (n1, .inl g)) (srcPos := sp) (destPos := dp) (n := n) (by rw [hT]; exact hc0) (by rw [hT]; exact hc1)
    s6 (fun _ h => by cases h) s3 (fun h => by cases h) hk0 hk1 hkk0 hkk1 (by simp [refKind]) h1 h2 h3
    (by rw [nn sp h1, nn n h3]; omega)
    (by rw [nn dp h2, nn n h3]; show ¬ _ > ((arrV c1 n1 (fun j => .int (g j))).slots.size : Int); rw [arrV_size]; omega)
    (fun vm₁ _ i hi => by
      have e : scr.slots.getD (sp.toNatClampNeg + i) .null = .int (f (sp.toNatClampNeg + i)) := by
        rw [Array.getD_eq_getD_getElem?, s5 _ (by omega)]
        rfl
      rw [e]
      exact ⟨rfl, trivial⟩)
    (g := F0 m pc ls (.int n :: .int dp :: .ref a :: .int sp :: .ref b0 :: rest)) rfl (by rw [hml]) (rest := rest) rfl (by rw [hb]; exact hdg) hframes (by show 2 * 0 + _ + _ ≤ _; omega)
  have e1 : copied scr (vp_cell c1 (n1, .inl g)) sp dp n = vp_cell c1 (n1, .inl (va_cpy f g sp.toNatClampNeg dp.toNatClampNeg n.toNatClampNeg)) := va_copiedX (fun z => .int z) scr c1 f g s5 h4
  rw [e1] at X' step
  generalize hnew : vp_cell c1 (n1, .inl (va_cpy f g sp.toNatClampNeg dp.toNatClampNeg n.toNatClampNeg)) = nw at X' step
  have hl : a < H.size := (Array.getElem?_eq_some_iff.mp hc1).1
  have hheap : ((T.setVm vm').setCell a nw).heap = H.setIfInBounds a nw := by rw [← hT]; rfl
  have oq : ∀ q : Nat, q ≠ a → (H.setIfInBounds a nw)[q]? = H[q]? := fun q hq => by simp [Array.getElem?_setIfInBounds, Ne.symm hq]
  have hat : (H.setIfInBounds a nw)[a]? = some nw := by simp [Array.getElem?_setIfInBounds, hl]
  have hA : A a := hD.2 q1 _ ha1
  obtain ⟨t, a1, b1⟩ := kk _ _ (hP.set hD ha1 (by rw [← hnew] at hat ⊢; exact hat) oq) (hD.set ha1) ⟨by simp; exact hS.1, fun q g1 g2 => by
      rw [oq q (fun e => g2 (by rw [e]; exact hA))]
      exact hS.2.1 q g1 g2, fun q hq => by
      rcases List.mem_append.mp hq with h | h
      · exact hS.2.2 q h
      · obtain ⟨z, -, hz⟩ := List.mem_map.mp h
        rw [← hz]
        exact hA⟩ _ hheap X'
  exact ⟨t, step t a1, b1⟩
end COPY
theorem nfw : nativeFrameWords "java/lang/System" "arraycopy" 5 ≤ 18 := by decide +kernel
end
section
/-! soundness of arraycopy and of makers -/
section OPS
variable {p : Program} {l : Launch} {e : Env} {R : Room} {s : State} {m : MethodId} {args : Array Value} {below : List Frame} {meth : Method} {c : Code} {Q : State → Prop} {y : Nat} {D : va_G} {A : Nat → Prop} {ρ0 : mRho} {M0 : mMI} {sh0 : List mSC} {ρ : mRho} {sh : List mSC} {M : mMI} {J : mMJ} {nc ns : Nat} {H : Heap} {locs : List Loc} {ls : Array Slot} {st : List Value} {pc pn : Nat} {hs : List Nat}
theorem so35 {a d : Nat} {n : Int32} (C : mAct p s m args meth c R y D A ρ0 M0) (I : mHI s y D A ρ0 M0 sh0 ρ sh M J nc ns H locs) (hls : ls.size = (PG.2.1 y).1) (h : ok35 (pby y) (pnm y).cls hs pc pn = true) (hrk : 1 ≤ (PG.2.1 y).2.2.2.1) (hst : (st.map fun v => v.category).sum ≤ 8) (hka : (mAt pcon sh a).1 = 1 ∨ ((mAt pcon sh a).1 = 5 ∧ 0 < (mAt pcon sh a).2.1)) (hkd2 : (mAt pcon sh d).1 = 1) (had : ¬ a = d) (hn1 : mIn n ((mAt pcon sh a).2.1 + 1)) (hn2 : mIn n ((mAt pcon sh d).2.1 + 1)) (k : ∀ (H1 : Heap) (locs1 : List Loc), mHI s y D A ρ0 M0 sh0 ρ sh (mSet M d (va_cpy (M a) (M d) 0 0 n.toNatClampNeg)) J nc ns H1 locs1 → W p l e R s m args below meth c H1 locs1 nc ns Q (F0 m pn ls st)) : W p l e R s m args below meth c H locs nc ns Q (F0 m pc ls (.int n :: .int 0 :: .ref (ρ d).1 :: .int 0 :: .ref (ρ a).1 :: st)) := by
  obtain ⟨hx, hb, hml, hown, hts, hnm, hA, hK, hCF, hf, hlo, -⟩ := C
  have I0 := I
  obtain ⟨hP, hD, hS, hAF, hM, hkd, hpl, hρ, -⟩ := I
  have hnf := nfw
  unfold ok35 at h
  split at h
  · rename_i kx hd
    simp only [Bool.and_eq_true, decide_eq_true_eq] at h
    obtain ⟨rfl, g1, g2, g3, g4⟩ := h
    have z0 : (0 : Int32).toNatClampNeg = 0 := by decide
    have zn : ¬ (0 : Int32) < 0 := by decide
    have hn0 : ¬ n < 0 := fun q => hn1 (Or.inl q)
    have hl1 : n.toNatClampNeg ≤ (mAt pcon sh a).2.1 := Nat.not_lt.mp fun q => hn1 (Or.inr (by omega))
    have hl2 : n.toNatClampNeg ≤ (mAt pcon sh d).2.1 := Nat.not_lt.mp fun q => hn2 (Or.inr (by omega))
    rcases mAt_or hkd.2 (by rw [hkd2]; decide) with ⟨w1, -⟩ | ⟨j, -, -, w1⟩
    · have hw1 := mWd_at (ρ := ρ) (M := M) (J := J) w1
      have hdl := sh_lt w1
      rw [mCell_1 (Or.inl hkd2)] at hw1
      have fin : ∀ (H1 : Heap) (locs1 : List Loc), va_P D vwCl ((mWd ρ M J sh).set d ((ρ d).1, .inl ((ρ d).2, (mAt pcon sh d).2.1, .inl (va_cpy (M a) (M d) 0 0 n.toNatClampNeg)))) H1 → va_D A ((mWd ρ M J sh).set d ((ρ d).1, .inl ((ρ d).2, (mAt pcon sh d).2.1, .inl (va_cpy (M a) (M d) 0 0 n.toNatClampNeg)))) → va_S A s.heap H1 locs1 → W p l e R s m args below meth c H1 locs1 nc ns Q (F0 m (pc + 3) ls st) := by
        intro H1 locs1 hP1 hD1 hS1
        have ew : (mWd ρ M J sh).set d ((ρ d).1, .inl ((ρ d).2, (mAt pcon sh d).2.1, .inl (va_cpy (M a) (M d) 0 0 n.toNatClampNeg))) = mWd ρ (mSet M d (va_cpy (M a) (M d) 0 0 n.toNatClampNeg)) J sh := by
          rw [mWd_set (M := M) (J := J) (M2 := mSet M d (va_cpy (M a) (M d) 0 0 n.toNatClampNeg)) (J2 := J) w1 (fun k hk => mSet_ne M hk) (fun _ _ => rfl), mCell_1 (Or.inl hkd2), mSet_at]
        rw [ew] at hP1 hD1
        exact k H1 locs1 (I0.upd hP1 hD1 hS1 (fun k hk => mSet_ne M (by omega)))
      rcases hka with hka | ⟨hka, hpos⟩
      · rcases mAt_or hkd.2 (by rw [hka]; decide) with ⟨w0, -⟩ | ⟨j, -, -, w0⟩
        · have hw0 := mWd_at (ρ := ρ) (M := M) (J := J) w0
          rw [mCell_1 (Or.inl hka)] at hw0
          exact va_copyi hx hb (hml.trans hls.symm) hown (hts _ (oW_in g1)) (hts _ (oW_in g2)) (hts _ (oW_in g3)) (hts _ (oW_in g4)) (mK2 hK (hAF a _ .int w0 (mAt1_i hka)) (hAF d _ .int w1 (mAt1_i hkd2))) hP hD hS a d 0 1 hw0 hw1 rfl rfl rfl zn zn hn0 (by rw [z0]; omega) (by rw [z0]; omega) (fun _ _ => rfl) (by omega) (by omega) hd fin
        · rw [hka] at w0
          simp at w0
      · rcases mAt_or hkd.2 (by rw [hka]; decide) with ⟨-, w0⟩ | ⟨j, rfl, w0, -⟩
        · rw [hka] at w0
          simp at w0
        · have g := mCC_5 hka (hCF.1 j _ w0)
          obtain ⟨q, hq⟩ : ∃ q, (mAt pcon sh (1000 + j)).2.1 = q + 1 := ⟨(mAt pcon sh (1000 + j)).2.1 - 1, by omega⟩
          rw [hq] at g hl1
          have g : va_T .int (ρ0 (1000 + j)).1 (q + 1) (fun i => .int (M0 (1000 + j) i)) A s s.heap := g
          rw [← hM (1000 + j) (by omega)] at g
          rw [hρ (1000 + j) (Or.inr (by omega))]
          exact vs_copyT hx hb (hml.trans hls.symm) hown (hts _ (oW_in g1)) (hts _ (oW_in g2)) (hts _ (oW_in g3)) (hts _ (oW_in g4)) (mK1 hK (hAF d _ .int w1 (mAt1_i hkd2))) hP hD hS g d 0 hw1 rfl zn zn hn0 (by rw [z0]; omega) (by rw [z0]; omega) (by omega) (by omega) hd fin
    · rw [hkd2] at w1
      simp at w1
  · cases h
/-- a shape changes at one place: kind and length stay -/
theorem mHI.shp {cell d : mSC} {o : Nat} {H1 : Heap} {locs1 : List Loc} (I : mHI s y D A ρ0 M0 sh0 ρ sh M J nc ns H locs) (hpl : (PG.2.1 y).2.2.1 = 0) (hc : sh[o]? = some cell) (hd : d.1 = cell.1) (hP : va_P D vwCl (mWd ρ M J (mPut sh o d)) H1) (hD : va_D A (mWd ρ M J (mPut sh o d))) (hS : va_S A s.heap H1 locs1) : mHI s y D A ρ0 M0 sh0 ρ (mPut sh o d) M J nc ns H1 locs1 := by
  obtain ⟨-, -, -, h4, h5, h6, h7, h8, h9, h10⟩ := I
  refine ⟨hP, hD, hS, fun k c2 ty hk ht => ?_, h5, ⟨by rw [mPut_len]; exact h6.1, fun q hq => ?_⟩, fun z => absurd hpl z, h8, by rw [mPut_len]; exact h9, h10⟩
  · rw [mPut_at hc] at hk
    split at hk
    · rename_i ek
      subst ek
      cases hk
      refine h4 k cell ty hc ?_
      unfold mAt1 at ht ⊢
      rw [hd] at ht
      exact ht
    · exact h4 k c2 ty hk ht
  · obtain ⟨i, hi⟩ := List.getElem?_of_mem hq
    rw [mPut_at hc] at hi
    split at hi
    · cases hi
      rw [hd]
      exact h6.2 _ (List.mem_of_getElem? hc)
    · exact h6.2 _ (List.mem_of_getElem? hi)
/-- a reference is put into a field -/
theorem so36 {ci a o r : Nat} {cell : mSC} (C : mAct p s m args meth c R y D A ρ0 M0) (I : mHI s y D A ρ0 M0 sh0 ρ sh M J nc ns H locs) (hpl : (PG.2.1 y).2.2.1 = 0) (h : okPut (pby y) (pnm y).cls (pnm y).name hs ci a pc false 1 = true) (hc : sh[o]? = some cell) (hk : cell.1 = 0) (hci : cell.2.1 = ci) (hal : a < cell.2.2.length) (k : ∀ (H1 : Heap) (locs1 : List Loc), mHI s y D A ρ0 M0 sh0 ρ (mPut sh o (mLinkO r cell a)) M J nc ns H1 locs1 → W p l e R s m args below meth c H1 locs1 nc ns Q (F0 m (pc + 3) ls st)) : W p l e R s m args below meth c H locs nc ns Q (F0 m pc ls (.ref (ρ r).1 :: .ref (ρ o).1 :: st)) := by
  obtain ⟨hx, hb, hml, hown, hts, hnm, hA, hK, hCF, -⟩ := C
  have I0 := I
  obtain ⟨hP, hD, hS, hAF, hM, hkd, -⟩ := I
  have hw := mWd_at (ρ := ρ) (M := M) (J := J) hc
  rw [mCell_0 hk, hci] at hw
  obtain ⟨q, hq, -⟩ := hP o _ hw
  have hq : vwCl[ci]? = some q := hq
  obtain ⟨kx, hd, hlt, hlk, hr, hfin, hds⟩ := okPut_at hq h
  obtain ⟨hnames, ty, hty, hrf, -⟩ := vw_ty hq
  obtain ⟨g2, g3⟩ := fits_ref (hrf a hlt hr) (ρ r).1
  have hlen : a < (mFV ρ (mNth [] pkin ci) cell.2.2 (M o)).length := by
    rw [mFV_len]
    rcases Nat.lt_or_ge a (mNth [] pkin ci).length with t | t
    · exact t
    · rw [mNth_far 2 _ a t] at hr; cases hr
  have ew : (mWd ρ M J sh).set o ((ρ o).1, .inr (ci, (mFV ρ (mNth [] pkin ci) cell.2.2 (M o)).set a (.ref (ρ r).1))) = mWd ρ M J (mPut sh o (mLinkO r cell a)) := by
    rw [mWd_put hc, mCell_0 (c := mLinkO r cell a) hk]
    show _ = (mWd ρ M J sh).set o ((ρ o).1, .inr (cell.2.1, mFV ρ (mNth [] pkin cell.2.1) (mPut cell.2.2 a (r + 1)) (M o)))
    rw [hci, mFV_lnk hr hal]
  have fin : ∀ (H1 : Heap) (locs1 : List Loc), va_P D vwCl ((mWd ρ M J sh).set o ((ρ o).1, .inr (ci, (mFV ρ (mNth [] pkin ci) cell.2.2 (M o)).set a (.ref (ρ r).1)))) H1 → va_D A ((mWd ρ M J sh).set o ((ρ o).1, .inr (ci, (mFV ρ (mNth [] pkin ci) cell.2.2 (M o)).set a (.ref (ρ r).1)))) → va_S A s.heap H1 locs1 → W p l e R s m args below meth c H1 locs1 nc ns Q (F0 m (pc + 3) ls st) := by
    intro H1 locs1 hP1 hD1 hS1
    rw [ew] at hP1 hD1
    exact k H1 locs1 (I0.shp hpl hc rfl hP1 hD1 hS1)
  by_cases hf : (q.2.1 a).2.2.2 = false
  · exact va_put hx hb hts (vw_in hq) ty hty hnames hown hK hP hD hS o hw hq a hlt (hts _ hlk) (fun _ z => z) hf (hty a hlt) g2 g3 hlen hd fin
  · obtain ⟨hf1, hf2⟩ := hfin.resolve_left hf
    exact va_putF hx hb hts (vw_in hq) ty hty hnames hown hK hP hD hS o hw hq a hlt (hts _ hlk) (fun _ z => z) (by simpa using hf) (hnm.trans hf1) hf2 (hty a hlt) g2 g3 hlen hd fin
/-- an object is put into a row -/
theorem so28 {a j r : Nat} {x : Int32} (C : mAct p s m args meth c R y D A ρ0 M0) (I : mHI s y D A ρ0 M0 sh0 ρ sh M J nc ns H locs) (hpl : (PG.2.1 y).2.2.1 = 0) (h : okP (pby y) 28 pc pn = true) (hk : mRowR (mAt pcon sh a) = true) (hr : mObj pcon sh r 3 = true) (hjl : j < (mAt pcon sh a).2.2.length) (hx2 : x = nI j) (k : ∀ (H1 : Heap) (locs1 : List Loc), mHI s y D A ρ0 M0 sh0 ρ (mPut sh a (mLinkO r (mAt pcon sh a) j)) M J nc ns H1 locs1 → W p l e R s m args below meth c H1 locs1 nc ns Q (F0 m pn ls st)) : W p l e R s m args below meth c H locs nc ns Q (F0 m pc ls (.ref (ρ r).1 :: .int x :: .ref (ρ a).1 :: st)) := by
  obtain ⟨rfl, h2⟩ := okP_at h
  have h : decode (pby y) pc = .ok (.aastore, 1) := by simpa using h2
  obtain ⟨hx, hb, hml, hown, hts, hnm, hA, hK, hCF, -⟩ := C
  have I0 := I
  obtain ⟨hP, hD, hS, hAF, hM, hkd, -⟩ := I
  obtain ⟨hk1, hk2, hk3⟩ := mRowR_at hk
  obtain ⟨v1, v2, v3⟩ := mObj_at hkd.2 hr
  subst hx2
  rcases mAt_or hkd.2 (by rw [hk1]; decide) with ⟨h1, -⟩ | ⟨i, -, -, h1⟩
  · have hw := mWd_at (ρ := ρ) (M := M) (J := J) h1
    rw [mCell_4 hk1] at hw
    have hv := mWd_at (ρ := ρ) (M := M) (J := J) v1
    rw [mCell_0 v2, v3] at hv
    refine va_astq (r := (RX3, TX3, 4)) hx hb (mK1 hK (hAF a _ _ h1 (mAt1_r hk1))) hP hD hS a 0 r 3 hw rfl hv rfl (vp_in_nI (by omega) (by omega)) h (fun H1 locs1 hP1 hD1 hS1 => ?_)
    obtain ⟨z, hz⟩ : ∃ z, (mAt pcon sh a).2.2[j]? = some z := ⟨_, List.getElem?_eq_getElem hjl⟩
    have ef : va_up (fun i => mRo ρ (mNth 0 (mAt pcon sh a).2.2 i)) (nI j).toNatClampNeg (some (ρ r).1) = fun i => mRo ρ (mNth 0 (mPut (mAt pcon sh a).2.2 j (r + 1)) i) := by
      funext i
      rw [nI_clamp (by omega)]
      show (if i = j then some (ρ r).1 else mRo ρ (mNth 0 (mAt pcon sh a).2.2 i)) = mRo ρ (mNth 0 (mPut (mAt pcon sh a).2.2 j (r + 1)) i)
      rw [mNth_get, mNth_get, mPut_at hz]
      by_cases hi : i = j
      · rw [if_pos hi, if_pos hi]
        rfl
      · rw [if_neg hi, if_neg hi]
    have ew : (mWd ρ M J sh).set a ((ρ a).1, .inl ((ρ a).2, (mAt pcon sh a).2.1, .inr (.inr (.inr (.inr (va_up (fun i => mRo ρ (mNth 0 (mAt pcon sh a).2.2 i)) (nI j).toNatClampNeg (some (ρ r).1))))))) = mWd ρ M J (mPut sh a (mLinkO r (mAt pcon sh a) j)) := by
      rw [ef, mWd_put h1, mCell_4 (c := mLinkO r (mAt pcon sh a) j) hk1]
      rfl
    rw [ew] at hP1 hD1
    exact k H1 locs1 (I0.shp hpl h1 rfl hP1 hD1 hS1)
  · rw [hk1] at h1
    simp at h1
end OPS
end
section
/-! soundness of what is made -/
def mRh (ρ : mRho) (n : Nat) (q : Nat × ClassId) : mRho := fun k => if k = n then q else ρ k
theorem mRh_at (ρ : mRho) (n : Nat) (q : Nat × ClassId) : mRh ρ n q n = q := if_pos rfl
theorem mRh_ne (ρ : mRho) {n k : Nat} {q : Nat × ClassId} (h : k ≠ n) : mRh ρ n q k = ρ k := if_neg h
theorem mNrR_at {n : Nat} : ∀ {l : List Nat}, mNrR n l = true → ∀ j, mNth 0 l j ≤ n ∨ 1000 ≤ mNth 0 l j
  | [], _, j => Or.inl (by rw [mNth_far 0 [] j (by simp)]; omega)
  | r :: l, h, j => by
    simp only [mNrR, Bool.and_eq_true, Bool.or_eq_true, Nat.ble_eq] at h
    cases j with
    | zero => exact h.1
    | succ j => exact mNrR_at h.2 j
theorem mNrH_at {n : Nat} : ∀ {l : List mSC}, mNrH n l = true → ∀ c ∈ l, mNrR n c.2.2 = true
  | [], _, c, hc => by simp at hc
  | d :: l, h, c, hc => by
    simp only [mNrH, Bool.and_eq_true] at h
    rcases List.mem_cons.mp hc with rfl | hc
    · exact h.1
    · exact mNrH_at h.2 c hc
theorem mTr_new {ρ : mRho} {n r : Nat} {q : Nat × ClassId} (hn : n < 999) (h : r ≤ n ∨ 1000 ≤ r) : mTr (mRh ρ n q) (mRef r) = mTr ρ (mRef r) := by
  cases r with
  | zero => rfl
  | succ a =>
    show Value.ref (mRh ρ n q a).1 = Value.ref (ρ a).1
    rw [mRh_ne ρ (by omega)]
theorem mRo_new {ρ : mRho} {n r : Nat} {q : Nat × ClassId} (hn : n < 999) (h : r ≤ n ∨ 1000 ≤ r) : mRo (mRh ρ n q) r = mRo ρ r := by
  cases r with
  | zero => rfl
  | succ a =>
    show some (mRh ρ n q a).1 = some (ρ a).1
    rw [mRh_ne ρ (by omega)]
theorem mCell_new {ρ : mRho} {M : mMI} {J : mMJ} {n k : Nat} {c : mSC} {q : Nat × ClassId} (hn : n < 999) (hk : k ≠ n) (h : mNrR n c.2.2 = true) : mCell (mRh ρ n q) M J k c = mCell ρ M J k c := by
  unfold mCell
  rw [mRh_ne ρ hk]
  have e1 : mFV (mRh ρ n q) (mNth [] pkin c.2.1) c.2.2 (M k) = mFV ρ (mNth [] pkin c.2.1) c.2.2 (M k) := by
    unfold mFV
    apply List.map_congr_left
    intro j _
    rw [mTr_new hn (mNrR_at h j)]
  have e2 : (fun i => mRo (mRh ρ n q) (mNth 0 c.2.2 i)) = fun i => mRo ρ (mNth 0 c.2.2 i) := by
    funext i
    rw [mRo_new hn (mNrR_at h i)]
  rw [e1, e2]
theorem mWd_push {ρ : mRho} {M M2 : mMI} {J J2 : mMJ} {sh : List mSC} {c : mSC} {q : Nat × ClassId} (hn : sh.length < 999) (hM : ∀ k, k ≠ sh.length → M2 k = M k) (hJ : ∀ k, k ≠ sh.length → J2 k = J k) (hr : mNrH sh.length sh = true) : mWd (mRh ρ sh.length q) M2 J2 (sh ++ [c]) = mWd ρ M J sh ++ [(q.1, mCell (mRh ρ sh.length q) M2 J2 sh.length c)] := by
  apply List.ext_getElem?
  intro i
  rcases Nat.lt_trichotomy i sh.length with h | h | h
  · rw [List.getElem?_append_left (by rw [mWd_len]; exact h)]
    have hi : sh[i]? = some sh[i] := List.getElem?_eq_getElem h
    rw [mWd_at (c := sh[i]) (by rw [List.getElem?_append_left h]; exact hi), mWd_at hi, mRh_ne ρ (by omega), mCell_new hn (by omega) (mNrH_at hr _ (List.mem_of_getElem? hi)), mCell_cong (hM i (by omega)) (hJ i (by omega))]
  · subst h
    rw [List.getElem?_append_right (by rw [mWd_len]; omega), mWd_len, Nat.sub_self]
    rw [mWd_at (c := c) (by rw [List.getElem?_append_right (by omega), Nat.sub_self]; rfl), mRh_at]
    rfl
  · rw [List.getElem?_eq_none_iff.mpr (by rw [mWd_len]; simp; omega), List.getElem?_eq_none_iff.mpr (by simp [mWd_len]; omega)]
theorem mNrO_at {n : Nat} : ∀ {L : List (Option Value)}, mNrO n L = true → ∀ (i k : Nat), L[i]? = some (some (.ref k)) → k < n ∨ 999 ≤ k
  | [], _, i, k, h => by simp at h
  | x :: L, h, i, k, hi => by
    cases i with
    | zero =>
      cases hi
      simp only [mNrO, Bool.and_eq_true, Bool.or_eq_true, Nat.ble_eq, Nat.blt_eq] at h
      exact h.1
    | succ i =>
      have h2 : mNrO n L = true := by
        match x, h with
        | none, h => exact h
        | some (.ref _), h => simp only [mNrO, Bool.and_eq_true] at h; exact h.2
        | some (.int _), h => exact h
        | some (.long _), h => exact h
        | some (.float _), h => exact h
        | some (.double _), h => exact h
        | some .null, h => exact h
        | some (.retAddr _), h => exact h
      exact mNrO_at h2 i k hi
theorem mNrS_at {n : Nat} : ∀ {S : List Value}, mNrS n S = true → ∀ v ∈ S, ∀ k, v = .ref k → k < n ∨ 999 ≤ k
  | [], _, v, hv => by simp at hv
  | x :: S, h, v, hv => by
    intro k e
    rcases List.mem_cons.mp hv with rfl | hv
    · subst e
      simp only [mNrS, Bool.and_eq_true, Bool.or_eq_true, Nat.ble_eq, Nat.blt_eq] at h
      exact h.1
    · have h2 : mNrS n S = true := by
        match x, h with
        | .ref _, h => simp only [mNrS, Bool.and_eq_true] at h; exact h.2
        | .int _, h => exact h
        | .long _, h => exact h
        | .float _, h => exact h
        | .double _, h => exact h
        | .null, h => exact h
        | .retAddr _, h => exact h
      exact mNrS_at h2 v hv k e
/-- references that are below n are the same under a map that agrees there -/
theorem mLoc.re {ρ ρ2 : mRho} {ls : Array Slot} {nL n : Nat} {L : List (Option Value)} (h : mLoc ρ ls nL L) (hr : mNrO n L = true) (hρ : ∀ k, k < n ∨ 999 ≤ k → ρ2 k = ρ k) : mLoc ρ2 ls nL L := by
  refine ⟨h.1, h.2.1, fun i v hi => ?_⟩
  rw [h.2.2 i v hi]
  cases v <;> try rfl
  rename_i k
  show some (Slot.val (.ref (ρ k).1)) = some (Slot.val (.ref (ρ2 k).1))
  rw [hρ k (mNrO_at hr i k hi)]
theorem mTrS_re {ρ ρ2 : mRho} {n : Nat} {S : List Value} (hr : mNrS n S = true) (hρ : ∀ k, k < n ∨ 999 ≤ k → ρ2 k = ρ k) : S.map (mTr ρ2) = S.map (mTr ρ) := by
  apply List.map_congr_left
  intro v hv
  cases v <;> try rfl
  rename_i k
  show Value.ref (ρ2 k).1 = Value.ref (ρ k).1
  rw [hρ k (mNrS_at hr _ hv k rfl)]
section OPS
variable {p : Program} {l : Launch} {e : Env} {R : Room} {s : State} {m : MethodId} {args : Array Value} {below : List Frame} {meth : Method} {c : Code} {Q : State → Prop} {y : Nat} {D : va_G} {A : Nat → Prop} {ρ0 : mRho} {M0 : mMI} {sh0 : List mSC} {ρ : mRho} {sh : List mSC} {M : mMI} {J : mMJ} {nc ns : Nat} {H : Heap} {locs : List Loc} {ls : Array Slot} {st : List Value} {pc pn : Nat} {hs : List Nat}
theorem mHI.push {cell : mSC} {q : Nat × ClassId} {w : Nat} {H1 : Heap} (I : mHI s y D A ρ0 M0 sh0 ρ sh M J nc ns H locs) (hpl : (PG.2.1 y).2.2.1 = 0) (h900 : sh.length < 900) (hnc : nc + 1 ≤ (PG.2.1 y).2.2.2.2.2.1) (hns : ns + w ≤ (PG.2.1 y).2.2.2.2.2.2.1) (hr : mNrH sh.length sh = true) (hkd : cell.1 ≤ 4) (haf : ∀ ty, mAt1 cell = some ty → ArrOfT s q.2 ty ∧ va_RA s q.2 ty)
    (hP : va_P D vwCl (mWd ρ M J sh ++ [(q.1, mCell (mRh ρ sh.length q) (mSet M sh.length (fun _ => 0)) (mSetJ J sh.length (fun _ => 0)) sh.length cell)]) H1) (hD : va_D A (mWd ρ M J sh ++ [(q.1, mCell (mRh ρ sh.length q) (mSet M sh.length (fun _ => 0)) (mSetJ J sh.length (fun _ => 0)) sh.length cell)])) (hS : va_S A s.heap H1 locs) : mHI s y D A ρ0 M0 sh0 (mRh ρ sh.length q) (sh ++ [cell]) (mSet M sh.length (fun _ => 0)) (mSetJ J sh.length (fun _ => 0)) (nc + 1) (ns + w) H1 locs := by
  obtain ⟨-, -, -, h4, h5, h6, h7, h8, h9, -⟩ := I
  have ew := mWd_push (ρ := ρ) (M := M) (M2 := mSet M sh.length (fun _ => 0)) (J := J) (J2 := mSetJ J sh.length (fun _ => 0)) (c := cell) (q := q) h6.1 (fun k hk => mSet_ne M hk) (fun k hk => mSetJ_ne J hk) hr
  refine ⟨by rw [ew]; exact hP, by rw [ew]; exact hD, hS, fun k c2 ty hk ht => ?_, fun k hk => (mSet_ne M (by omega)).trans (h5 k hk), ⟨by simp; omega, fun z hz => ?_⟩, fun z => absurd hpl z, fun k hk => (mRh_ne ρ (by omega)).trans (h8 k hk), by simp; omega, hnc, hns⟩
  · rcases Nat.lt_trichotomy k sh.length with g | g | g
    · rw [mRh_ne ρ (by omega)]
      rw [List.getElem?_append_left g] at hk
      exact h4 k c2 ty hk ht
    · subst g
      rw [List.getElem?_append_right (by omega), Nat.sub_self] at hk
      cases hk
      rw [mRh_at]
      exact haf ty ht
    · rw [List.getElem?_eq_none_iff.mpr (by simp; omega)] at hk
      cases hk
  · rcases List.mem_append.mp hz with g | g
    · exact h6.2 z g
    · rw [List.mem_singleton] at g
      subst g
      exact hkd
theorem so30 {ci w : Nat} {L : List (Option Value)} {S : List Value} {nL : Nat} (C : mAct p s m args meth c R y D A ρ0 M0) (I : mHI s y D A ρ0 M0 sh0 ρ sh M J nc ns H locs) (hL : mLoc ρ ls nL L) (hpl : (PG.2.1 y).2.2.1 = 0) (h : ok30 (pby y) (pnm y).cls hs ci w pc pn = true) (h900 : sh.length < 900) (hnc : nc + 1 ≤ (PG.2.1 y).2.2.2.2.2.1) (hns : ns + w ≤ (PG.2.1 y).2.2.2.2.2.2.1) (hrO : mNrO sh.length L = true) (hrS : mNrS sh.length S = true) (hrH : mNrH sh.length sh = true) (k : ∀ (ρ2 : mRho) (H1 : Heap), mHI s y D A ρ0 M0 sh0 ρ2 (sh ++ [(0, ci, mZeros w)]) (mSet M sh.length (fun _ => 0)) (mSetJ J sh.length (fun _ => 0)) (nc + 1) (ns + w) H1 locs → mLoc ρ2 ls nL L → W p l e R s m args below meth c H1 locs (nc + 1) (ns + w) Q (F0 m pn ls (.ref (ρ2 sh.length).1 :: S.map (mTr ρ2)))) : W p l e R s m args below meth c H locs nc ns Q (F0 m pc ls (S.map (mTr ρ))) := by
  obtain ⟨hx, hb, hml, hown, hts, hnm, hA, hK, hCF, hf, hlo, hce, hsl⟩ := C
  have I0 := I
  obtain ⟨hP, hD, hS, hAF, hM, hkd, -⟩ := I
  unfold ok30 at h
  split at h
  · rename_i kx hd
    simp only [Bool.and_eq_true, decide_eq_true_eq] at h
    obtain ⟨rfl, h⟩ := h
    split at h
    · rename_i q hq
      simp only [Bool.and_eq_true, decide_eq_true_eq] at h
      obtain ⟨rfl, g1, g2, g3⟩ := h
      obtain ⟨hnames, ty, hty, hrf, hdef, hlen, hkk⟩ := vw_ty hq
      refine va_new (fs := mFV ρ (mNth [] pkin ci) [] (fun _ => 0)) hx hb hts (vw_in hq) ty hty hown (hts _ (oW_in g1)) (hts _ (oW_in g2)) (hts _ (oW_in g3)) hK hP hD hS hA hq (fun j hj => ?_) (by omega) (by omega) hd (fun q0 H1 hP1 hD1 hS1 => ?_)
      · rw [hdef j hj]
        unfold vp_V
        rw [List.getD_eq_getElem?_getD, mFV_get (by rcases hkk j hj with t | t <;> rw [t] <;> decide)]
        rcases hkk j hj with t | t
        · rw [if_pos t, if_pos t]
          rfl
        · rw [if_neg (by rw [t]; decide), if_neg (by rw [t]; decide), mNth_far 0 [] j (by simp)]
          rfl
      · have ec : mCell (mRh ρ sh.length (q0, 0)) (mSet M sh.length (fun _ => 0)) (mSetJ J sh.length (fun _ => 0)) sh.length (0, ci, mZeros q.2.2) = .inr (ci, mFV ρ (mNth [] pkin ci) [] (fun _ => 0)) := by
          rw [mCell_0 rfl, mSet_at]
          refine congrArg (fun z => Sum.inr (ci, z)) ?_
          unfold mFV
          apply List.map_congr_left
          intro j _
          have hz : ∀ n j, mNth 0 (mZeros n) j = 0 := by
            intro n
            induction n with
            | zero => intro j; exact mNth_far 0 [] j (by simp)
            | succ n ih => intro j; cases j with
              | zero => rfl
              | succ j => exact ih j
          rw [hz, mNth_far 0 [] j (by simp)]
          rfl
        rw [← ec] at hP1 hD1
        have hρ2 : ∀ k, k < sh.length ∨ 999 ≤ k → mRh ρ sh.length (q0, 0) k = ρ k := fun k hk => mRh_ne ρ (by omega)
        have := k (mRh ρ sh.length (q0, 0)) H1 (I0.push (q := (q0, 0)) hpl h900 hnc hns hrH (Nat.zero_le 4) (fun ty ht => by cases ht) hP1 hD1 hS1) (hL.re hrO hρ2)
        rw [mRh_at, mTrS_re hrS hρ2] at this
        exact this
    · cases h
  · cases h
end OPS
end
section
/-! soundness of new arrays -/
section OPS
variable {p : Program} {l : Launch} {e : Env} {R : Room} {s : State} {m : MethodId} {args : Array Value} {below : List Frame} {meth : Method} {c : Code} {Q : State → Prop} {y : Nat} {D : va_G} {A : Nat → Prop} {ρ0 : mRho} {M0 : mMI} {sh0 : List mSC} {ρ : mRho} {sh : List mSC} {M : mMI} {J : mMJ} {nc ns : Nat} {H : Heap} {locs : List Loc} {ls : Array Slot} {st : List Value} {pc pn : Nat} {hs : List Nat}
/-- behind a cell that is an array -/
theorem so3x {cell : mSC} {w : Nat} {ty : FieldType} {E : ClassId → va_E} {L : List (Option Value)} {S : List Value} {nL : Nat} (I : mHI s y D A ρ0 M0 sh0 ρ sh M J nc ns H locs) (hL : mLoc ρ ls nL L) (hpl : (PG.2.1 y).2.2.1 = 0) (h900 : sh.length < 900) (hnc : nc + 1 ≤ (PG.2.1 y).2.2.2.2.2.1) (hns : ns + w ≤ (PG.2.1 y).2.2.2.2.2.2.1) (hrO : mNrO sh.length L = true) (hrS : mNrS sh.length S = true) (hrH : mNrH sh.length sh = true) (hkd : cell.1 ≤ 4) (hty : mAt1 cell = some ty) (hE : ∀ (q0 : Nat) (cA : ClassId), mCell (mRh ρ sh.length (q0, cA)) (mSet M sh.length (fun _ => 0)) (mSetJ J sh.length (fun _ => 0)) sh.length cell = E cA)
    (k : ∀ (ρ2 : mRho) (H1 : Heap), mHI s y D A ρ0 M0 sh0 ρ2 (sh ++ [cell]) (mSet M sh.length (fun _ => 0)) (mSetJ J sh.length (fun _ => 0)) (nc + 1) (ns + w) H1 locs → mLoc ρ2 ls nL L → W p l e R s m args below meth c H1 locs (nc + 1) (ns + w) Q (F0 m pn ls (.ref (ρ2 sh.length).1 :: S.map (mTr ρ2))))
    (q0 : Nat) (cA : ClassId) (H1 : Heap) (hK1 : va_K D vwCl ([] ++ [(cA, ty)]) s) (hP1 : va_P D vwCl (mWd ρ M J sh ++ [(q0, E cA)]) H1) (hD1 : va_D A (mWd ρ M J sh ++ [(q0, E cA)])) (hS1 : va_S A s.heap H1 locs) : W p l e R s m args below meth c H1 locs (nc + 1) (ns + w) Q (F0 m pn ls (.ref q0 :: S.map (mTr ρ))) := by
  rw [← hE q0 cA] at hP1 hD1
  have hρ2 : ∀ k, k < sh.length ∨ 999 ≤ k → mRh ρ sh.length (q0, cA) k = ρ k := fun k hk => mRh_ne ρ (by omega)
  have := k (mRh ρ sh.length (q0, cA)) H1 (I.push (q := (q0, cA)) hpl h900 hnc hns hrH hkd (fun t ht => by rw [hty] at ht; cases ht; exact hK1.2 0 _ rfl) hP1 hD1 hS1) (hL.re hrO hρ2)
  rw [mRh_at, mTrS_re hrS hρ2] at this
  exact this
theorem so31 {a b : Nat} {n : Int32} {L : List (Option Value)} {S : List Value} {nL : Nat} (C : mAct p s m args meth c R y D A ρ0 M0) (I : mHI s y D A ρ0 M0 sh0 ρ sh M J nc ns H locs) (hL : mLoc ρ ls nL L) (hpl : (PG.2.1 y).2.2.1 = 0) (h : ok31 (pby y) hs a b n pc pn = true) (h900 : sh.length < 900) (hnc : nc + 1 ≤ (PG.2.1 y).2.2.2.2.2.1) (hns : ns + b ≤ (PG.2.1 y).2.2.2.2.2.2.1) (hrO : mNrO sh.length L = true) (hrS : mNrS sh.length S = true) (hrH : mNrH sh.length sh = true) (k : ∀ (ρ2 : mRho) (H1 : Heap), mHI s y D A ρ0 M0 sh0 ρ2 (sh ++ [(a, b, [])]) (mSet M sh.length (fun _ => 0)) (mSetJ J sh.length (fun _ => 0)) (nc + 1) (ns + b) H1 locs → mLoc ρ2 ls nL L → W p l e R s m args below meth c H1 locs (nc + 1) (ns + b) Q (F0 m pn ls (.ref (ρ2 sh.length).1 :: S.map (mTr ρ2)))) : W p l e R s m args below meth c H locs nc ns Q (F0 m pc ls (.int n :: S.map (mTr ρ))) := by
  obtain ⟨hx, hb, hml, hown, hts, hnm, hA, hK, hCF, hf, hlo, hce, hsl⟩ := C
  have I0 := I
  obtain ⟨hP, hD, hS, hAF, hM, hkd, -⟩ := I
  unfold ok31 at h
  simp only [Bool.and_eq_true, decide_eq_true_eq] at h
  obtain ⟨rfl, ⟨rfl, hb1, hb2⟩, h⟩ := h
  have hN : (Int32.ofNat b).toNatClampNeg = b := nI_clamp (n := b) (by omega)
  have hn0 : ¬ Int32.ofNat b < 0 := nI_pos (n := b) (by omega)
  split at h <;> rename_i hd
  · simp only [Bool.and_eq_true, decide_eq_true_eq] at h
    obtain ⟨rfl, h⟩ := h
    exact va_newa (atype := .int) (ty := .int) (a0 := (b, .inl (fun _ => 0))) hx hb (hts _ (oW_in h)) rfl hK hP hD hS hA (fun _ => rfl) hn0 hN (by show b * 4 ≤ _; omega) (by omega) (by omega) hd (so3x (cell := (1, b, [])) (ty := .int) (E := fun cA => .inl (cA, b, .inl (fun _ => 0))) I0 hL hpl h900 hnc hns hrO hrS hrH (Nat.le_of_ble_eq_true rfl) rfl (fun q0 cA => by rw [mCell_1 (Or.inl rfl), mSet_at, mRh_at]) k)
  · simp only [Bool.and_eq_true, decide_eq_true_eq] at h
    obtain ⟨rfl, h⟩ := h
    exact va_newa (atype := .long) (ty := .long) (a0 := (b, .inr (.inl (fun _ => 0)))) hx hb (hts _ (oW_in h)) rfl hK hP hD hS hA (fun _ => rfl) hn0 hN (by show b * 8 ≤ _; omega) (by omega) (by omega) hd (so3x (cell := (2, b, [])) (ty := .long) (E := fun cA => .inl (cA, b, .inr (.inl (fun _ => 0)))) I0 hL hpl h900 hnc hns hrO hrS hrH (Nat.le_of_ble_eq_true rfl) rfl (fun q0 cA => by rw [mCell_2 rfl, mSetJ_at, mRh_at]) k)
  · simp only [Bool.and_eq_true, decide_eq_true_eq] at h
    obtain ⟨rfl, h⟩ := h
    exact va_newa (atype := .boolean) (ty := .boolean) (a0 := (b, .inl (fun _ => 0))) hx hb (hts _ (oW_in h)) rfl hK hP hD hS hA (fun _ => rfl) hn0 hN (by show b * 1 ≤ _; omega) (by omega) (by omega) hd (so3x (cell := (3, b, [])) (ty := .boolean) (E := fun cA => .inl (cA, b, .inl (fun _ => 0))) I0 hL hpl h900 hnc hns hrO hrS hrH (Nat.le_of_ble_eq_true rfl) rfl (fun q0 cA => by rw [mCell_1 (Or.inr rfl), mSet_at, mRh_at]) k)
  · cases h
theorem so32 {b : Nat} {n : Int32} {L : List (Option Value)} {S : List Value} {nL : Nat} (C : mAct p s m args meth c R y D A ρ0 M0) (I : mHI s y D A ρ0 M0 sh0 ρ sh M J nc ns H locs) (hL : mLoc ρ ls nL L) (hpl : (PG.2.1 y).2.2.1 = 0) (h : ok32 (pby y) (pnm y).cls hs b n pc pn = true) (h900 : sh.length < 900) (hnc : nc + 1 ≤ (PG.2.1 y).2.2.2.2.2.1) (hns : ns + b ≤ (PG.2.1 y).2.2.2.2.2.2.1) (hrO : mNrO sh.length L = true) (hrS : mNrS sh.length S = true) (hrH : mNrH sh.length sh = true) (k : ∀ (ρ2 : mRho) (H1 : Heap), mHI s y D A ρ0 M0 sh0 ρ2 (sh ++ [(4, b, mZeros b)]) (mSet M sh.length (fun _ => 0)) (mSetJ J sh.length (fun _ => 0)) (nc + 1) (ns + b) H1 locs → mLoc ρ2 ls nL L → W p l e R s m args below meth c H1 locs (nc + 1) (ns + b) Q (F0 m pn ls (.ref (ρ2 sh.length).1 :: S.map (mTr ρ2)))) : W p l e R s m args below meth c H locs nc ns Q (F0 m pc ls (.int n :: S.map (mTr ρ))) := by
  obtain ⟨hx, hb, hml, hown, hts, hnm, hA, hK, hCF, hf, hlo, hce, hsl⟩ := C
  have I0 := I
  obtain ⟨hP, hD, hS, hAF, hM, hkd, -⟩ := I
  unfold ok32 at h
  simp only [Bool.and_eq_true, decide_eq_true_eq] at h
  obtain ⟨rfl, ⟨rfl, hb1, hb2⟩, h⟩ := h
  have hN : (Int32.ofNat b).toNatClampNeg = b := nI_clamp (n := b) (by omega)
  have hn0 : ¬ Int32.ofNat b < 0 := nI_pos (n := b) (by omega)
  have hz : ∀ n j, mNth 0 (mZeros n) j = 0 := by
    intro n
    induction n with
    | zero => intro j; exact mNth_far 0 [] j (by simp)
    | succ n ih => intro j; cases j with
      | zero => rfl
      | succ j => exact ih j
  split at h
  · rename_i kx hd
    exact va_newq hx hb hown (hts _ (oW_in h)) hCF.2.2.2.2.2.1 hK hP hD hS hA hn0 hN (by omega) (by omega) (by omega) hd (so3x (cell := (4, b, mZeros b)) (ty := .object "PotAndFine$Kept") (E := fun cA => .inl (cA, b, .inr (.inr (.inr (.inr (fun _ => none)))))) I0 hL hpl h900 hnc hns hrO hrS hrH (Nat.le_of_ble_eq_true rfl) rfl (fun q0 cA => by
      rw [mCell_4 rfl, mRh_at]
      have : (fun i => mRo (mRh ρ sh.length (q0, cA)) (mNth 0 (mZeros b) i)) = fun _ => none := by
        funext i
        rw [hz]
        rfl
      dsimp only
      rw [this]) k)
  · cases h
end OPS
end
section
/-! a callee's contract out of a run of the small machine -/
def mPre (D : va_G) (ρ0 : mRho) (M0 : mMI) (sh : List mSC) (M : mMI) (J : mMJ) (As : List Value) (sz : Nat) : Array Value → State → Prop := va_Pc (As.map (mTr ρ0)) (fun U => U.heap.size = sz ∧ va_P D vwCl (mWd ρ0 M J sh) U.heap ∧ va_K D vwCl [] U ∧ va_D (va_A (mWd ρ0 M J sh) sz) (mWd ρ0 M J sh) ∧ mAF ρ0 sh U ∧ mCF ρ0 M0 (va_A (mWd ρ0 M J sh) sz) U U.heap)
def mPost (D : va_G) (ρ0 : mRho) (M0 : mMI) (sh : List mSC) (M : mMI) (J : mMJ) (sz z : Nat) (r : mRs) : Array Value → State → Outcome → State → Prop := fun _ st oc t => (∃ ρ : mRho, oc = .returned (r.1.map (mTr ρ)) ∧ (¬ (PG.2.1 z).2.2.1 = 0 → ρ = ρ0 ∧ r.2.1 = sh) ∧ (∀ k, k < sh.length ∨ 999 ≤ k → ρ k = ρ0 k) ∧ sh.length ≤ r.2.1.length ∧ (r.2.1.length < 999 ∧ ∀ q ∈ r.2.1, q.1 ≤ 4) ∧ (∀ k, 999 ≤ k → r.2.2.1 k = M0 k) ∧ va_P D vwCl (mWd ρ r.2.2.1 r.2.2.2.1 r.2.1) t.heap ∧ va_K D vwCl [] t ∧ va_D (va_A (mWd ρ0 M J sh) sz) (mWd ρ r.2.2.1 r.2.2.2.1 r.2.1) ∧ mAF ρ r.2.1 t) ∧ va_F (va_A (mWd ρ0 M J sh) sz) st t
noncomputable def mRoom (z : Nat) : Room := { frames := (PG.2.1 z).2.2.2.1, cells := (PG.2.1 z).2.2.2.2.2.1, slots := (PG.2.1 z).2.2.2.2.2.2.1, locals := 37 * (PG.2.1 z).2.2.2.1 }
theorem mAF.moved {ρ : mRho} {sh : List mSC} {u U : State} (hvm : u.vm.Alike U.vm) (h : mAF ρ sh u) : mAF ρ sh U := fun k c ty h1 h2 => ⟨arrOfT_moved hvm (h k c ty h1 h2).1, (h k c ty h1 h2).2.moved hvm⟩
theorem lg_len (ρ : mRho) : ∀ (vs : List Value), (lg_sl (vs.map (mTr ρ))).length = (mArgs vs).length
  | [] => rfl
  | v :: vs => by
    have ih := lg_len ρ vs
    have hc := mTr_cat ρ v
    unfold lg_sl at ih ⊢
    cases hv : mCat2 (some v) with
    | true =>
      have h2 : (mTr ρ v).category = 2 := by rw [hc]; exact mCat2_iff.mp hv
      simp only [List.map_cons, List.flatMap_cons, List.length_append, h2, if_true, mArgs, hv, List.length_cons, List.length_nil, ih]
      omega
    | false =>
      have h2 : ¬ (mTr ρ v).category = 2 := by rw [hc]; intro q; rw [mCat2_iff.mpr q] at hv; cases hv
      simp only [List.map_cons, List.flatMap_cons, List.length_append, if_neg h2, mArgs, hv, List.length_cons, List.length_nil, ih]
      omega
/-- what okZ says -/
theorem okZ_at {z : Nat} (h : okZ z = true) : Cond.code (pnm z) (pby z) (PG.2.1 z).1 (prt z) ∈ TB ∧ Cond.initialized (pnm z).cls ∈ TB ∧ ((pnm z).cls ≠ "java/lang/invoke/MethodHandle" ∧ (pnm z).cls ≠ "java/lang/invoke/VarHandle" ∧ plainName (pnm z).cls = true ∧ (PG.2.1 z).1 ≤ 18 ∧ pPc z 0 = 0 ∧ (¬ (PG.2.1 z).2.1 = 3 ∨ ¬ (PG.2.1 z).2.2.2.2.2.2.2 = 0)) ∧ ((PG.2.1 z).2.2.2.2.1 = 9 ∨ ((PG.2.1 z).2.2.2.2.1 = 8 ∧ (pnm z).cls = "java/lang/String") ∨ (vwCl[(PG.2.1 z).2.2.2.2.1]?).map (fun q => q.1) = some (pnm z).cls) ∧ (((PG.2.1 z).2.1 = 0 ∧ prt z = none) ∨ ((PG.2.1 z).2.1 = 1 ∧ prt z = some .int) ∨ ((PG.2.1 z).2.1 = 2 ∧ prt z = some .long) ∨ ((PG.2.1 z).2.1 = 3 ∧ prt z = some (.object "PotAndFine$Course")) ∨ ((PG.2.1 z).2.1 = 4 ∧ prt z = some .boolean) ∨ ((PG.2.1 z).2.1 = 5 ∧ prt z = some .byte)) ∧ (((PG.2.1 z).2.2.1 = 0 ∧ (PG.2.1 z).2.1 = 0) ∨ ((PG.2.1 z).2.2.1 = 1 ∧ (PG.2.1 z).2.2.2.2.2.1 = 0 ∧ (PG.2.1 z).2.2.2.2.2.2.1 = 0)) := by
  unfold okZ at h
  simp only [Bool.and_eq_true, decide_eq_true_eq] at h
  exact ⟨oW_in h.1, oW_in h.2.1, h.2.2.1, h.2.2.2.1, h.2.2.2.2.1, h.2.2.2.2.2⟩
set_option maxHeartbeats 4000000 in
theorem mMet {n : Nat} (IH : mSim n) {z : Nat} (hz : okZ z = true) {As : List Value} {sh : List mSC} {M : mMI} {J : mMJ} {r : mRs} (hev : mEv PG n (mEnt PG z As sh M J) = some r) {M0 : mMI} (hM : ∀ k, 999 ≤ k → M k = M0 k) (hkd : sh.length < 999 ∧ ∀ q ∈ sh, q.1 ≤ 4) (hal : (mArgs As).length ≤ (PG.2.1 z).1) (l : Launch) (D : va_G) (ρ0 : mRho) (sz : Nat) : Met l (pnm z) (Cond.code (pnm z) (pby z) (PG.2.1 z).1 (prt z) :: TB) (mRoom z) (mPre D ρ0 M0 sh M J As sz) (mPost D ρ0 M0 sh M J sz z r) (PG.2.1 z).2.2.2.2.2.1 (PG.2.1 z).2.2.2.2.2.2.1 (va_A (mWd ρ0 M J sh) sz) := by
  obtain ⟨-, -, ⟨-, -, hpn, -, hp0, -⟩, -, hrt, hpl⟩ := okZ_at hz
  refine Met.ofW (cc := pby z) (maxL := (PG.2.1 z).1) (ret := prt z) hpn rfl ?_
  intro p e s m args below meth c s₁ B hml hv
  obtain ⟨rfl, hsz, hP, hK, hD, hAF, hCF⟩ := hv
  have hx := B.exec
  have hb := B.bytes
  have hr := B.returns
  have hts := atoms_spec (ws := Cond.code (pnm z) (pby z) (PG.2.1 z).1 (prt z) :: TB) B.pre
  have hown : s.vm.findClass (pnm z).cls = some m.cls := findClass_of_methodNamed B.named
  have hlocks := B.notSynchronized
  have hnm : meth.name = (pnm z).name := (name_of_methodNamed B.named B.method).1
  subst hsz
  generalize hAe : va_A (mWd ρ0 M J sh) s.heap.size = A at hD hCF ⊢
  have hA : ∀ q : Nat, s.heap.size ≤ q → A q := fun q h => by rw [← hAe]; exact Or.inr h
  have hC : mAct p s m (As.map (mTr ρ0)).toArray meth c (mRoom z) z D A ρ0 M0 := ⟨hx, hb, hml, hown, fun w hw => hts w (List.mem_cons_of_mem _ hw), hnm, hA, hK, hCF, Nat.le_refl _, Nat.le_refl _, Nat.le_refl _, Nat.le_refl _⟩
  have hI : mHI s z D A ρ0 M0 sh ρ0 sh M J 0 0 s.heap [] := ⟨hP, hD, va_S.rf, hAF, hM, hkd, fun _ => ⟨rfl, rfl, rfl, rfl⟩, fun _ _ => rfl, Nat.le_refl _, Nat.zero_le _, Nat.zero_le _⟩
  rw [lg_entry_eq]
  have hl := mLoc.entry (ρ := ρ0) As (n := (PG.2.1 z).1) (by rw [lg_len]; exact hal)
  generalize (lg_sl (As.map (mTr ρ0)) ++ List.replicate ((PG.2.1 z).1 - (lg_sl (As.map (mTr ρ0))).length) Slot.unset).toArray = ls at hl ⊢
  have key := IH p l e (mRoom z) s m (As.map (mTr ρ0)).toArray below meth c (MQ below (mPost D ρ0 M0 sh M J s.heap.size z r) (As.map (mTr ρ0)).toArray s (PG.2.1 z).2.2.2.2.2.1 (PG.2.1 z).2.2.2.2.2.2.1 A) z 0 (mPad (PG.2.1 z).1 (mArgs As)) [] sh M J 0 0 r D A ρ0 M0 sh ρ0 s.heap [] ls hev hC hI hl
  rw [hp0] at key
  refine key ?_
  intro i ρ S sh2 M2 J2 nc ns H locs ls2 h34 hret I2
  obtain ⟨iP, iD, iS, iAF, iM, ikd, ipl, iρ, ilen, inc, ins⟩ := I2
  have hq : ∀ v : Option Value, r = (v, sh2, M2, J2, nc, ns) → ∀ t : State, t.heap = H → s.WarmedH t.vm → mPost D ρ0 M0 sh M J s.heap.size z r (As.map (mTr ρ0)).toArray s (.returned (v.map (mTr ρ))) t := by
    intro v e t ht hW
    subst e
    refine ⟨⟨ρ, rfl, fun q => ⟨(ipl q).1, (ipl q).2.1⟩, iρ, ilen, ikd, iM, by rw [ht]; exact iP, va_K.moved hW.alike hK, by rw [hAe]; exact iD, iAF.moved hW.alike⟩, ?_⟩
    rw [hAe]
    exact iS.F ht
  refine W.widen (k := (PG.2.1 z).2.2.2.2.2.1) (n := (PG.2.1 z).2.2.2.2.2.2.1) inc ins ?_
  unfold ok34 at h34
  generalize (PG.2.1 z).2.1 = rt at h34 hret hrt
  split at h34 <;> rename_i hd
  · rw [decide_eq_true_eq] at h34
    subst h34
    have hn : prt z = none := by simpa using hrt
    match S, hret with
    | [], hret => exact W.vret hx hb (hr.trans hn) (hq none (Option.some.inj hret).symm) iS.2.2 hd
    | _ :: _, hret => cases hret
  · rw [decide_eq_true_eq] at h34
    rcases h34 with rfl | rfl | rfl
    · have hn : prt z = some .int := by simpa using hrt
      match S, hret with
      | [.int v], hret => exact W.iret hx hb (hr.trans hn) (hq (some (.int v)) (Option.some.inj hret).symm) iS.2.2 hd
    · have hn : prt z = some .boolean := by simpa using hrt
      match S, hret with
      | [.int v], hret =>
        have hret : mZ v (sh2, M2, J2, nc, ns) = some r := hret
        unfold mZ at hret
        split at hret
        · rename_i e0
          subst e0
          exact W.zret hx hb (hr.trans hn) (by decide +kernel) (hq (some (.int 0)) (Option.some.inj hret).symm) iS.2.2 hd
        · split at hret
          · rename_i e1
            subst e1
            exact W.zret hx hb (hr.trans hn) (by decide +kernel) (hq (some (.int 1)) (Option.some.inj hret).symm) iS.2.2 hd
          · cases hret
    · have hn : prt z = some .byte := by simpa using hrt
      match S, hret with
      | [.int v], hret =>
        have hret : (if v = 0 then some (some (.int 0), (sh2, M2, J2, nc, ns)) else none) = some r := hret
        split at hret
        · rename_i e0
          subst e0
          exact W.zret hx hb (hr.trans hn) (by decide +kernel) (hq (some (.int 0)) (Option.some.inj hret).symm) iS.2.2 hd
        · cases hret
  · rw [decide_eq_true_eq] at h34
    subst h34
    have hn : prt z = some .long := by simpa using hrt
    match S, hret with
    | [.long v], hret => exact W.lret hx hb (hr.trans hn) (hq (some (.long v)) (Option.some.inj hret).symm) iS.2.2 hd
  · rw [decide_eq_true_eq] at h34
    subst h34
    have hn : prt z = some (.object "PotAndFine$Course") := by simpa using hrt
    match S, hret with
    | [.ref v], hret => exact W.aret hx hb (hr.trans hn) (Or.inl ⟨_, rfl⟩) (Or.inr ⟨_, rfl⟩) (hq (some (.ref v)) (Option.some.inj hret).symm) iS.2.2 hd
  · cases h34
end
section
/-! soundness of calls -/
theorem mPop_eq : ∀ {n : Nat} {a S0 A S : List Value}, mPop n a S0 = some (A, S) → A.reverse ++ S = a.reverse ++ S0 ∧ A.length = n + a.length
  | 0, a, S0, A, S, h => by
    cases h
    exact ⟨rfl, by omega⟩
  | n + 1, a, [], A, S, h => by cases h
  | n + 1, a, v :: S0, A, S, h => by
    obtain ⟨h1, h2⟩ := mPop_eq (n := n) (a := v :: a) h
    refine ⟨by rw [h1]; simp, ?_⟩
    rw [h2]
    simp
    omega
theorem pcon_tx : ∀ q ∈ pcon, q.1 = 7 → ¬ mNth 0 q.2.2 0 = 0 ∧ 1000 ≤ mNth 0 q.2.2 0 := by decide +kernel
theorem mCF.re {ρ ρ2 : mRho} {M0 : mMI} {A : Nat → Prop} {U : State} {H : Heap} (h : mCF ρ M0 A U H) (hρ : ∀ k, 999 ≤ k → ρ2 k = ρ k) : mCF ρ2 M0 A U H := by
  obtain ⟨h1, h2, h3, h4, h5, h6, h7⟩ := h
  have pl1 : ∀ q ∈ pSt, 999 ≤ q.1 := by decide +kernel
  have pl2 : ∀ q ∈ pTx, 999 ≤ q.2.2 := by decide +kernel
  refine ⟨fun j c hj => ?_, fun q hq => by rw [hρ q.1 (pl1 q hq)]; exact h2 q hq, fun q hq => by rw [hρ q.2.2 (pl2 q hq)]; exact h3 q hq, h4, h5, h6, h7⟩
  have g := h1 j c hj
  have e0 : ρ2 (1000 + j) = ρ (1000 + j) := hρ _ (by omega)
  have e1 : c.1 = 7 → mTr ρ2 (mRef (mNth 0 c.2.2 0)) = mTr ρ (mRef (mNth 0 c.2.2 0)) := by
    intro h7
    obtain ⟨g1, g2⟩ := pcon_tx c (List.mem_of_getElem? hj) h7
    obtain ⟨r, hr⟩ : ∃ r, mNth 0 c.2.2 0 = r + 1 := ⟨mNth 0 c.2.2 0 - 1, by omega⟩
    rw [hr]
    show Value.ref (ρ2 r).1 = Value.ref (ρ r).1
    rw [hρ r (by omega)]
  obtain ⟨k1, k2, k3⟩ := c
  unfold mCC at g ⊢
  split at g <;> rename_i hc
  · simp only [hc] at *
    rw [e0]
    exact g
  · simp only [hc] at *
    rw [e0]
    exact g
  · simp only [hc] at *
    rw [e0, e1 (by first | exact hc | trivial | rfl)]
    exact g
  · trivial
theorem TB_sub {w : Cond} {ws : List Cond} (hw : w ∈ TB) : GoodIn TB (w :: TB) := by
  intro v hv
  have h : v ∈ TB := by
    rcases List.mem_cons.mp hv with rfl | h
    · exact hw
    · exact h
  exact ⟨h, good_of_word (TB_good h)⟩
theorem TB_app {a b : List Cond} (ha : ∀ w ∈ a, w ∈ TB) (hb : GoodIn TB b) : GoodIn TB (a ++ b) := by
  intro v hv
  rcases List.mem_append.mp hv with h | h
  · exact ⟨ha v h, good_of_word (TB_good (ha v h))⟩
  · exact hb v h
section OPS
variable {p : Program} {l : Launch} {e : Env} {R : Room} {s : State} {m : MethodId} {args : Array Value} {below : List Frame} {meth : Method} {c : Code} {Q : State → Prop} {y : Nat} {D : va_G} {A0 : Nat → Prop} {ρ0 : mRho} {M0 : mMI} {sh0 : List mSC} {ρ : mRho} {sh : List mSC} {M : mMI} {J : mMJ} {nc ns : Nat} {H : Heap} {locs : List Loc} {ls : Array Slot} {pc pn : Nat} {hs : List Nat}
/-- behind a call -/
theorem mw_call {cells slots mc ms sz z : Nat} {r : mRs} {a : Array Value} {free : Addr → Prop} {st0 rest : List Value} (hr : va_Run p l e R s m args below meth c H locs cells slots mc ms (F0 m pc ls st0) rest (mPost D ρ M0 sh M J sz z r a) free) (hS : va_S A0 s.heap H locs) (hA : ∀ q, q < H.size → va_A (mWd ρ M J sh) sz q → A0 q) (hA2 : ∀ q, va_A (mWd ρ M J sh) sz q → A0 q) (hf : ∀ q, free q → A0 q)
    (kk : ∀ (ρ2 : mRho) (H1 : Heap) (locs1 : List Loc), (¬ (PG.2.1 z).2.2.1 = 0 → ρ2 = ρ ∧ r.2.1 = sh) → (∀ k, k < sh.length ∨ 999 ≤ k → ρ2 k = ρ k) → sh.length ≤ r.2.1.length → (r.2.1.length < 999 ∧ ∀ q ∈ r.2.1, q.1 ≤ 4) → (∀ k, 999 ≤ k → r.2.2.1 k = M0 k) → va_P D vwCl (mWd ρ2 r.2.2.1 r.2.2.2.1 r.2.1) H1 → va_D A0 (mWd ρ2 r.2.2.1 r.2.2.2.1 r.2.1) → va_S A0 s.heap H1 locs1 → mAF ρ2 r.2.1 s → W p l e R s m args below meth c H1 locs1 (cells + mc) (slots + ms) Q (F0 m (pc + 3) ls ((r.1.map (mTr ρ2)).toList ++ rest))) : W p l e R s m args below meth c H locs cells slots Q (F0 m pc ls st0) := by
  intro T hT X
  obtain ⟨v, st₀, t, T', L, h0, X', hL, e1, e2, ⟨⟨ρ2, hv, g1, g2, g3, g4, g5, g6, g7, g8, g9⟩, hz, hk⟩, st⟩ := hr T hT X
  cases hv
  rw [h0] at hz hk
  have hvm : s.vm.Alike t.vm := by rw [← e2]; exact X'.warmed.alike
  obtain ⟨t2, a1, b1⟩ := kk ρ2 T'.heap (locs ++ L) g1 g2 g3 g4 g5 (by rw [e1]; exact g6) (g8.weaken (fun _ q _ h => hA2 q.1 h)) ⟨Nat.le_trans hS.1 (by rw [e1]; exact hz), fun q h1 h2 => by rw [e1, hk q (Nat.lt_of_lt_of_le h1 hS.1) (fun z => h2 (hA q (Nat.lt_of_lt_of_le h1 hS.1) z))]; exact hS.2.1 q h1 h2, fun q hq => by
      rcases List.mem_append.mp hq with h | h
      · exact hS.2.2 q h
      · exact hf _ (hL q h)⟩ (g9.moved hvm.symm) T' rfl X'
  exact ⟨t2, st t2 a1, b1⟩
/-- a call: words, room, receiver, contract, and what comes back -/
theorem so33 {n : Nat} (IH : mSim n) {z w : Nat} (C : mAct p s m args meth c R y D A0 ρ0 M0) (I : mHI s y D A0 ρ0 M0 sh0 ρ sh M J nc ns H locs) (hls : ls.size = (PG.2.1 y).1) (h : ok33 (pby y) (pnm y).cls hs z w pc pn = true) (hzz : okZ z = true) (hrank : (PG.2.1 z).2.2.2.1 < (PG.2.1 y).2.2.2.1) (hcl : nc + (PG.2.1 z).2.2.2.2.2.1 ≤ (PG.2.1 y).2.2.2.2.2.1) (hsl : ns + (PG.2.1 z).2.2.2.2.2.2.1 ≤ (PG.2.1 y).2.2.2.2.2.2.1) {A S : List Value} (hAl : A.length = w) (hsh : mShort S 8 = true) (hrcv : mRcv pcon sh (PG.2.1 z).2.2.2.2.1 A = true) (hal : (mArgs A).length ≤ (PG.2.1 z).1) {r : mRs} (hev : mEv PG n (mEnt PG z A sh M J) = some r)
    (k : ∀ (ρ2 : mRho) (H1 : Heap) (locs1 : List Loc), (¬ (PG.2.1 z).2.2.1 = 0 → ρ2 = ρ ∧ r.2.1 = sh) → (∀ k, k < sh.length ∨ 999 ≤ k → ρ2 k = ρ k) → sh.length ≤ r.2.1.length → (r.2.1.length < 999 ∧ ∀ q ∈ r.2.1, q.1 ≤ 4) → (∀ k, 999 ≤ k → r.2.2.1 k = M0 k) → va_P D vwCl (mWd ρ2 r.2.2.1 r.2.2.2.1 r.2.1) H1 → va_D A0 (mWd ρ2 r.2.2.1 r.2.2.2.1 r.2.1) → va_S A0 s.heap H1 locs1 → mAF ρ2 r.2.1 s → W p l e R s m args below meth c H1 locs1 (nc + (PG.2.1 z).2.2.2.2.2.1) (ns + (PG.2.1 z).2.2.2.2.2.2.1) Q (F0 m pn ls ((r.1.map (mTr ρ2)).toList ++ S.map (mTr ρ)))) : W p l e R s m args below meth c H locs nc ns Q (F0 m pc ls ((A.reverse ++ S).map (mTr ρ))) := by
  obtain ⟨hx, hb, hml, hown, hts, hnm, hA, hK, hCF, hfr, hlo, hce, hslo⟩ := C
  obtain ⟨hP, hD, hS, hAF, hM, hkd, hpl, hρ, -⟩ := I
  obtain ⟨hcode, hini, ⟨hc1, hc2, -, hmx, -, -⟩, hcls, hrt, hplz⟩ := okZ_at hzz
  have hA2 : ∀ q, va_A (mWd ρ M J sh) H.size q → A0 q := by
    intro q hq
    rcases hq with ⟨k, e, hk⟩ | hq
    · exact hD.2 k _ hk
    · exact hA q (Nat.le_trans hS.1 hq)
  have hMet := mMet IH hzz hev hM hkd hal l D ρ H.size
  have hblind : FrameBlind (mPre D ρ M0 sh M J A H.size) := by
    intro a U g mk q
    obtain ⟨q0, q1, q2, q3, q4, q5, q6⟩ := q
    exact ⟨q0, q1, q2, va_K.moved (u := U) (U := U.calling g mk a) (Vm.Alike.refl U.vm) q3, q4, mAF.moved (u := U) (U := U.calling g mk a) (Vm.Alike.refl U.vm) q5, mCF.to (U := U.calling g mk a) q6 (va_S.rf (A := va_A (mWd ρ M J sh) H.size) (H0 := U.heap)) (State.WarmedH.refl U) (fun _ z => z)⟩
  have hpre : ∀ U : State, U.heap = H → s.WarmedH U.vm → mPre D ρ M0 sh M J A H.size (A.map (mTr ρ)).toArray U := by
    intro U hU hW
    refine ⟨rfl, by rw [hU], by rw [hU]; exact hP, va_K.moved hW.alike hK, ?_, hAF.moved hW.alike, ?_⟩
    · exact hD.self (sz := H.size)
    · rw [hU]
      exact (hCF.re (fun k hk => hρ k (Or.inr hk))).to hS hW hA2
  have hGood : GoodIn TB (Cond.code (pnm z) (pby z) (PG.2.1 z).1 (prt z) :: TB) := TB_sub (ws := []) hcode
  have hroom : (mRoom z).frames + 1 ≤ R.frames ∧ 8 + ((PG.2.1 z).1 + 11) + (mRoom z).locals ≤ R.locals := by
    refine ⟨?_, ?_⟩
    · show (PG.2.1 z).2.2.2.1 + 1 ≤ R.frames
      omega
    · show 8 + ((PG.2.1 z).1 + 11) + 37 * (PG.2.1 z).2.2.2.1 ≤ R.locals
      omega
  have hfit : nc + (PG.2.1 z).2.2.2.2.2.1 ≤ R.cells ∧ ns + (PG.2.1 z).2.2.2.2.2.2.1 ≤ R.slots := ⟨by omega, by omega⟩
  have hst : ((S.map (mTr ρ)).map fun v => v.category).sum ≤ 8 := mShort_le hsh
  have hpar : ∀ {k : Nat}, (parseMethodDescriptor (pnm z).desc).map (fun d => d.parameters.length + 1) = some (k + 1) → (parseMethodDescriptor (pnm z).desc).map (fun d => d.parameters.length) = some k := by
    intro k hk
    cases hp : parseMethodDescriptor (pnm z).desc with
    | none => rw [hp] at hk; cases hk
    | some d =>
      rw [hp] at hk
      simp only [Option.map_some, Option.some.injEq] at hk ⊢
      omega
  unfold ok33 at h
  simp only [Bool.and_eq_true, decide_eq_true_eq] at h
  obtain ⟨rfl, -, h⟩ := h
  have recv : (PG.2.1 z).2.2.2.2.1 < 9 → ∃ (o : Nat) (B : List Value), A = .ref o :: B ∧ ∃ cellB : Cell, H[(ρ o).1]? = some cellB ∧ cellB.vm.isStatics = false ∧ s.vm.findClass (pnm z).cls = some cellB.cls := by
    intro h9
    match A, hrcv with
    | [], hrcv => 
      unfold mRcv at hrcv
      split at hrcv
      · omega
      · cases hrcv
      · cases hrcv
    | v :: B, hrcv =>
      unfold mRcv at hrcv
      split at hrcv
      · omega
      · rename_i e8
        split at hrcv
        · rename_i a rest hq
          cases hq
          refine ⟨a, B, rfl, ?_⟩
          have hk7 : (mAt pcon sh a).1 = 7 := by simpa using hrcv
          rcases mAt_or hkd.2 (by rw [hk7]; decide) with ⟨-, w0⟩ | ⟨j, rfl, w0, -⟩
          · rw [hk7] at w0
            simp at w0
          · have g := (mCC_7 hk7 (hCF.1 j _ w0)).1
            rw [hρ (1000 + j) (Or.inr (by omega))]
            have hn : (pnm z).cls = "java/lang/String" := by
              rcases hcls with q | q | q
              · omega
              · exact q.2
              · rw [e8] at q
                simp [vwCl] at q
            rw [hn]
            obtain ⟨cell, c1, c2, c3, c4⟩ := g
            exact ⟨cell, by rw [hS.2.1 _ (Array.getElem?_eq_some_iff.mp c1).1 c4]; exact c1, c2, c3⟩
        · cases hrcv
      · rename_i x e9 e8
        split at hrcv
        · rename_i a rest hq
          cases hq
          refine ⟨a, B, rfl, ?_⟩
          simp only [Bool.and_eq_true, beq_iff_eq, Nat.blt_eq] at hrcv
          obtain ⟨hk0, hkc, -⟩ := hrcv
          rcases mAt_or hkd.2 (by rw [hk0]; decide) with ⟨w0, -⟩ | ⟨j, -, -, w0⟩
          · have hw := mWd_at (ρ := ρ) (M := M) (J := J) w0
            rw [mCell_0 hk0, hkc] at hw
            obtain ⟨q, hq, -⟩ := hP a _ hw
            have hq : vwCl[(PG.2.1 z).2.2.2.2.1]? = some q := hq
            have hn : (pnm z).cls = q.1 := by
              rcases hcls with t | t | t
              · omega
              · exact absurd t.1 e8
              · rw [hq] at t
                exact (Option.some.inj t).symm
            rw [hn]
            exact va_recv hK hP hq hw
          · rw [hk0] at w0
            simp at w0
        · cases hrcv
  split at h
  · rename_i kx hd
    simp only [Bool.and_eq_true, decide_eq_true_eq] at h
    obtain ⟨⟨h9, hpl1, hpa⟩, w1, w2, w3⟩ := h
    obtain ⟨o, B, rfl, hre⟩ := recv h9
    simp only [List.length_cons] at hAl
    subst hAl
    have est : ((Value.ref o :: B).reverse ++ S).map (mTr ρ) = (B.map (mTr ρ)).reverse ++ .ref (ρ o).1 :: S.map (mTr ρ) := by simp [List.map_reverse, mTr]
    rw [est]
    refine mw_call (va_runV (As := B.map (mTr ρ)) (rest := S.map (mTr ρ)) (C := (pnm z).cls) ⟨hx, hb, hml, hown, hts⟩ hMet (cwV B.length hts (TB_app (a := [.methodLink (pnm y).cls kx (pnm z), .instanceMethod (pnm z), .selects (pnm z).cls (pnm z) (pnm z), .initialized (pnm z).cls]) (fun v hv => ?_) hGood) rfl rfl rfl ⟨rfl, hc1, hc2, hpar hpa⟩ hroom) ⟨hblind, hre, hpre⟩ rfl (by simp) hls rfl (lv_room hst) hd hfit) hS (fun q _ hq => hA2 q hq) hA2 hA2 k
    simp only [List.mem_cons, List.not_mem_nil, or_false] at hv
    rcases hv with rfl | rfl | rfl | rfl
    · exact oW_in w1
    · exact oW_in w2
    · exact oW_in w3
    · exact hini
  · rename_i kx hd
    simp only [Bool.and_eq_true, Bool.or_eq_true, decide_eq_true_eq] at h
    obtain ⟨⟨h9, hpl1, hpa⟩, h⟩ := h
    have est : (A.reverse ++ S).map (mTr ρ) = (A.map (mTr ρ)).reverse ++ S.map (mTr ρ) := by simp [List.map_reverse]
    rw [est]
    subst hAl
    rcases h with ⟨w1, w2⟩ | ⟨w1, w2⟩
    · refine mw_call (va_runS (As := A.map (mTr ρ)) (rest := S.map (mTr ρ)) ⟨hx, hb, hml, hown, hts⟩ hMet (va_cwS A.length hts (TB_app (a := [.methodLink (pnm y).cls kx (pnm z), .static (pnm z), .initialized (pnm z).cls]) (fun v hv => ?_) hGood) rfl rfl rfl ⟨hc1, hc2, hpa⟩ hroom) ⟨hblind, hpre⟩ rfl (by simp) hls rfl (lv_room hst) hd hfit) hS (fun q _ hq => hA2 q hq) hA2 hA2 k
      simp only [List.mem_cons, List.not_mem_nil, or_false] at hv
      rcases hv with rfl | rfl | rfl
      · exact oW_in w1
      · exact oW_in w2
      · exact hini
    · have hn := hCF.2.2.2.2.1 _ (of_decide_eq_true w1)
      exact mw_call (va_runSN (As := A.map (mTr ρ)) (rest := S.map (mTr ρ)) ⟨hx, hb, hml, hown, hts⟩ hMet ⟨va_cnB A.length hts hGood rfl rfl rfl hn (hts _ hini) ⟨hc1, hc2, hpa⟩ hroom, hts _ (oW_in w2), trivial⟩ ⟨hblind, hpre⟩ rfl (by simp) hls rfl (lv_room hst) hd hfit) hS (fun q _ hq => hA2 q hq) hA2 hA2 k
  · rename_i kx hd
    simp only [Bool.and_eq_true, Bool.or_eq_true, decide_eq_true_eq] at h
    obtain ⟨⟨h9, hpl1, hnmz, hrz, hpa⟩, h⟩ := h
    obtain ⟨o, B, rfl, hre⟩ := recv (by omega)
    simp only [List.length_cons] at hAl
    subst hAl
    have est : ((Value.ref o :: B).reverse ++ S).map (mTr ρ) = (B.map (mTr ρ)).reverse ++ .ref (ρ o).1 :: S.map (mTr ρ) := by simp [List.map_reverse, mTr]
    rw [est]
    rw [hrz] at hMet hGood
    rcases h with ⟨w1, w2⟩ | ⟨w1, w2⟩
    · exact mw_call (va_runI (As := B.map (mTr ρ)) (rest := S.map (mTr ρ)) ⟨hx, hb, hml, hown, hts⟩ hMet (cwI B.length hts hGood rfl rfl rfl (hts _ hini) (hts _ (oW_in w1)) (hts _ (oW_in w2)) hnmz ⟨hc1, hc2, hpar hpa⟩ hroom) ⟨hblind, hpre⟩ rfl (by simp) hls rfl (lv_room hst) hd hfit) hS (fun q _ hq => hA2 q hq) hA2 hA2 k
    · have hn := hCF.2.2.2.2.1 _ (of_decide_eq_true w1)
      exact mw_call (va_runIN (As := B.map (mTr ρ)) (rest := S.map (mTr ρ)) ⟨hx, hb, hml, hown, hts⟩ hMet ⟨va_cnB B.length hts hGood rfl rfl rfl hn (hts _ hini) ⟨hc1, hc2, hpar hpa⟩ hroom, hnmz, hts _ (oW_in w2)⟩ ⟨hblind, hpre⟩ rfl (by simp) hls rfl (lv_room hst) hd hfit) hS (fun q _ hq => hA2 q hq) hA2 hA2 k
  · cases h
end OPS
end
section
/-! SOUNDNESS of the small machine -/
theorem mNo_not {K : mCf → Option mRs} {r : mRs} {P : Prop} (h : mApp mNo K = some r) : P := nomatch (show (none : Option mRs) = some r from h)
theorem mGo_ev {K : mCf → Option mRs} {c : mCf} {r : mRs} (h : mApp (mGo c) K = some r) : K c = some r := h
theorem mCk_ev {K : mCf → Option mRs} {q : mDc} {c : mCf} {r : mRs} (h : mApp (mCk q c) K = some r) : q.1 ∧ K c = some r := by
  have h : @ite (Option mRs) q.1 q.2 (K c) none = some r := h
  by_cases hq : q.1
  · exact ⟨hq, (@if_pos _ q.2 hq _ (K c) none).symm.trans h⟩
  · have e := (@if_neg _ q.2 hq _ (K c) none).symm.trans h
    cases e
theorem mIf1_ev {K : mCf → Option mRs} {q : mDc} {c d : mCf} {r : mRs} (h : mApp (.inr (.inl ([(q, c)], some d))) K = some r) : (q.1 → K c = some r) ∧ (¬ q.1 → K d = some r) := by
  have h : @ite (Option mRs) q.1 q.2 (K c) (K d) = some r := h
  exact ⟨fun hq => (@if_pos _ q.2 hq _ (K c) (K d)).symm.trans h, fun hq => (@if_neg _ q.2 hq _ (K c) (K d)).symm.trans h⟩
theorem mSw_ev {K : mCf → Option mRs} {x : Int32} {y : Nat} {L : List (Option Value)} {S : List Value} {h : mHp} {d : mCf} {r : mRs} : ∀ (ts : List Nat) (b : Nat), mIf (mSw x b y L S h ts) K (K d) = some r → (∀ (j t : Nat), (∀ i, i < j → ¬ x = nI (b + i)) → ts[j]? = some t → x = nI (b + j) → K (y, t, L, S, h) = some r) ∧ ((∀ j, j < ts.length → ¬ x = nI (b + j)) → K d = some r)
  | [], b, hev => ⟨fun j t _ hj => by simp at hj, fun _ => hev⟩
  | t :: ts, b, hev => by
    have hev : (if x = nI b then K (y, t, L, S, h) else mIf (mSw x (b + 1) y L S h ts) K (K d)) = some r := hev
    by_cases hx : x = nI b
    · rw [if_pos hx] at hev
      refine ⟨fun j u hlt hj he => ?_, fun hn => absurd hx (hn 0 (by simp))⟩
      cases j with
      | zero => cases hj; exact hev
      | succ j => exact absurd hx (hlt 0 (by omega))
    · rw [if_neg hx] at hev
      obtain ⟨g1, g2⟩ := mSw_ev ts (b + 1) hev
      refine ⟨fun j u hlt hj he => ?_, fun hn => g2 (fun j hj => by rw [show b + 1 + j = b + (j + 1) by omega]; exact hn (j + 1) (by simpa using hj))⟩
      cases j with
      | zero => exact absurd he hx
      | succ j => exact g1 j u (fun i hi => by rw [show b + 1 + i = b + (i + 1) by omega]; exact hlt (i + 1) (by omega)) hj (by rw [show b + 1 + j = b + (j + 1) by omega]; exact he)
theorem mRw_ev {K : mCf → Option mRs} {x : Int32} {y i : Nat} {L : List (Option Value)} {S : List Value} {h : mHp} {r : mRs} : ∀ (rs : List Nat) (b : Nat), mIf (mRw x b y i L S h rs) K none = some r → ∃ (j t : Nat), rs[j]? = some t ∧ x = nI (b + j) ∧ K (y, i, L, mRef t :: S, h) = some r
  | [], b, hev => by cases hev
  | t :: ts, b, hev => by
    have hev : (if x = nI b then K (y, i, L, mRef t :: S, h) else mIf (mRw x (b + 1) y i L S h ts) K none) = some r := hev
    by_cases hx : x = nI b
    · rw [if_pos hx] at hev
      exact ⟨0, t, rfl, hx, hev⟩
    · rw [if_neg hx] at hev
      obtain ⟨j, u, g1, g2, g3⟩ := mRw_ev ts (b + 1) hev
      exact ⟨j + 1, u, g1, by rw [g2]; congr 1; omega, g3⟩
theorem mRwS_ev {K : mCf → Option mRs} {x : Int32} {f : Nat → mCf} {r : mRs} : ∀ (rs : List Nat) (b : Nat), mIf (mRwS x b f rs) K none = some r → ∃ j : Nat, j < rs.length ∧ x = nI (b + j) ∧ K (f (b + j)) = some r
  | [], b, hev => by cases hev
  | t :: ts, b, hev => by
    have hev : (if x = nI b then K (f b) else mIf (mRwS x (b + 1) f ts) K none) = some r := hev
    by_cases hx : x = nI b
    · rw [if_pos hx] at hev
      exact ⟨0, by simp, hx, hev⟩
    · rw [if_neg hx] at hev
      obtain ⟨j, g1, g2, g3⟩ := mRwS_ev ts (b + 1) hev
      exact ⟨j + 1, by simp; omega, by rw [g2]; congr 1; omega, by rw [show b + (j + 1) = b + 1 + j by omega]; exact g3⟩
theorem ok19_lt {cc : ByteArray} {pcs : Nat → Nat} {a b pc : Nat} {l : List Nat} (h : ok19 cc pcs a b pc l = true) : b + l.length < 2 ^ 31 := by
  unfold ok19 at h
  split at h
  · simp only [Bool.and_eq_true, decide_eq_true_eq] at h
    omega
  · cases h
section SIM
variable {p : Program} {l : Launch} {e : Env} {R : Room} {s : State} {m : MethodId} {args : Array Value} {below : List Frame} {meth : Method} {c : Code} {Q : State → Prop} {y i : Nat} {D : va_G} {A : Nat → Prop} {ρ0 : mRho} {M0 : mMI} {sh0 : List mSC} {ρ : mRho} {sh : List mSC} {M : mMI} {J : mMJ} {nc ns : Nat} {H : Heap} {locs : List Loc} {ls : Array Slot} {L : List (Option Value)} {S : List Value} {r : mRs} {oa ob on oq : Nat} {oc : Int32} {od : Int64} {ol oe : List Nat} {n : Nat}
theorem sx0 (IH : mSim n) (C : mAct p s m args meth c R y D A ρ0 M0) (I : mHI s y D A ρ0 M0 sh0 ρ sh M J nc ns H locs) (hL : mLoc ρ ls (PG.2.1 y).1 L) (hret : mRetH p l e R s m args below meth c Q y D A ρ0 M0 sh0 r) (hm : okOp (pby y) (pnm y).cls (pnm y).name (PG.2.1 y).1 (PG.2.1 y).2.1 (PG.2.1 y).2.2.2.1 (pPc y) (pHi y i) (pPc y i) (0, oa, ob, oc, od, oq, on, ol, oe) = true) (hev : mApp (mExec PG 0 oa ob oc od on ol y L S sh M J nc ns) (mEv PG n) = some r) : W p l e R s m args below meth c H locs nc ns Q (F0 m (pPc y i) ls (S.map (mTr ρ))) := by
  simp only [mExec] at hev
  exact so0 C I.2.2.1 hm (IH p l e R s m args below meth c Q y _ _ _ sh M J nc ns r D A ρ0 M0 sh0 ρ H locs _ (show mEv PG n (y, on, L, .int oc :: S, sh, M, J, nc, ns) = some r from hev) C I hL hret)
theorem sx1 (IH : mSim n) (C : mAct p s m args meth c R y D A ρ0 M0) (I : mHI s y D A ρ0 M0 sh0 ρ sh M J nc ns H locs) (hL : mLoc ρ ls (PG.2.1 y).1 L) (hret : mRetH p l e R s m args below meth c Q y D A ρ0 M0 sh0 r) (hm : okOp (pby y) (pnm y).cls (pnm y).name (PG.2.1 y).1 (PG.2.1 y).2.1 (PG.2.1 y).2.2.2.1 (pPc y) (pHi y i) (pPc y i) (1, oa, ob, oc, od, oq, on, ol, oe) = true) (hev : mApp (mExec PG 1 oa ob oc od on ol y L S sh M J nc ns) (mEv PG n) = some r) : W p l e R s m args below meth c H locs nc ns Q (F0 m (pPc y i) ls (S.map (mTr ρ))) := by
  simp only [mExec] at hev
  exact so1 C hm (IH p l e R s m args below meth c Q y _ _ _ sh M J nc ns r D A ρ0 M0 sh0 ρ H locs _ (show mEv PG n (y, on, L, .long od :: S, sh, M, J, nc, ns) = some r from hev) C I hL hret)
theorem sx2 (IH : mSim n) (C : mAct p s m args meth c R y D A ρ0 M0) (I : mHI s y D A ρ0 M0 sh0 ρ sh M J nc ns H locs) (hL : mLoc ρ ls (PG.2.1 y).1 L) (hret : mRetH p l e R s m args below meth c Q y D A ρ0 M0 sh0 r) (hm : okOp (pby y) (pnm y).cls (pnm y).name (PG.2.1 y).1 (PG.2.1 y).2.1 (PG.2.1 y).2.2.2.1 (pPc y) (pHi y i) (pPc y i) (2, oa, ob, oc, od, oq, on, ol, oe) = true) (hev : mApp (mExec PG 2 oa ob oc od on ol y L S sh M J nc ns) (mEv PG n) = some r) : W p l e R s m args below meth c H locs nc ns Q (F0 m (pPc y i) ls (S.map (mTr ρ))) := by
  simp only [mExec] at hev
  split at hev
  · rename_i v hv
    split at hev
    · rename_i ht
      exact so2 (ρ := ρ) C hm ht (hL.get hv) (IH p l e R s m args below meth c Q y _ _ _ sh M J nc ns r D A ρ0 M0 sh0 ρ H locs _ (show mEv PG n (y, on, L, v :: S, sh, M, J, nc, ns) = some r from hev) C I hL hret)
    · exact mNo_not hev
  · exact mNo_not hev
theorem sx3 (IH : mSim n) (C : mAct p s m args meth c R y D A ρ0 M0) (I : mHI s y D A ρ0 M0 sh0 ρ sh M J nc ns H locs) (hL : mLoc ρ ls (PG.2.1 y).1 L) (hret : mRetH p l e R s m args below meth c Q y D A ρ0 M0 sh0 r) (hm : okOp (pby y) (pnm y).cls (pnm y).name (PG.2.1 y).1 (PG.2.1 y).2.1 (PG.2.1 y).2.2.2.1 (pPc y) (pHi y i) (pPc y i) (3, oa, ob, oc, od, oq, on, ol, oe) = true) (hev : mApp (mExec PG 3 oa ob oc od on ol y L S sh M J nc ns) (mEv PG n) = some r) : W p l e R s m args below meth c H locs nc ns Q (F0 m (pPc y i) ls (S.map (mTr ρ))) := by
  simp only [mExec] at hev
  split at hev
  · rename_i v S2
    split at hev
    · rename_i ht
      rw [mF_eq] at hev
      exact so3 C hm ht hL (fun ls2 hL2 => (IH p l e R s m args below meth c Q y _ _ _ sh M J nc ns r D A ρ0 M0 sh0 ρ H locs _ (show mEv PG n (y, on, mSto L oa v, S2, sh, M, J, nc, ns) = some r from hev) C I hL2 hret))
    · exact mNo_not hev
  · exact mNo_not hev
theorem sx4 (IH : mSim n) (C : mAct p s m args meth c R y D A ρ0 M0) (I : mHI s y D A ρ0 M0 sh0 ρ sh M J nc ns H locs) (hL : mLoc ρ ls (PG.2.1 y).1 L) (hret : mRetH p l e R s m args below meth c Q y D A ρ0 M0 sh0 r) (hm : okOp (pby y) (pnm y).cls (pnm y).name (PG.2.1 y).1 (PG.2.1 y).2.1 (PG.2.1 y).2.2.2.1 (pPc y) (pHi y i) (pPc y i) (4, oa, ob, oc, od, oq, on, ol, oe) = true) (hev : mApp (mExec PG 4 oa ob oc od on ol y L S sh M J nc ns) (mEv PG n) = some r) : W p l e R s m args below meth c H locs nc ns Q (F0 m (pPc y i) ls (S.map (mTr ρ))) := by
  simp only [mExec] at hev
  split at hev
  · rename_i x hv
    rw [mF_eq] at hev
    exact so4 C hm hL hv (fun ls2 hL2 => (IH p l e R s m args below meth c Q y _ _ _ sh M J nc ns r D A ρ0 M0 sh0 ρ H locs _ (show mEv PG n (y, on, mPut L oa (some (.int (x + oc))), S, sh, M, J, nc, ns) = some r from hev) C I hL2 hret))
  · exact mNo_not hev
theorem sx5 (IH : mSim n) (C : mAct p s m args meth c R y D A ρ0 M0) (I : mHI s y D A ρ0 M0 sh0 ρ sh M J nc ns H locs) (hL : mLoc ρ ls (PG.2.1 y).1 L) (hret : mRetH p l e R s m args below meth c Q y D A ρ0 M0 sh0 r) (hm : okOp (pby y) (pnm y).cls (pnm y).name (PG.2.1 y).1 (PG.2.1 y).2.1 (PG.2.1 y).2.2.2.1 (pPc y) (pHi y i) (pPc y i) (5, oa, ob, oc, od, oq, on, ol, oe) = true) (hev : mApp (mExec PG 5 oa ob oc od on ol y L S sh M J nc ns) (mEv PG n) = some r) : W p l e R s m args below meth c H locs nc ns Q (F0 m (pPc y i) ls (S.map (mTr ρ))) := by
  simp only [mExec] at hev
  split at hev
  · rename_i v x S2
    exact so5 C hm (IH p l e R s m args below meth c Q y _ _ _ sh M J nc ns r D A ρ0 M0 sh0 ρ H locs _ (show mEv PG n (y, on, L, .int (mBin ob x v) :: S2, sh, M, J, nc, ns) = some r from hev) C I hL hret)
  · exact mNo_not hev
theorem sx6 (IH : mSim n) (C : mAct p s m args meth c R y D A ρ0 M0) (I : mHI s y D A ρ0 M0 sh0 ρ sh M J nc ns H locs) (hL : mLoc ρ ls (PG.2.1 y).1 L) (hret : mRetH p l e R s m args below meth c Q y D A ρ0 M0 sh0 r) (hm : okOp (pby y) (pnm y).cls (pnm y).name (PG.2.1 y).1 (PG.2.1 y).2.1 (PG.2.1 y).2.2.2.1 (pPc y) (pHi y i) (pPc y i) (6, oa, ob, oc, od, oq, on, ol, oe) = true) (hev : mApp (mExec PG 6 oa ob oc od on ol y L S sh M J nc ns) (mEv PG n) = some r) : W p l e R s m args below meth c H locs nc ns Q (F0 m (pPc y i) ls (S.map (mTr ρ))) := by
  simp only [mExec] at hev
  split at hev
  · rename_i v x S2
    obtain ⟨hq, hev⟩ := mCk_ev hev
    exact so6 C hm hq (IH p l e R s m args below meth c Q y _ _ _ sh M J nc ns r D A ρ0 M0 sh0 ρ H locs _ hev C I hL hret)
  · exact mNo_not hev
theorem sx7 (IH : mSim n) (C : mAct p s m args meth c R y D A ρ0 M0) (I : mHI s y D A ρ0 M0 sh0 ρ sh M J nc ns H locs) (hL : mLoc ρ ls (PG.2.1 y).1 L) (hret : mRetH p l e R s m args below meth c Q y D A ρ0 M0 sh0 r) (hm : okOp (pby y) (pnm y).cls (pnm y).name (PG.2.1 y).1 (PG.2.1 y).2.1 (PG.2.1 y).2.2.2.1 (pPc y) (pHi y i) (pPc y i) (7, oa, ob, oc, od, oq, on, ol, oe) = true) (hev : mApp (mExec PG 7 oa ob oc od on ol y L S sh M J nc ns) (mEv PG n) = some r) : W p l e R s m args below meth c H locs nc ns Q (F0 m (pPc y i) ls (S.map (mTr ρ))) := by
  simp only [mExec] at hev
  split at hev
  · rename_i v x S2
    obtain ⟨hq, hev⟩ := mCk_ev hev
    exact so7 C hm hq (IH p l e R s m args below meth c Q y _ _ _ sh M J nc ns r D A ρ0 M0 sh0 ρ H locs _ hev C I hL hret)
  · exact mNo_not hev
theorem sx8 (IH : mSim n) (C : mAct p s m args meth c R y D A ρ0 M0) (I : mHI s y D A ρ0 M0 sh0 ρ sh M J nc ns H locs) (hL : mLoc ρ ls (PG.2.1 y).1 L) (hret : mRetH p l e R s m args below meth c Q y D A ρ0 M0 sh0 r) (hm : okOp (pby y) (pnm y).cls (pnm y).name (PG.2.1 y).1 (PG.2.1 y).2.1 (PG.2.1 y).2.2.2.1 (pPc y) (pHi y i) (pPc y i) (8, oa, ob, oc, od, oq, on, ol, oe) = true) (hev : mApp (mExec PG 8 oa ob oc od on ol y L S sh M J nc ns) (mEv PG n) = some r) : W p l e R s m args below meth c H locs nc ns Q (F0 m (pPc y i) ls (S.map (mTr ρ))) := by
  simp only [mExec] at hev
  split at hev
  · rename_i x S2
    exact so8 C hm (IH p l e R s m args below meth c Q y _ _ _ sh M J nc ns r D A ρ0 M0 sh0 ρ H locs _ (show mEv PG n (y, on, L, .int (-x) :: S2, sh, M, J, nc, ns) = some r from hev) C I hL hret)
  · exact mNo_not hev
theorem sx9 (IH : mSim n) (C : mAct p s m args meth c R y D A ρ0 M0) (I : mHI s y D A ρ0 M0 sh0 ρ sh M J nc ns H locs) (hL : mLoc ρ ls (PG.2.1 y).1 L) (hret : mRetH p l e R s m args below meth c Q y D A ρ0 M0 sh0 r) (hm : okOp (pby y) (pnm y).cls (pnm y).name (PG.2.1 y).1 (PG.2.1 y).2.1 (PG.2.1 y).2.2.2.1 (pPc y) (pHi y i) (pPc y i) (9, oa, ob, oc, od, oq, on, ol, oe) = true) (hev : mApp (mExec PG 9 oa ob oc od on ol y L S sh M J nc ns) (mEv PG n) = some r) : W p l e R s m args below meth c H locs nc ns Q (F0 m (pPc y i) ls (S.map (mTr ρ))) := by
  simp only [mExec] at hev
  split at hev
  · rename_i v x S2
    exact so9 C hm (IH p l e R s m args below meth c Q y _ _ _ sh M J nc ns r D A ρ0 M0 sh0 ρ H locs _ (show mEv PG n (y, on, L, .long (mBinJ ob x v) :: S2, sh, M, J, nc, ns) = some r from hev) C I hL hret)
  · exact mNo_not hev
theorem sx10 (IH : mSim n) (C : mAct p s m args meth c R y D A ρ0 M0) (I : mHI s y D A ρ0 M0 sh0 ρ sh M J nc ns H locs) (hL : mLoc ρ ls (PG.2.1 y).1 L) (hret : mRetH p l e R s m args below meth c Q y D A ρ0 M0 sh0 r) (hm : okOp (pby y) (pnm y).cls (pnm y).name (PG.2.1 y).1 (PG.2.1 y).2.1 (PG.2.1 y).2.2.2.1 (pPc y) (pHi y i) (pPc y i) (10, oa, ob, oc, od, oq, on, ol, oe) = true) (hev : mApp (mExec PG 10 oa ob oc od on ol y L S sh M J nc ns) (mEv PG n) = some r) : W p l e R s m args below meth c H locs nc ns Q (F0 m (pPc y i) ls (S.map (mTr ρ))) := by
  simp only [mExec] at hev
  split at hev
  · rename_i v x S2
    obtain ⟨hq, hev⟩ := mCk_ev hev
    exact so10 C hm hq (IH p l e R s m args below meth c Q y _ _ _ sh M J nc ns r D A ρ0 M0 sh0 ρ H locs _ hev C I hL hret)
  · exact mNo_not hev
theorem sx11 (IH : mSim n) (C : mAct p s m args meth c R y D A ρ0 M0) (I : mHI s y D A ρ0 M0 sh0 ρ sh M J nc ns H locs) (hL : mLoc ρ ls (PG.2.1 y).1 L) (hret : mRetH p l e R s m args below meth c Q y D A ρ0 M0 sh0 r) (hm : okOp (pby y) (pnm y).cls (pnm y).name (PG.2.1 y).1 (PG.2.1 y).2.1 (PG.2.1 y).2.2.2.1 (pPc y) (pHi y i) (pPc y i) (11, oa, ob, oc, od, oq, on, ol, oe) = true) (hev : mApp (mExec PG 11 oa ob oc od on ol y L S sh M J nc ns) (mEv PG n) = some r) : W p l e R s m args below meth c H locs nc ns Q (F0 m (pPc y i) ls (S.map (mTr ρ))) := by
  simp only [mExec] at hev
  split at hev
  · rename_i v x S2
    exact so11 C hm (IH p l e R s m args below meth c Q y _ _ _ sh M J nc ns r D A ρ0 M0 sh0 ρ H locs _ (show mEv PG n (y, on, L, .long (mShJ ob x v) :: S2, sh, M, J, nc, ns) = some r from hev) C I hL hret)
  · exact mNo_not hev
theorem sx12 (IH : mSim n) (C : mAct p s m args meth c R y D A ρ0 M0) (I : mHI s y D A ρ0 M0 sh0 ρ sh M J nc ns H locs) (hL : mLoc ρ ls (PG.2.1 y).1 L) (hret : mRetH p l e R s m args below meth c Q y D A ρ0 M0 sh0 r) (hm : okOp (pby y) (pnm y).cls (pnm y).name (PG.2.1 y).1 (PG.2.1 y).2.1 (PG.2.1 y).2.2.2.1 (pPc y) (pHi y i) (pPc y i) (12, oa, ob, oc, od, oq, on, ol, oe) = true) (hev : mApp (mExec PG 12 oa ob oc od on ol y L S sh M J nc ns) (mEv PG n) = some r) : W p l e R s m args below meth c H locs nc ns Q (F0 m (pPc y i) ls (S.map (mTr ρ))) := by
  simp only [mExec] at hev
  split at hev
  · rename_i v S2
    split at hev
    · rename_i w hw
      exact so12 (ρ := ρ) C hm hw (IH p l e R s m args below meth c Q y _ _ _ sh M J nc ns r D A ρ0 M0 sh0 ρ H locs _ (show mEv PG n (y, on, L, w :: S2, sh, M, J, nc, ns) = some r from hev) C I hL hret)
    · exact mNo_not hev
  · exact mNo_not hev
theorem sx13 (IH : mSim n) (C : mAct p s m args meth c R y D A ρ0 M0) (I : mHI s y D A ρ0 M0 sh0 ρ sh M J nc ns H locs) (hL : mLoc ρ ls (PG.2.1 y).1 L) (hret : mRetH p l e R s m args below meth c Q y D A ρ0 M0 sh0 r) (hm : okOp (pby y) (pnm y).cls (pnm y).name (PG.2.1 y).1 (PG.2.1 y).2.1 (PG.2.1 y).2.2.2.1 (pPc y) (pHi y i) (pPc y i) (13, oa, ob, oc, od, oq, on, ol, oe) = true) (hev : mApp (mExec PG 13 oa ob oc od on ol y L S sh M J nc ns) (mEv PG n) = some r) : W p l e R s m args below meth c H locs nc ns Q (F0 m (pPc y i) ls (S.map (mTr ρ))) := by
  simp only [mExec] at hev
  split at hev
  · rename_i v x S2
    exact so13 C hm (IH p l e R s m args below meth c Q y _ _ _ sh M J nc ns r D A ρ0 M0 sh0 ρ H locs _ (show mEv PG n (y, on, L, .int (lg_cmp x v) :: S2, sh, M, J, nc, ns) = some r from hev) C I hL hret)
  · exact mNo_not hev
theorem sx14 (IH : mSim n) (C : mAct p s m args meth c R y D A ρ0 M0) (I : mHI s y D A ρ0 M0 sh0 ρ sh M J nc ns H locs) (hL : mLoc ρ ls (PG.2.1 y).1 L) (hret : mRetH p l e R s m args below meth c Q y D A ρ0 M0 sh0 r) (hm : okOp (pby y) (pnm y).cls (pnm y).name (PG.2.1 y).1 (PG.2.1 y).2.1 (PG.2.1 y).2.2.2.1 (pPc y) (pHi y i) (pPc y i) (14, oa, ob, oc, od, oq, on, ol, oe) = true) (hev : mApp (mExec PG 14 oa ob oc od on ol y L S sh M J nc ns) (mEv PG n) = some r) : W p l e R s m args below meth c H locs nc ns Q (F0 m (pPc y i) ls (S.map (mTr ρ))) := by
  simp only [mExec] at hev
  split at hev
  · rename_i v S2
    split at hev
    · rename_i hv
      exact so14 C hm (by rw [mTr_cat]; rcases lv_cat v with q | q; exact q; rw [mCat2_iff.mpr q] at hv; cases hv) (IH p l e R s m args below meth c Q y _ _ _ sh M J nc ns r D A ρ0 M0 sh0 ρ H locs _ (show mEv PG n (y, on, L, v :: v :: S2, sh, M, J, nc, ns) = some r from hev) C I hL hret)
    · exact mNo_not hev
  · exact mNo_not hev
theorem sx15 (IH : mSim n) (C : mAct p s m args meth c R y D A ρ0 M0) (I : mHI s y D A ρ0 M0 sh0 ρ sh M J nc ns H locs) (hL : mLoc ρ ls (PG.2.1 y).1 L) (hret : mRetH p l e R s m args below meth c Q y D A ρ0 M0 sh0 r) (hm : okOp (pby y) (pnm y).cls (pnm y).name (PG.2.1 y).1 (PG.2.1 y).2.1 (PG.2.1 y).2.2.2.1 (pPc y) (pHi y i) (pPc y i) (15, oa, ob, oc, od, oq, on, ol, oe) = true) (hev : mApp (mExec PG 15 oa ob oc od on ol y L S sh M J nc ns) (mEv PG n) = some r) : W p l e R s m args below meth c H locs nc ns Q (F0 m (pPc y i) ls (S.map (mTr ρ))) := by
  simp only [mExec] at hev
  split at hev
  · rename_i v S2
    split at hev
    · rename_i hv
      exact so15 C hm (by rw [mTr_cat]; rcases lv_cat v with q | q; exact q; rw [mCat2_iff.mpr q] at hv; cases hv) (IH p l e R s m args below meth c Q y _ _ _ sh M J nc ns r D A ρ0 M0 sh0 ρ H locs _ (show mEv PG n (y, on, L, S2, sh, M, J, nc, ns) = some r from hev) C I hL hret)
    · exact mNo_not hev
  · exact mNo_not hev
theorem sx16 (IH : mSim n) (C : mAct p s m args meth c R y D A ρ0 M0) (I : mHI s y D A ρ0 M0 sh0 ρ sh M J nc ns H locs) (hL : mLoc ρ ls (PG.2.1 y).1 L) (hret : mRetH p l e R s m args below meth c Q y D A ρ0 M0 sh0 r) (hm : okOp (pby y) (pnm y).cls (pnm y).name (PG.2.1 y).1 (PG.2.1 y).2.1 (PG.2.1 y).2.2.2.1 (pPc y) (pHi y i) (pPc y i) (16, oa, ob, oc, od, oq, on, ol, oe) = true) (hev : mApp (mExec PG 16 oa ob oc od on ol y L S sh M J nc ns) (mEv PG n) = some r) : W p l e R s m args below meth c H locs nc ns Q (F0 m (pPc y i) ls (S.map (mTr ρ))) := by
  simp only [mExec] at hev
  exact so16 C hm (IH p l e R s m args below meth c Q y _ _ _ sh M J nc ns r D A ρ0 M0 sh0 ρ H locs _ (show mEv PG n (y, oa, L, S, sh, M, J, nc, ns) = some r from hev) C I hL hret)
theorem sx17 (IH : mSim n) (C : mAct p s m args meth c R y D A ρ0 M0) (I : mHI s y D A ρ0 M0 sh0 ρ sh M J nc ns H locs) (hL : mLoc ρ ls (PG.2.1 y).1 L) (hret : mRetH p l e R s m args below meth c Q y D A ρ0 M0 sh0 r) (hm : okOp (pby y) (pnm y).cls (pnm y).name (PG.2.1 y).1 (PG.2.1 y).2.1 (PG.2.1 y).2.2.2.1 (pPc y) (pHi y i) (pPc y i) (17, oa, ob, oc, od, oq, on, ol, oe) = true) (hev : mApp (mExec PG 17 oa ob oc od on ol y L S sh M J nc ns) (mEv PG n) = some r) : W p l e R s m args below meth c H locs nc ns Q (F0 m (pPc y i) ls (S.map (mTr ρ))) := by
  simp only [mExec] at hev
  split at hev
  · rename_i x S2
    obtain ⟨h1, h2⟩ := mIf1_ev hev
    exact so17 C hm (fun q => (IH p l e R s m args below meth c Q y _ _ _ sh M J nc ns r D A ρ0 M0 sh0 ρ H locs _ (h1 q) C I hL hret)) (fun q => (IH p l e R s m args below meth c Q y _ _ _ sh M J nc ns r D A ρ0 M0 sh0 ρ H locs _ (h2 q) C I hL hret))
  · exact mNo_not hev
theorem sx18 (IH : mSim n) (C : mAct p s m args meth c R y D A ρ0 M0) (I : mHI s y D A ρ0 M0 sh0 ρ sh M J nc ns H locs) (hL : mLoc ρ ls (PG.2.1 y).1 L) (hret : mRetH p l e R s m args below meth c Q y D A ρ0 M0 sh0 r) (hm : okOp (pby y) (pnm y).cls (pnm y).name (PG.2.1 y).1 (PG.2.1 y).2.1 (PG.2.1 y).2.2.2.1 (pPc y) (pHi y i) (pPc y i) (18, oa, ob, oc, od, oq, on, ol, oe) = true) (hev : mApp (mExec PG 18 oa ob oc od on ol y L S sh M J nc ns) (mEv PG n) = some r) : W p l e R s m args below meth c H locs nc ns Q (F0 m (pPc y i) ls (S.map (mTr ρ))) := by
  simp only [mExec] at hev
  split at hev
  · rename_i v x S2
    obtain ⟨h1, h2⟩ := mIf1_ev hev
    exact so18 C hm (fun q => (IH p l e R s m args below meth c Q y _ _ _ sh M J nc ns r D A ρ0 M0 sh0 ρ H locs _ (h1 q) C I hL hret)) (fun q => (IH p l e R s m args below meth c Q y _ _ _ sh M J nc ns r D A ρ0 M0 sh0 ρ H locs _ (h2 q) C I hL hret))
  · exact mNo_not hev
theorem sx19 (IH : mSim n) (C : mAct p s m args meth c R y D A ρ0 M0) (I : mHI s y D A ρ0 M0 sh0 ρ sh M J nc ns H locs) (hL : mLoc ρ ls (PG.2.1 y).1 L) (hret : mRetH p l e R s m args below meth c Q y D A ρ0 M0 sh0 r) (hm : okOp (pby y) (pnm y).cls (pnm y).name (PG.2.1 y).1 (PG.2.1 y).2.1 (PG.2.1 y).2.2.2.1 (pPc y) (pHi y i) (pPc y i) (19, oa, ob, oc, od, oq, on, ol, oe) = true) (hev : mApp (mExec PG 19 oa ob oc od on ol y L S sh M J nc ns) (mEv PG n) = some r) : W p l e R s m args below meth c H locs nc ns Q (F0 m (pPc y i) ls (S.map (mTr ρ))) := by
  simp only [mExec] at hev
  split at hev
  · rename_i x S2
    obtain ⟨h1, h2⟩ := mSw_ev (K := mEv PG n) ol ob hev
    by_cases hall : ∀ j, j < ol.length → ¬ x = nI (ob + j)
    · exact so19 C hm (fun j t hj he => absurd he (hall j (List.getElem?_eq_some_iff.mp hj).1)) (fun _ => (IH p l e R s m args below meth c Q y _ _ _ sh M J nc ns r D A ρ0 M0 sh0 ρ H locs _ (h2 hall) C I hL hret))
    · refine so19 C hm (fun j t hj he => ?_) (fun q => absurd q hall)
      by_cases hlt : ∀ i, i < j → ¬ x = nI (ob + i)
      · exact (IH p l e R s m args below meth c Q y _ _ _ sh M J nc ns r D A ρ0 M0 sh0 ρ H locs _ (h1 j t hlt hj he) C I hL hret)
      · refine absurd (fun i hi hx => ?_) hlt
        have hb := ok19_lt hm
        have hjl := (List.getElem?_eq_some_iff.mp hj).1
        have := (nI_eq (by omega) (by omega)).mp (hx.symm.trans he)
        omega
  · exact mNo_not hev
theorem sx20 (IH : mSim n) (C : mAct p s m args meth c R y D A ρ0 M0) (I : mHI s y D A ρ0 M0 sh0 ρ sh M J nc ns H locs) (hL : mLoc ρ ls (PG.2.1 y).1 L) (hret : mRetH p l e R s m args below meth c Q y D A ρ0 M0 sh0 r) (hm : okOp (pby y) (pnm y).cls (pnm y).name (PG.2.1 y).1 (PG.2.1 y).2.1 (PG.2.1 y).2.2.2.1 (pPc y) (pHi y i) (pPc y i) (20, oa, ob, oc, od, oq, on, ol, oe) = true) (hev : mApp (mExec PG 20 oa ob oc od on ol y L S sh M J nc ns) (mEv PG n) = some r) : W p l e R s m args below meth c H locs nc ns Q (F0 m (pPc y i) ls (S.map (mTr ρ))) := by
  simp only [mExec] at hev
  split at hev
  · rename_i a S2
    have hm : ok20 (pby y) (pnm y).cls (pHi y i) (mNth 9 ol 0) oa ob (pPc y i) (pPc y on) = true := hm
    have hev : mApp (mGetf (mAt pcon sh a) (mNth 9 ol 0) oa ob a y on L S2 sh M J nc ns) (mEv PG n) = some r := hev
    unfold mGetf at hev
    split at hev
    · rename_i hk
      rcases mAt_or I.2.2.2.2.2.1.2 (by rw [hk]; decide) with ⟨w0, -⟩ | ⟨j, -, -, w0⟩
      · split at hev
        · rename_i hci
          have hci : (mAt pcon sh a).2.1 = mNth 9 ol 0 := by simpa using hci
          split at hev
          · exact so20 C I hm w0 hk hci (Or.inl ⟨rfl, rfl⟩) (IH p l e R s m args below meth c Q y _ _ _ sh M J nc ns r D A ρ0 M0 sh0 ρ H locs _ (show mEv PG n (y, on, L, .int (M a oa) :: S2, sh, M, J, nc, ns) = some r from hev) C I hL hret)
          · rename_i hb0
            split at hev
            · exact mNo_not hev
            · rename_i q hq
              exact so20 C I hm w0 hk hci (Or.inr ⟨hb0, q, hq, rfl⟩) (IH p l e R s m args below meth c Q y _ _ _ sh M J nc ns r D A ρ0 M0 sh0 ρ H locs _ (show mEv PG n (y, on, L, .ref q :: S2, sh, M, J, nc, ns) = some r from hev) C I hL hret)
        · exact mNo_not hev
      · rw [hk] at w0
        simp at w0
    · rename_i hk
      rcases mAt_or I.2.2.2.2.2.1.2 (by rw [hk]; decide) with ⟨-, w0⟩ | ⟨j, rfl, w0, -⟩
      · rw [hk] at w0
        simp at w0
      · have hp : ∀ q, mNth 0 (mAt pcon sh (1000 + j)).2.2 0 = q + 1 → 999 ≤ q := fun q hq => by
          have := (pcon_tx _ (List.mem_of_getElem? w0) hk).2
          omega
        split at hev
        · rename_i hci
          have hci : mNth 9 ol 0 = 8 := by simpa using hci
          rw [hci] at hm
          split at hev
          · exact so20s C I hm w0 hk (Or.inl ⟨rfl, rfl⟩) hp (IH p l e R s m args below meth c Q y _ _ _ sh M J nc ns r D A ρ0 M0 sh0 ρ H locs _ (show mEv PG n (y, on, L, .int 0 :: S2, sh, M, J, nc, ns) = some r from hev) C I hL hret)
          · rename_i hb0
            split at hev
            · exact mNo_not hev
            · rename_i q hq
              exact so20s C I hm w0 hk (Or.inr ⟨hb0, q, hq, rfl⟩) hp (IH p l e R s m args below meth c Q y _ _ _ sh M J nc ns r D A ρ0 M0 sh0 ρ H locs _ (show mEv PG n (y, on, L, .ref q :: S2, sh, M, J, nc, ns) = some r from hev) C I hL hret)
        · exact mNo_not hev
    · exact mNo_not hev
  · exact mNo_not hev
theorem sx21 (IH : mSim n) (C : mAct p s m args meth c R y D A ρ0 M0) (I : mHI s y D A ρ0 M0 sh0 ρ sh M J nc ns H locs) (hL : mLoc ρ ls (PG.2.1 y).1 L) (hret : mRetH p l e R s m args below meth c Q y D A ρ0 M0 sh0 r) (hm : okOp (pby y) (pnm y).cls (pnm y).name (PG.2.1 y).1 (PG.2.1 y).2.1 (PG.2.1 y).2.2.2.1 (pPc y) (pHi y i) (pPc y i) (21, oa, ob, oc, od, oq, on, ol, oe) = true) (hev : mApp (mExec PG 21 oa ob oc od on ol y L S sh M J nc ns) (mEv PG n) = some r) : W p l e R s m args below meth c H locs nc ns Q (F0 m (pPc y i) ls (S.map (mTr ρ))) := by
  simp only [mExec] at hev
  have hm := hm
  simp only [okOp, Bool.and_eq_true, decide_eq_true_eq] at hm
  split at hev
  · rename_i v a S2
    split at hev
    · rename_i ho
      obtain ⟨o1, o2, o3⟩ := mObj_at I.2.2.2.2.2.1.2 ho
      exact so21 C I hm.1 o1 o2 o3 (fun q => by cases q) (fun H1 locs1 I1 => hm.2 ▸ IH p l e R s m args below meth c Q y _ _ _ _ _ _ _ _ r D A ρ0 M0 sh0 ρ H1 locs1 _ (show mEv PG n (y, on, L, S2, sh, mUp M a oa v, J, nc, ns) = some r from hev) C I1 hL hret)
    · exact mNo_not hev
  · exact mNo_not hev
theorem sx22 (IH : mSim n) (C : mAct p s m args meth c R y D A ρ0 M0) (I : mHI s y D A ρ0 M0 sh0 ρ sh M J nc ns H locs) (hL : mLoc ρ ls (PG.2.1 y).1 L) (hret : mRetH p l e R s m args below meth c Q y D A ρ0 M0 sh0 r) (hm : okOp (pby y) (pnm y).cls (pnm y).name (PG.2.1 y).1 (PG.2.1 y).2.1 (PG.2.1 y).2.2.2.1 (pPc y) (pHi y i) (pPc y i) (22, oa, ob, oc, od, oq, on, ol, oe) = true) (hev : mApp (mExec PG 22 oa ob oc od on ol y L S sh M J nc ns) (mEv PG n) = some r) : W p l e R s m args below meth c H locs nc ns Q (F0 m (pPc y i) ls (S.map (mTr ρ))) := by
  simp only [mExec] at hev
  exact so22 C I hm (IH p l e R s m args below meth c Q y _ _ _ sh M J nc ns r D A ρ0 M0 sh0 ρ H locs _ (show mEv PG n (y, on, L, .ref oa :: S, sh, M, J, nc, ns) = some r from hev) C I hL hret)
theorem sx23 (IH : mSim n) (C : mAct p s m args meth c R y D A ρ0 M0) (I : mHI s y D A ρ0 M0 sh0 ρ sh M J nc ns H locs) (hL : mLoc ρ ls (PG.2.1 y).1 L) (hret : mRetH p l e R s m args below meth c Q y D A ρ0 M0 sh0 r) (hm : okOp (pby y) (pnm y).cls (pnm y).name (PG.2.1 y).1 (PG.2.1 y).2.1 (PG.2.1 y).2.2.2.1 (pPc y) (pHi y i) (pPc y i) (23, oa, ob, oc, od, oq, on, ol, oe) = true) (hev : mApp (mExec PG 23 oa ob oc od on ol y L S sh M J nc ns) (mEv PG n) = some r) : W p l e R s m args below meth c H locs nc ns Q (F0 m (pPc y i) ls (S.map (mTr ρ))) := by
  simp only [mExec] at hev
  split at hev
  · rename_i x a S2
    split at hev
    · rename_i k hk
      obtain ⟨hq, hev⟩ := mCk_ev hev
      exact so23 C I hm hk hq (IH p l e R s m args below meth c Q y _ _ _ sh M J nc ns r D A ρ0 M0 sh0 ρ H locs _ hev C I hL hret)
    · exact mNo_not hev
  · exact mNo_not hev
theorem sx24 (IH : mSim n) (C : mAct p s m args meth c R y D A ρ0 M0) (I : mHI s y D A ρ0 M0 sh0 ρ sh M J nc ns H locs) (hL : mLoc ρ ls (PG.2.1 y).1 L) (hret : mRetH p l e R s m args below meth c Q y D A ρ0 M0 sh0 r) (hm : okOp (pby y) (pnm y).cls (pnm y).name (PG.2.1 y).1 (PG.2.1 y).2.1 (PG.2.1 y).2.2.2.1 (pPc y) (pHi y i) (pPc y i) (24, oa, ob, oc, od, oq, on, ol, oe) = true) (hev : mApp (mExec PG 24 oa ob oc od on ol y L S sh M J nc ns) (mEv PG n) = some r) : W p l e R s m args below meth c H locs nc ns Q (F0 m (pPc y i) ls (S.map (mTr ρ))) := by
  simp only [mExec] at hev
  split at hev
  · rename_i x a S2
    split at hev
    · rename_i hk
      obtain ⟨hq, hev⟩ := mCk_ev hev
      exact so24 C I hm hk hq (IH p l e R s m args below meth c Q y _ _ _ sh M J nc ns r D A ρ0 M0 sh0 ρ H locs _ hev C I hL hret)
    · exact mNo_not hev
  · exact mNo_not hev
theorem sx25 (IH : mSim n) (C : mAct p s m args meth c R y D A ρ0 M0) (I : mHI s y D A ρ0 M0 sh0 ρ sh M J nc ns H locs) (hL : mLoc ρ ls (PG.2.1 y).1 L) (hret : mRetH p l e R s m args below meth c Q y D A ρ0 M0 sh0 r) (hm : okOp (pby y) (pnm y).cls (pnm y).name (PG.2.1 y).1 (PG.2.1 y).2.1 (PG.2.1 y).2.2.2.1 (pPc y) (pHi y i) (pPc y i) (25, oa, ob, oc, od, oq, on, ol, oe) = true) (hev : mApp (mExec PG 25 oa ob oc od on ol y L S sh M J nc ns) (mEv PG n) = some r) : W p l e R s m args below meth c H locs nc ns Q (F0 m (pPc y i) ls (S.map (mTr ρ))) := by
  simp only [mExec] at hev
  split at hev
  · rename_i x a S2
    split at hev
    · rename_i hk
      obtain ⟨j, t, h1, h2, h3⟩ := mRw_ev (K := mEv PG n) _ 0 hev
      rw [Nat.zero_add] at h2
      exact so25 C I hm hk h1 h2 (IH p l e R s m args below meth c Q y _ _ _ sh M J nc ns r D A ρ0 M0 sh0 ρ H locs _ h3 C I hL hret)
    · exact mNo_not hev
  · exact mNo_not hev
theorem sx26 (IH : mSim n) (C : mAct p s m args meth c R y D A ρ0 M0) (I : mHI s y D A ρ0 M0 sh0 ρ sh M J nc ns H locs) (hL : mLoc ρ ls (PG.2.1 y).1 L) (hret : mRetH p l e R s m args below meth c Q y D A ρ0 M0 sh0 r) (hm : okOp (pby y) (pnm y).cls (pnm y).name (PG.2.1 y).1 (PG.2.1 y).2.1 (PG.2.1 y).2.2.2.1 (pPc y) (pHi y i) (pPc y i) (26, oa, ob, oc, od, oq, on, ol, oe) = true) (hev : mApp (mExec PG 26 oa ob oc od on ol y L S sh M J nc ns) (mEv PG n) = some r) : W p l e R s m args below meth c H locs nc ns Q (F0 m (pPc y i) ls (S.map (mTr ρ))) := by
  simp only [mExec] at hev
  split at hev
  · rename_i v x a S2
    split at hev
    · rename_i hk
      obtain ⟨hq, hev⟩ := mCk_ev hev
      exact so26 C I hm hk hq (fun H1 locs1 I1 => IH p l e R s m args below meth c Q y _ _ _ _ _ _ _ _ r D A ρ0 M0 sh0 ρ H1 locs1 _ hev C I1 hL hret)
    · exact mNo_not hev
  · exact mNo_not hev
theorem sx27 (IH : mSim n) (C : mAct p s m args meth c R y D A ρ0 M0) (I : mHI s y D A ρ0 M0 sh0 ρ sh M J nc ns H locs) (hL : mLoc ρ ls (PG.2.1 y).1 L) (hret : mRetH p l e R s m args below meth c Q y D A ρ0 M0 sh0 r) (hm : okOp (pby y) (pnm y).cls (pnm y).name (PG.2.1 y).1 (PG.2.1 y).2.1 (PG.2.1 y).2.2.2.1 (pPc y) (pHi y i) (pPc y i) (27, oa, ob, oc, od, oq, on, ol, oe) = true) (hev : mApp (mExec PG 27 oa ob oc od on ol y L S sh M J nc ns) (mEv PG n) = some r) : W p l e R s m args below meth c H locs nc ns Q (F0 m (pPc y i) ls (S.map (mTr ρ))) := by
  simp only [mExec] at hev
  split at hev
  · rename_i v x a S2
    split at hev
    · rename_i hk
      obtain ⟨hq, hev⟩ := mCk_ev hev
      exact so27 C I hm hk hq (fun H1 locs1 I1 => IH p l e R s m args below meth c Q y _ _ _ _ _ _ _ _ r D A ρ0 M0 sh0 ρ H1 locs1 _ hev C I1 hL hret)
    · exact mNo_not hev
  · exact mNo_not hev
theorem sx29 (IH : mSim n) (C : mAct p s m args meth c R y D A ρ0 M0) (I : mHI s y D A ρ0 M0 sh0 ρ sh M J nc ns H locs) (hL : mLoc ρ ls (PG.2.1 y).1 L) (hret : mRetH p l e R s m args below meth c Q y D A ρ0 M0 sh0 r) (hm : okOp (pby y) (pnm y).cls (pnm y).name (PG.2.1 y).1 (PG.2.1 y).2.1 (PG.2.1 y).2.2.2.1 (pPc y) (pHi y i) (pPc y i) (29, oa, ob, oc, od, oq, on, ol, oe) = true) (hev : mApp (mExec PG 29 oa ob oc od on ol y L S sh M J nc ns) (mEv PG n) = some r) : W p l e R s m args below meth c H locs nc ns Q (F0 m (pPc y i) ls (S.map (mTr ρ))) := by
  simp only [mExec] at hev
  split at hev
  · rename_i a S2
    split at hev
    · rename_i k hk
      exact so29 C I hm hk (IH p l e R s m args below meth c Q y _ _ _ sh M J nc ns r D A ρ0 M0 sh0 ρ H locs _ (show mEv PG n (y, on, L, .int k :: S2, sh, M, J, nc, ns) = some r from hev) C I hL hret)
    · exact mNo_not hev
  · exact mNo_not hev
theorem sx34 (IH : mSim n) (C : mAct p s m args meth c R y D A ρ0 M0) (I : mHI s y D A ρ0 M0 sh0 ρ sh M J nc ns H locs) (hL : mLoc ρ ls (PG.2.1 y).1 L) (hret : mRetH p l e R s m args below meth c Q y D A ρ0 M0 sh0 r) (hm : okOp (pby y) (pnm y).cls (pnm y).name (PG.2.1 y).1 (PG.2.1 y).2.1 (PG.2.1 y).2.2.2.1 (pPc y) (pHi y i) (pPc y i) (34, oa, ob, oc, od, oq, on, ol, oe) = true) (hev : mApp (mExec PG 34 oa ob oc od on ol y L S sh M J nc ns) (mEv PG n) = some r) : W p l e R s m args below meth c H locs nc ns Q (F0 m (pPc y i) ls (S.map (mTr ρ))) := by
  simp only [mExec] at hev
  exact hret i ρ S sh M J nc ns H locs ls hm hev I
theorem sx35 (IH : mSim n) (C : mAct p s m args meth c R y D A ρ0 M0) (I : mHI s y D A ρ0 M0 sh0 ρ sh M J nc ns H locs) (hL : mLoc ρ ls (PG.2.1 y).1 L) (hret : mRetH p l e R s m args below meth c Q y D A ρ0 M0 sh0 r) (hm : okOp (pby y) (pnm y).cls (pnm y).name (PG.2.1 y).1 (PG.2.1 y).2.1 (PG.2.1 y).2.2.2.1 (pPc y) (pHi y i) (pPc y i) (35, oa, ob, oc, od, oq, on, ol, oe) = true) (hev : mApp (mExec PG 35 oa ob oc od on ol y L S sh M J nc ns) (mEv PG n) = some r) : W p l e R s m args below meth c H locs nc ns Q (F0 m (pPc y i) ls (S.map (mTr ρ))) := by
  simp only [mExec] at hev
  have hm := hm
  simp only [okOp, Bool.and_eq_true, decide_eq_true_eq] at hm
  split at hev
  · rename_i k dp d sp a S2
    split at hev
    · rename_i hk
      simp only [Bool.and_eq_true, Bool.or_eq_true, beq_iff_eq, Nat.blt_eq, Bool.not_eq_true', beq_eq_false_iff_ne] at hk
      obtain ⟨⟨hk1, hk2, hk3⟩, hk4⟩ := hk
      obtain ⟨hq, hev2⟩ := mCk_ev hev
      obtain ⟨⟨rfl, rfl⟩, hn1, hn2⟩ := hq
      exact so35 C I hL.1 hm.1 hm.2 (mShort_le hk4) hk1 hk2 hk3 hn1 hn2 (fun H1 locs1 I1 => IH p l e R s m args below meth c Q y _ _ _ _ _ _ _ _ r D A ρ0 M0 sh0 ρ H1 locs1 _ hev2 C I1 hL hret)
    · exact mNo_not hev
  · exact mNo_not hev
theorem sx37 (IH : mSim n) (C : mAct p s m args meth c R y D A ρ0 M0) (I : mHI s y D A ρ0 M0 sh0 ρ sh M J nc ns H locs) (hL : mLoc ρ ls (PG.2.1 y).1 L) (hret : mRetH p l e R s m args below meth c Q y D A ρ0 M0 sh0 r) (hm : okOp (pby y) (pnm y).cls (pnm y).name (PG.2.1 y).1 (PG.2.1 y).2.1 (PG.2.1 y).2.2.2.1 (pPc y) (pHi y i) (pPc y i) (37, oa, ob, oc, od, oq, on, ol, oe) = true) (hev : mApp (mExec PG 37 oa ob oc od on ol y L S sh M J nc ns) (mEv PG n) = some r) : W p l e R s m args below meth c H locs nc ns Q (F0 m (pPc y i) ls (S.map (mTr ρ))) := by
  simp only [mExec] at hev
  have hm := hm
  simp only [okOp, Bool.and_eq_true, decide_eq_true_eq] at hm
  split at hev
  · rename_i a S2
    split at hev
    · rename_i hk
      exact so37 C hL.1 hm.1 hm.2 (mShort_le hk) (IH p l e R s m args below meth c Q y _ _ _ sh M J nc ns r D A ρ0 M0 sh0 ρ H locs _ (show mEv PG n (y, on, L, S2, sh, M, J, nc, ns) = some r from hev) C I hL hret)
    · exact mNo_not hev
  · exact mNo_not hev
theorem sx39 (IH : mSim n) (C : mAct p s m args meth c R y D A ρ0 M0) (I : mHI s y D A ρ0 M0 sh0 ρ sh M J nc ns H locs) (hL : mLoc ρ ls (PG.2.1 y).1 L) (hret : mRetH p l e R s m args below meth c Q y D A ρ0 M0 sh0 r) (hm : okOp (pby y) (pnm y).cls (pnm y).name (PG.2.1 y).1 (PG.2.1 y).2.1 (PG.2.1 y).2.2.2.1 (pPc y) (pHi y i) (pPc y i) (39, oa, ob, oc, od, oq, on, ol, oe) = true) (hev : mApp (mExec PG 39 oa ob oc od on ol y L S sh M J nc ns) (mEv PG n) = some r) : W p l e R s m args below meth c H locs nc ns Q (F0 m (pPc y i) ls (S.map (mTr ρ))) := by
  simp only [mExec] at hev
  have hm := hm
  simp only [okOp, Bool.and_eq_true, decide_eq_true_eq] at hm
  split at hev
  · rename_i a S2
    split at hev
    · rename_i ho
      obtain ⟨o1, o2, o3⟩ := mObj_at I.2.2.2.2.2.1.2 ho
      exact so39 C I hm.1 hm.2.1 o1 o2 o3 (fun H1 locs1 I1 => hm.2.2 ▸ IH p l e R s m args below meth c Q y _ _ _ _ _ _ _ _ r D A ρ0 M0 sh0 ρ H1 locs1 _ (show mEv PG n (y, on, L, S2, sh, mUp M a oa oc, J, nc, ns) = some r from hev) C I1 hL hret)
    · exact mNo_not hev
  · exact mNo_not hev
theorem sx40 (IH : mSim n) (C : mAct p s m args meth c R y D A ρ0 M0) (I : mHI s y D A ρ0 M0 sh0 ρ sh M J nc ns H locs) (hL : mLoc ρ ls (PG.2.1 y).1 L) (hret : mRetH p l e R s m args below meth c Q y D A ρ0 M0 sh0 r) (hm : okOp (pby y) (pnm y).cls (pnm y).name (PG.2.1 y).1 (PG.2.1 y).2.1 (PG.2.1 y).2.2.2.1 (pPc y) (pHi y i) (pPc y i) (40, oa, ob, oc, od, oq, on, ol, oe) = true) (hev : mApp (mExec PG 40 oa ob oc od on ol y L S sh M J nc ns) (mEv PG n) = some r) : W p l e R s m args below meth c H locs nc ns Q (F0 m (pPc y i) ls (S.map (mTr ρ))) := by
  simp only [mExec] at hev
  have hm := hm
  simp only [okOp, Bool.and_eq_true, decide_eq_true_eq] at hm
  split at hev
  · rename_i x a S2
    split at hev
    · rename_i hk
      obtain ⟨hq, hev⟩ := mCk_ev hev
      exact so40 C I hm.1 hm.2 hk hq (fun H1 locs1 I1 => IH p l e R s m args below meth c Q y _ _ _ _ _ _ _ _ r D A ρ0 M0 sh0 ρ H1 locs1 _ hev C I1 hL hret)
    · exact mNo_not hev
  · exact mNo_not hev
theorem sx41 (IH : mSim n) (C : mAct p s m args meth c R y D A ρ0 M0) (I : mHI s y D A ρ0 M0 sh0 ρ sh M J nc ns H locs) (hL : mLoc ρ ls (PG.2.1 y).1 L) (hret : mRetH p l e R s m args below meth c Q y D A ρ0 M0 sh0 r) (hm : okOp (pby y) (pnm y).cls (pnm y).name (PG.2.1 y).1 (PG.2.1 y).2.1 (PG.2.1 y).2.2.2.1 (pPc y) (pHi y i) (pPc y i) (41, oa, ob, oc, od, oq, on, ol, oe) = true) (hev : mApp (mExec PG 41 oa ob oc od on ol y L S sh M J nc ns) (mEv PG n) = some r) : W p l e R s m args below meth c H locs nc ns Q (F0 m (pPc y i) ls (S.map (mTr ρ))) := by
  simp only [mExec] at hev
  have hm := hm
  simp only [okOp, Bool.and_eq_true, decide_eq_true_eq] at hm
  split at hev
  · rename_i v x S2
    split at hev
    · rename_i hk
      exact so41i C I hL.1 hm.1 (by decide) hm.2 (mShort_le (by assumption)) (IH p l e R s m args below meth c Q y _ _ _ sh M J nc ns r D A ρ0 M0 sh0 ρ H locs _ (show mEv PG n (y, on, L, .int (mMx 0 x v) :: S2, sh, M, J, nc, ns) = some r from hev) C I hL hret)
    · rename_i hk
      exact so41i C I hL.1 hm.1 (by decide) hm.2 (mShort_le (by assumption)) (IH p l e R s m args below meth c Q y _ _ _ sh M J nc ns r D A ρ0 M0 sh0 ρ H locs _ (show mEv PG n (y, on, L, .int (mMx 1 x v) :: S2, sh, M, J, nc, ns) = some r from hev) C I hL hret)
    · exact mNo_not hev
  · rename_i v x S2
    split at hev
    · rename_i hk
      exact so41j C I hL.1 hm.1 hm.2 (mShort_le (by assumption)) (IH p l e R s m args below meth c Q y _ _ _ sh M J nc ns r D A ρ0 M0 sh0 ρ H locs _ (show mEv PG n (y, on, L, .long (mMxJ x v) :: S2, sh, M, J, nc, ns) = some r from hev) C I hL hret)
    · exact mNo_not hev
  · exact mNo_not hev
end SIM
end
section
/-! SOUNDNESS: calls, makers, all codes -/
section SIM
variable {p : Program} {l : Launch} {e : Env} {R : Room} {s : State} {m : MethodId} {args : Array Value} {below : List Frame} {meth : Method} {c : Code} {Q : State → Prop} {y i : Nat} {D : va_G} {A : Nat → Prop} {ρ0 : mRho} {M0 : mMI} {sh0 : List mSC} {ρ : mRho} {sh : List mSC} {M : mMI} {J : mMJ} {nc ns : Nat} {H : Heap} {locs : List Loc} {ls : Array Slot} {L : List (Option Value)} {S : List Value} {r : mRs} {oa ob on oq : Nat} {oc : Int32} {od : Int64} {ol oe : List Nat} {n : Nat}
set_option maxHeartbeats 4000000 in
theorem sx33 (hz : ∀ z, z < 196 → okZ z = true) (IH : mSim n) (C : mAct p s m args meth c R y D A ρ0 M0) (I : mHI s y D A ρ0 M0 sh0 ρ sh M J nc ns H locs) (hL : mLoc ρ ls (PG.2.1 y).1 L) (hret : mRetH p l e R s m args below meth c Q y D A ρ0 M0 sh0 r) (hm : okOp (pby y) (pnm y).cls (pnm y).name (PG.2.1 y).1 (PG.2.1 y).2.1 (PG.2.1 y).2.2.2.1 (pPc y) (pHi y i) (pPc y i) (33, oa, ob, oc, od, oq, on, ol, oe) = true) (hev : mApp (mExec PG 33 oa ob oc od on ol y L S sh M J nc ns) (mEv PG n) = some r) : W p l e R s m args below meth c H locs nc ns Q (F0 m (pPc y i) ls (S.map (mTr ρ))) := by
  have hm : ok33 (pby y) (pnm y).cls (pHi y i) oa ob (pPc y i) (pPc y on) = true := hm
  have hev : mApp (mCall PG oa ob y on L S sh M J nc ns) (mEv PG n) = some r := hev
  have hz1 : okZ oa = true := hz oa (by
    unfold ok33 at hm
    simp only [Bool.and_eq_true, decide_eq_true_eq] at hm
    exact hm.2.1)
  obtain ⟨-, -, ⟨-, -, -, -, -, h3n⟩, -, hrt, hpz⟩ := okZ_at hz1
  unfold mCall at hev
  split at hev
  · rename_i A1 S2 hrk hpop
    split at hev
    · rename_i hck
      simp only [Bool.and_eq_true, Nat.ble_eq] at hck
      obtain ⟨hsh, hrc, hal⟩ := hck
      obtain ⟨hst, hAl⟩ := mPop_eq hpop
      have hst : S = A1.reverse ++ S2 := by simpa using hst.symm
      have hAl : A1.length = ob := by simpa using hAl
      have hrk : (PG.2.1 oa).2.2.2.1 < (PG.2.1 y).2.2.2.1 := by simpa [Nat.blt_eq] using hrk
      rw [hst]
      unfold mCallK at hev
      split at hev
      · rename_i hp0
        split at hev
        · rename_i hpy hck2
          simp only [Bool.and_eq_true, Nat.ble_eq] at hck2
          obtain ⟨⟨hc1, hc2⟩, hc3, hc4⟩ := hck2
          rw [mApp_C] at hev
          obtain ⟨g, hg, hev⟩ := mBC_some hev
          refine so33 IH C I hL.1 hm hz1 hrk hc1 hc2 hAl hsh hrc hal hg (fun ρ2 H1 locs1 g1 g2 g3 g4 g5 g6 g7 g8 g9 => ?_)
          have I1 : mHI s y D A ρ0 M0 sh0 ρ2 g.1 g.2.1 g.2.2.1 (nc + (PG.2.1 oa).2.2.2.2.2.1) (ns + (PG.2.1 oa).2.2.2.2.2.2.1) H1 locs1 := by
            obtain ⟨-, -, -, -, -, -, -, h8, h9, -⟩ := I
            exact ⟨g6, g7, g8, g9, g5, g4, fun q => absurd hpy q, fun k hk => (g2 k (by omega)).trans (h8 k hk), Nat.le_trans h9 g3, hc1, hc2⟩
          have := IH p l e R s m args below meth c Q y on L S2 _ _ _ _ _ r D A ρ0 M0 sh0 ρ2 H1 locs1 ls hev C I1 (hL.re hc3 g2) hret
          rw [mTrS_re hc4 g2] at this
          exact this
        · exact mNo_not hev
      · rename_i hp0
        obtain ⟨hm0, hs0⟩ : (PG.2.1 oa).2.2.2.2.2.1 = 0 ∧ (PG.2.1 oa).2.2.2.2.2.2.1 = 0 := by
          rcases hpz with q | q
          · exact absurd q.1 hp0
          · exact q.2
        have hc1 : nc + (PG.2.1 oa).2.2.2.2.2.1 ≤ (PG.2.1 y).2.2.2.2.2.1 := by rw [hm0]; exact I.2.2.2.2.2.2.2.2.2.1
        have hc2 : ns + (PG.2.1 oa).2.2.2.2.2.2.1 ≤ (PG.2.1 y).2.2.2.2.2.2.1 := by rw [hs0]; exact I.2.2.2.2.2.2.2.2.2.2
        have fin : ∀ (v : Option Value) (g : mHp) (S3 : List Value), mEv PG n (mEnt PG oa A1 sh M J) = some (v, g) → mEv PG n (y, on, L, S3 ++ S2, sh, g.2.1, g.2.2.1, nc, ns) = some r → (v.map (mTr ρ)).toList = S3.map (mTr ρ) → W p l e R s m args below meth c H locs nc ns Q (F0 m (pPc y i) ls ((A1.reverse ++ S2).map (mTr ρ))) := by
          intro v g S3 hg hev2 hv
          refine so33 IH C I hL.1 hm hz1 hrk hc1 hc2 hAl hsh hrc hal hg (fun ρ2 H1 locs1 g1 g2 g3 g4 g5 g6 g7 g8 g9 => ?_)
          obtain ⟨e1, e2⟩ := g1 hp0
          subst e1
          have e2 : g.1 = sh := e2
          simp only [hm0, hs0, Nat.add_zero]
          have I1 : mHI s y D A ρ0 M0 sh0 ρ2 sh g.2.1 g.2.2.1 nc ns H1 locs1 := by
            obtain ⟨-, -, -, h4, -, h6, h7⟩ := I
            dsimp only at g6 g7 g9
            rw [e2] at g6 g7
            exact ⟨g6, g7, g8, h4, g5, h6, h7⟩
          have := IH p l e R s m args below meth c Q y on L (S3 ++ S2) sh _ _ nc ns r D A ρ0 M0 sh0 ρ2 H1 locs1 ls hev2 C I1 hL hret
          rw [List.map_append, ← hv] at this
          exact this
        split at hev
        · rw [mApp_R] at hev
          obtain ⟨v, g, h1, h2, h3⟩ := mBR_some hev
          rcases h2 with ⟨rfl, -⟩ | ⟨a, -, h2⟩
          · exact fin none g [] h1 h3 rfl
          · cases h2
        · rw [mApp_J] at hev
          obtain ⟨v, g, h1, h3⟩ := mBJ_some hev
          exact fin (some (.long v)) g [.long v] h1 h3 rfl
        · rw [mApp_R] at hev
          obtain ⟨v, g, h1, h2, h3⟩ := mBR_some hev
          rcases h2 with ⟨rfl, h2⟩ | ⟨a, rfl, h2⟩
          · rcases h3n with q | q
            · exact absurd (by assumption) q
            · exact absurd h2 q
          · rw [h2] at h3
            exact fin (some (.ref a)) g [.ref a] h1 h3 rfl
        · rw [mApp_I] at hev
          obtain ⟨v, g, h1, h3⟩ := mBI_some hev
          exact fin (some (.int v)) g [.int v] h1 h3 rfl
    · exact mNo_not hev
  · exact mNo_not hev
theorem mNew_ev {K : mCf → Option mRs} {k w q : Nat} {rs : List Nat} (h : mApp (mNew PG y on k w q rs L S sh M J nc ns) K = some r) : (sh.length < 900 ∧ nc + 1 ≤ (PG.2.1 y).2.2.2.2.2.1 ∧ ns + q ≤ (PG.2.1 y).2.2.2.2.2.2.1) ∧ (mNrO sh.length L = true ∧ mNrS sh.length S = true ∧ mNrH sh.length sh = true) ∧ K (y, on, L, .ref sh.length :: S, sh ++ [(k, w, rs)], mSet M sh.length (fun _ => 0), mSetJ J sh.length (fun _ => 0), nc + 1, ns + q) = some r := by
  unfold mNew at h
  split at h
  · rename_i hc
    simp only [Bool.and_eq_true, Nat.ble_eq, Nat.blt_eq] at hc
    exact ⟨hc.1, hc.2, h⟩
  · exact mNo_not h
theorem sx28 (IH : mSim n) (C : mAct p s m args meth c R y D A ρ0 M0) (I : mHI s y D A ρ0 M0 sh0 ρ sh M J nc ns H locs) (hL : mLoc ρ ls (PG.2.1 y).1 L) (hret : mRetH p l e R s m args below meth c Q y D A ρ0 M0 sh0 r) (hm : okOp (pby y) (pnm y).cls (pnm y).name (PG.2.1 y).1 (PG.2.1 y).2.1 (PG.2.1 y).2.2.2.1 (pPc y) (pHi y i) (pPc y i) (28, oa, ob, oc, od, oq, on, ol, oe) = true) (hpl : (PG.2.1 y).2.2.1 = 0) (hev : mApp (mMake PG 28 oa ob oc od on ol y L S sh M J nc ns) (mEv PG n) = some r) : W p l e R s m args below meth c H locs nc ns Q (F0 m (pPc y i) ls (S.map (mTr ρ))) := by
  have hm : okP (pby y) 28 (pPc y i) (pPc y on) = true := hm
  simp only [mMake] at hev
  split at hev
  · rename_i r1 x a S2
    split at hev
    · rename_i hc
      simp only [Bool.and_eq_true] at hc
      obtain ⟨j, h1, h2, h3⟩ := mRwS_ev (K := mEv PG n) _ 0 hev
      rw [Nat.zero_add] at h2 h3
      exact so28 C I hpl hm hc.1 hc.2 h1 h2 (fun H1 locs1 I1 => IH p l e R s m args below meth c Q y _ _ _ _ _ _ _ _ r D A ρ0 M0 sh0 ρ H1 locs1 _ h3 C I1 hL hret)
    · exact mNo_not hev
  · exact mNo_not hev
theorem sx30 (IH : mSim n) (C : mAct p s m args meth c R y D A ρ0 M0) (I : mHI s y D A ρ0 M0 sh0 ρ sh M J nc ns H locs) (hL : mLoc ρ ls (PG.2.1 y).1 L) (hret : mRetH p l e R s m args below meth c Q y D A ρ0 M0 sh0 r) (hm : okOp (pby y) (pnm y).cls (pnm y).name (PG.2.1 y).1 (PG.2.1 y).2.1 (PG.2.1 y).2.2.2.1 (pPc y) (pHi y i) (pPc y i) (30, oa, ob, oc, od, oq, on, ol, oe) = true) (hpl : (PG.2.1 y).2.2.1 = 0) (hev : mApp (mMake PG 30 oa ob oc od on ol y L S sh M J nc ns) (mEv PG n) = some r) : W p l e R s m args below meth c H locs nc ns Q (F0 m (pPc y i) ls (S.map (mTr ρ))) := by
  have hm : ok30 (pby y) (pnm y).cls (pHi y i) oa ob (pPc y i) (pPc y on) = true := hm
  simp only [mMake] at hev
  obtain ⟨⟨h900, hnc, hns⟩, ⟨hO, hSS, hH⟩, h3⟩ := mNew_ev hev
  exact so30 C I hL hpl hm h900 hnc hns hO hSS hH (fun ρ2 H1 I1 hL2 => IH p l e R s m args below meth c Q y _ _ _ _ _ _ _ _ r D A ρ0 M0 sh0 ρ2 H1 locs _ h3 C I1 hL2 hret)
theorem sx31 (IH : mSim n) (C : mAct p s m args meth c R y D A ρ0 M0) (I : mHI s y D A ρ0 M0 sh0 ρ sh M J nc ns H locs) (hL : mLoc ρ ls (PG.2.1 y).1 L) (hret : mRetH p l e R s m args below meth c Q y D A ρ0 M0 sh0 r) (hm : okOp (pby y) (pnm y).cls (pnm y).name (PG.2.1 y).1 (PG.2.1 y).2.1 (PG.2.1 y).2.2.2.1 (pPc y) (pHi y i) (pPc y i) (31, oa, ob, oc, od, oq, on, ol, oe) = true) (hpl : (PG.2.1 y).2.2.1 = 0) (hev : mApp (mMake PG 31 oa ob oc od on ol y L S sh M J nc ns) (mEv PG n) = some r) : W p l e R s m args below meth c H locs nc ns Q (F0 m (pPc y i) ls (S.map (mTr ρ))) := by
  have hm : ok31 (pby y) (pHi y i) oa ob oc (pPc y i) (pPc y on) = true := hm
  simp only [mMake] at hev
  split at hev
  · rename_i k S2
    split at hev
    · rename_i hk
      rw [decide_eq_true_eq] at hk
      subst hk
      obtain ⟨⟨h900, hnc, hns⟩, ⟨hO, hSS, hH⟩, h3⟩ := mNew_ev hev
      exact so31 C I hL hpl hm h900 hnc hns hO hSS hH (fun ρ2 H1 I1 hL2 => IH p l e R s m args below meth c Q y _ _ _ _ _ _ _ _ r D A ρ0 M0 sh0 ρ2 H1 locs _ h3 C I1 hL2 hret)
    · exact mNo_not hev
  · exact mNo_not hev
theorem sx32 (IH : mSim n) (C : mAct p s m args meth c R y D A ρ0 M0) (I : mHI s y D A ρ0 M0 sh0 ρ sh M J nc ns H locs) (hL : mLoc ρ ls (PG.2.1 y).1 L) (hret : mRetH p l e R s m args below meth c Q y D A ρ0 M0 sh0 r) (hm : okOp (pby y) (pnm y).cls (pnm y).name (PG.2.1 y).1 (PG.2.1 y).2.1 (PG.2.1 y).2.2.2.1 (pPc y) (pHi y i) (pPc y i) (32, oa, ob, oc, od, oq, on, ol, oe) = true) (hpl : (PG.2.1 y).2.2.1 = 0) (hev : mApp (mMake PG 32 oa ob oc od on ol y L S sh M J nc ns) (mEv PG n) = some r) : W p l e R s m args below meth c H locs nc ns Q (F0 m (pPc y i) ls (S.map (mTr ρ))) := by
  have hm : ok32 (pby y) (pnm y).cls (pHi y i) ob oc (pPc y i) (pPc y on) = true := hm
  simp only [mMake] at hev
  split at hev
  · rename_i k S2
    split at hev
    · rename_i hk
      rw [decide_eq_true_eq] at hk
      subst hk
      obtain ⟨⟨h900, hnc, hns⟩, ⟨hO, hSS, hH⟩, h3⟩ := mNew_ev hev
      exact so32 C I hL hpl hm h900 hnc hns hO hSS hH (fun ρ2 H1 I1 hL2 => IH p l e R s m args below meth c Q y _ _ _ _ _ _ _ _ r D A ρ0 M0 sh0 ρ2 H1 locs _ h3 C I1 hL2 hret)
    · exact mNo_not hev
  · exact mNo_not hev
theorem sx36 (IH : mSim n) (C : mAct p s m args meth c R y D A ρ0 M0) (I : mHI s y D A ρ0 M0 sh0 ρ sh M J nc ns H locs) (hL : mLoc ρ ls (PG.2.1 y).1 L) (hret : mRetH p l e R s m args below meth c Q y D A ρ0 M0 sh0 r) (hm : okOp (pby y) (pnm y).cls (pnm y).name (PG.2.1 y).1 (PG.2.1 y).2.1 (PG.2.1 y).2.2.2.1 (pPc y) (pHi y i) (pPc y i) (36, oa, ob, oc, od, oq, on, ol, oe) = true) (hpl : (PG.2.1 y).2.2.1 = 0) (hev : mApp (mMake PG 36 oa ob oc od on ol y L S sh M J nc ns) (mEv PG n) = some r) : W p l e R s m args below meth c H locs nc ns Q (F0 m (pPc y i) ls (S.map (mTr ρ))) := by
  simp only [okOp, Bool.and_eq_true, decide_eq_true_eq] at hm
  simp only [mMake] at hev
  split at hev
  · rename_i r1 a S2
    split at hev
    · rename_i hc
      simp only [Bool.and_eq_true, Nat.blt_eq] at hc
      obtain ⟨o1, o2, o3⟩ := mObj_at I.2.2.2.2.2.1.2 hc.1
      exact so36 C I hpl hm.1 o1 o2 o3 hc.2 (fun H1 locs1 I1 => hm.2 ▸ IH p l e R s m args below meth c Q y _ _ _ _ _ _ _ _ r D A ρ0 M0 sh0 ρ H1 locs1 _ (show mEv PG n (y, on, L, S2, mPut sh a (mLinkO r1 (mAt pcon sh a) oa), M, J, nc, ns) = some r from hev) C I1 hL hret)
    · exact mNo_not hev
  · exact mNo_not hev
theorem sx38 (IH : mSim n) (C : mAct p s m args meth c R y D A ρ0 M0) (I : mHI s y D A ρ0 M0 sh0 ρ sh M J nc ns H locs) (hL : mLoc ρ ls (PG.2.1 y).1 L) (hret : mRetH p l e R s m args below meth c Q y D A ρ0 M0 sh0 r) (hm : okOp (pby y) (pnm y).cls (pnm y).name (PG.2.1 y).1 (PG.2.1 y).2.1 (PG.2.1 y).2.2.2.1 (pPc y) (pHi y i) (pPc y i) (38, oa, ob, oc, od, oq, on, ol, oe) = true) (hpl : (PG.2.1 y).2.2.1 = 0) (hev : mApp (mMake PG 38 oa ob oc od on ol y L S sh M J nc ns) (mEv PG n) = some r) : W p l e R s m args below meth c H locs nc ns Q (F0 m (pPc y i) ls (S.map (mTr ρ))) := by
  simp only [okOp, Bool.and_eq_true, decide_eq_true_eq] at hm
  simp only [mMake] at hev
  split at hev
  · rename_i v a S2
    split at hev
    · rename_i ho
      obtain ⟨o1, o2, o3⟩ := mObj_at I.2.2.2.2.2.1.2 ho
      obtain ⟨hq, hev2⟩ := mCk_ev hev
      exact so21 C I hm.1 o1 o2 o3 (fun _ => hq) (fun H1 locs1 I1 => hm.2 ▸ IH p l e R s m args below meth c Q y _ _ _ _ _ _ _ _ r D A ρ0 M0 sh0 ρ H1 locs1 _ hev2 C I1 hL hret)
    · exact mNo_not hev
  · exact mNo_not hev
theorem sxAll {ok : Nat} (hz : ∀ z, z < 196 → okZ z = true) (IH : mSim n) (C : mAct p s m args meth c R y D A ρ0 M0) (I : mHI s y D A ρ0 M0 sh0 ρ sh M J nc ns H locs) (hL : mLoc ρ ls (PG.2.1 y).1 L) (hret : mRetH p l e R s m args below meth c Q y D A ρ0 M0 sh0 r) (hm : okOp (pby y) (pnm y).cls (pnm y).name (PG.2.1 y).1 (PG.2.1 y).2.1 (PG.2.1 y).2.2.2.1 (pPc y) (pHi y i) (pPc y i) (ok, oa, ob, oc, od, oq, on, ol, oe) = true) (hev : mApp (mExec PG ok oa ob oc od on ol y L S sh M J nc ns) (mEv PG n) = some r) : W p l e R s m args below meth c H locs nc ns Q (F0 m (pPc y i) ls (S.map (mTr ρ))) := by
  match ok, hm, hev with
  | 0, hm, hev => exact sx0 IH C I hL hret hm hev
  | 1, hm, hev => exact sx1 IH C I hL hret hm hev
  | 2, hm, hev => exact sx2 IH C I hL hret hm hev
  | 3, hm, hev => exact sx3 IH C I hL hret hm hev
  | 4, hm, hev => exact sx4 IH C I hL hret hm hev
  | 5, hm, hev => exact sx5 IH C I hL hret hm hev
  | 6, hm, hev => exact sx6 IH C I hL hret hm hev
  | 7, hm, hev => exact sx7 IH C I hL hret hm hev
  | 8, hm, hev => exact sx8 IH C I hL hret hm hev
  | 9, hm, hev => exact sx9 IH C I hL hret hm hev
  | 10, hm, hev => exact sx10 IH C I hL hret hm hev
  | 11, hm, hev => exact sx11 IH C I hL hret hm hev
  | 12, hm, hev => exact sx12 IH C I hL hret hm hev
  | 13, hm, hev => exact sx13 IH C I hL hret hm hev
  | 14, hm, hev => exact sx14 IH C I hL hret hm hev
  | 15, hm, hev => exact sx15 IH C I hL hret hm hev
  | 16, hm, hev => exact sx16 IH C I hL hret hm hev
  | 17, hm, hev => exact sx17 IH C I hL hret hm hev
  | 18, hm, hev => exact sx18 IH C I hL hret hm hev
  | 19, hm, hev => exact sx19 IH C I hL hret hm hev
  | 20, hm, hev => exact sx20 IH C I hL hret hm hev
  | 21, hm, hev => exact sx21 IH C I hL hret hm hev
  | 22, hm, hev => exact sx22 IH C I hL hret hm hev
  | 23, hm, hev => exact sx23 IH C I hL hret hm hev
  | 24, hm, hev => exact sx24 IH C I hL hret hm hev
  | 25, hm, hev => exact sx25 IH C I hL hret hm hev
  | 26, hm, hev => exact sx26 IH C I hL hret hm hev
  | 27, hm, hev => exact sx27 IH C I hL hret hm hev
  | 28, hm, hev => exact mNo_not hev
  | 29, hm, hev => exact sx29 IH C I hL hret hm hev
  | 30, hm, hev => exact mNo_not hev
  | 31, hm, hev => exact mNo_not hev
  | 32, hm, hev => exact mNo_not hev
  | 33, hm, hev => exact sx33 hz IH C I hL hret hm hev
  | 34, hm, hev => exact sx34 IH C I hL hret hm hev
  | 35, hm, hev => exact sx35 IH C I hL hret hm hev
  | 36, hm, hev => exact mNo_not hev
  | 37, hm, hev => exact sx37 IH C I hL hret hm hev
  | 38, hm, hev => exact mNo_not hev
  | 39, hm, hev => exact sx39 IH C I hL hret hm hev
  | 40, hm, hev => exact sx40 IH C I hL hret hm hev
  | 41, hm, hev => exact sx41 IH C I hL hret hm hev
  | k + 42, hm, hev => exact mNo_not hev
theorem sxMake {ok : Nat} (hz : ∀ z, z < 196 → okZ z = true) (IH : mSim n) (C : mAct p s m args meth c R y D A ρ0 M0) (I : mHI s y D A ρ0 M0 sh0 ρ sh M J nc ns H locs) (hL : mLoc ρ ls (PG.2.1 y).1 L) (hret : mRetH p l e R s m args below meth c Q y D A ρ0 M0 sh0 r) (hm : okOp (pby y) (pnm y).cls (pnm y).name (PG.2.1 y).1 (PG.2.1 y).2.1 (PG.2.1 y).2.2.2.1 (pPc y) (pHi y i) (pPc y i) (ok, oa, ob, oc, od, oq, on, ol, oe) = true) (hpl : (PG.2.1 y).2.2.1 = 0) (hev : mApp (mMake PG ok oa ob oc od on ol y L S sh M J nc ns) (mEv PG n) = some r) : W p l e R s m args below meth c H locs nc ns Q (F0 m (pPc y i) ls (S.map (mTr ρ))) := by
  match ok, hm, hev with
  | 0, hm, hev => exact sxAll (ok := 0) hz IH C I hL hret hm hev
  | 1, hm, hev => exact sxAll (ok := 1) hz IH C I hL hret hm hev
  | 2, hm, hev => exact sxAll (ok := 2) hz IH C I hL hret hm hev
  | 3, hm, hev => exact sxAll (ok := 3) hz IH C I hL hret hm hev
  | 4, hm, hev => exact sxAll (ok := 4) hz IH C I hL hret hm hev
  | 5, hm, hev => exact sxAll (ok := 5) hz IH C I hL hret hm hev
  | 6, hm, hev => exact sxAll (ok := 6) hz IH C I hL hret hm hev
  | 7, hm, hev => exact sxAll (ok := 7) hz IH C I hL hret hm hev
  | 8, hm, hev => exact sxAll (ok := 8) hz IH C I hL hret hm hev
  | 9, hm, hev => exact sxAll (ok := 9) hz IH C I hL hret hm hev
  | 10, hm, hev => exact sxAll (ok := 10) hz IH C I hL hret hm hev
  | 11, hm, hev => exact sxAll (ok := 11) hz IH C I hL hret hm hev
  | 12, hm, hev => exact sxAll (ok := 12) hz IH C I hL hret hm hev
  | 13, hm, hev => exact sxAll (ok := 13) hz IH C I hL hret hm hev
  | 14, hm, hev => exact sxAll (ok := 14) hz IH C I hL hret hm hev
  | 15, hm, hev => exact sxAll (ok := 15) hz IH C I hL hret hm hev
  | 16, hm, hev => exact sxAll (ok := 16) hz IH C I hL hret hm hev
  | 17, hm, hev => exact sxAll (ok := 17) hz IH C I hL hret hm hev
  | 18, hm, hev => exact sxAll (ok := 18) hz IH C I hL hret hm hev
  | 19, hm, hev => exact sxAll (ok := 19) hz IH C I hL hret hm hev
  | 20, hm, hev => exact sxAll (ok := 20) hz IH C I hL hret hm hev
  | 21, hm, hev => exact sxAll (ok := 21) hz IH C I hL hret hm hev
  | 22, hm, hev => exact sxAll (ok := 22) hz IH C I hL hret hm hev
  | 23, hm, hev => exact sxAll (ok := 23) hz IH C I hL hret hm hev
  | 24, hm, hev => exact sxAll (ok := 24) hz IH C I hL hret hm hev
  | 25, hm, hev => exact sxAll (ok := 25) hz IH C I hL hret hm hev
  | 26, hm, hev => exact sxAll (ok := 26) hz IH C I hL hret hm hev
  | 27, hm, hev => exact sxAll (ok := 27) hz IH C I hL hret hm hev
  | 28, hm, hev => exact sx28 IH C I hL hret hm hpl hev
  | 29, hm, hev => exact sxAll (ok := 29) hz IH C I hL hret hm hev
  | 30, hm, hev => exact sx30 IH C I hL hret hm hpl hev
  | 31, hm, hev => exact sx31 IH C I hL hret hm hpl hev
  | 32, hm, hev => exact sx32 IH C I hL hret hm hpl hev
  | 33, hm, hev => exact sxAll (ok := 33) hz IH C I hL hret hm hev
  | 34, hm, hev => exact sxAll (ok := 34) hz IH C I hL hret hm hev
  | 35, hm, hev => exact sxAll (ok := 35) hz IH C I hL hret hm hev
  | 36, hm, hev => exact sx36 IH C I hL hret hm hpl hev
  | 37, hm, hev => exact sxAll (ok := 37) hz IH C I hL hret hm hev
  | 38, hm, hev => exact sx38 IH C I hL hret hm hpl hev
  | 39, hm, hev => exact sxAll (ok := 39) hz IH C I hL hret hm hev
  | 40, hm, hev => exact sxAll (ok := 40) hz IH C I hL hret hm hev
  | 41, hm, hev => exact sxAll (ok := 41) hz IH C I hL hret hm hev
  | k + 42, hm, hev => exact sxAll (ok := k + 42) hz IH C I hL hret hm hev
end SIM
theorem mSim_all (hok : ∀ y i, okMi y i = true) (hz : ∀ z, z < 196 → okZ z = true) : ∀ n, mSim n
  | 0 => by
    intro p l e R s m args below meth c Q y i L S sh M J nc ns r D A ρ0 M0 sh0 ρ H locs ls hev
    cases hev
  | n + 1 => by
    intro p l e R s m args below meth c Q y i L S sh M J nc ns r D A ρ0 M0 sh0 ρ H locs ls hev C I hL hret
    have IH := mSim_all hok hz n
    have hev : mApp (mStep PG (y, i, L, S, sh, M, J, nc, ns)) (mEv PG n) = some r := hev
    rw [mStep_eq] at hev
    have hm := hok y i
    unfold okMi at hm
    generalize mFe PG y i = o at hev hm
    obtain ⟨ok, oa, ob, oc, od, oq, on, ol, oe⟩ := o
    dsimp only at hev
    have hL2 := hL.ers oe
    unfold mDo at hev
    split at hev
    · rename_i hp
      exact sxMake hz IH C I hL2 hret hm hp hev
    · exact sxAll hz IH C I hL2 hret hm hev
end
section
/-! the check, method by method: by wip/whole/okgen.py -/
theorem okm_0 : okM 0 = true := by decide +kernel
theorem okm_1 : okM 1 = true := by decide +kernel
theorem okm_2 : okM 2 = true := by decide +kernel
theorem okm_3 : okM 3 = true := by decide +kernel
theorem okm_4 : okM 4 = true := by decide +kernel
theorem okm_5 : okM 5 = true := by decide +kernel
theorem okm_6 : okM 6 = true := by decide +kernel
theorem okm_7 : okM 7 = true := by decide +kernel
theorem okm_8 : okM 8 = true := by decide +kernel
theorem okm_9 : okM 9 = true := by decide +kernel
theorem okm_10 : okM 10 = true := by decide +kernel
theorem okm_11 : okM 11 = true := by decide +kernel
theorem okm_12 : okM 12 = true := by decide +kernel
theorem okm_13 : okM 13 = true := by decide +kernel
theorem okm_14 : okM 14 = true := by decide +kernel
theorem okm_15 : okM 15 = true := by decide +kernel
theorem okm_16 : okM 16 = true := by decide +kernel
theorem okm_17 : okM 17 = true := by decide +kernel
theorem okm_18 : okM 18 = true := by decide +kernel
theorem okm_19 : okM 19 = true := by decide +kernel
theorem okm_20 : okM 20 = true := by decide +kernel
theorem okm_21 : okM 21 = true := by decide +kernel
theorem okm_22 : okM 22 = true := by decide +kernel
theorem okm_23 : okM 23 = true := by decide +kernel
theorem okm_24 : okM 24 = true := by decide +kernel
theorem okm_25 : okM 25 = true := by decide +kernel
theorem okm_26 : okM 26 = true := by decide +kernel
theorem okm_27 : okM 27 = true := by decide +kernel
theorem okm_28 : okM 28 = true := by decide +kernel
theorem okm_29 : okM 29 = true := by decide +kernel
theorem okm_30 : okM 30 = true := by decide +kernel
theorem okm_31 : okM 31 = true := by decide +kernel
theorem okm_32 : okM 32 = true := by decide +kernel
theorem okm_33 : okM 33 = true := by decide +kernel
theorem okm_34 : okM 34 = true := by decide +kernel
theorem okm_35 : okM 35 = true := by decide +kernel
theorem okm_36 : okM 36 = true := by decide +kernel
theorem okm_37 : okM 37 = true := by decide +kernel
theorem okm_38 : okM 38 = true := by decide +kernel
theorem okm_39 : okM 39 = true := by decide +kernel
theorem okm_40 : okM 40 = true := by decide +kernel
theorem okm_41 : okM 41 = true := by decide +kernel
theorem okm_42 : okM 42 = true := by decide +kernel
theorem okm_43 : okM 43 = true := by decide +kernel
theorem okm_44 : okM 44 = true := by decide +kernel
theorem okm_45 : okM 45 = true := by decide +kernel
theorem okm_46 : okM 46 = true := by decide +kernel
theorem okm_47 : okM 47 = true := by decide +kernel
theorem okm_48 : okM 48 = true := by decide +kernel
theorem okm_49 : okM 49 = true := by decide +kernel
theorem okm_50 : okM 50 = true := by decide +kernel
theorem okm_51 : okM 51 = true := by decide +kernel
theorem okm_52 : okM 52 = true := by decide +kernel
theorem okm_53 : okM 53 = true := by decide +kernel
theorem okm_54 : okM 54 = true := by decide +kernel
theorem okm_55 : okM 55 = true := by decide +kernel
theorem okm_56 : okM 56 = true := by decide +kernel
theorem okm_57 : okM 57 = true := by decide +kernel
theorem okm_58 : okM 58 = true := by decide +kernel
theorem okm_59 : okM 59 = true := by decide +kernel
theorem okm_60 : okM 60 = true := by decide +kernel
theorem okm_61 : okM 61 = true := by decide +kernel
theorem okm_62 : okM 62 = true := by decide +kernel
theorem okm_63 : okM 63 = true := by decide +kernel
theorem okm_64 : okM 64 = true := by decide +kernel
theorem okm_65 : okM 65 = true := by decide +kernel
theorem okm_66 : okM 66 = true := by decide +kernel
theorem okm_67 : okM 67 = true := by decide +kernel
theorem okm_68 : okM 68 = true := by decide +kernel
theorem okm_69 : okM 69 = true := by decide +kernel
theorem okm_70 : okM 70 = true := by decide +kernel
theorem okm_71 : okM 71 = true := by decide +kernel
theorem okm_72 : okM 72 = true := by decide +kernel
theorem okm_73 : okM 73 = true := by decide +kernel
theorem okm_74 : okM 74 = true := by decide +kernel
theorem okm_75 : okM 75 = true := by decide +kernel
theorem okm_76 : okM 76 = true := by decide +kernel
theorem okm_77 : okM 77 = true := by decide +kernel
theorem okm_78 : okM 78 = true := by decide +kernel
theorem okm_79 : okM 79 = true := by decide +kernel
theorem okm_80 : okM 80 = true := by decide +kernel
theorem okm_81 : okM 81 = true := by decide +kernel
theorem okm_82 : okM 82 = true := by decide +kernel
theorem okm_83 : okM 83 = true := by decide +kernel
theorem okm_84 : okM 84 = true := by decide +kernel
theorem okm_85 : okM 85 = true := by decide +kernel
theorem okm_86 : okM 86 = true := by decide +kernel
theorem okm_87 : okM 87 = true := by decide +kernel
theorem okm_88 : okM 88 = true := by decide +kernel
theorem okm_89 : okM 89 = true := by decide +kernel
theorem okm_90 : okM 90 = true := by decide +kernel
theorem okm_91 : okM 91 = true := by decide +kernel
theorem okm_92 : okM 92 = true := by decide +kernel
theorem okm_93 : okM 93 = true := by decide +kernel
theorem okm_94 : okM 94 = true := by decide +kernel
theorem okm_95 : okM 95 = true := by decide +kernel
theorem okm_96 : okM 96 = true := by decide +kernel
theorem okm_97 : okM 97 = true := by decide +kernel
theorem okm_98 : okM 98 = true := by decide +kernel
theorem okm_99 : okM 99 = true := by decide +kernel
theorem okm_100 : okM 100 = true := by decide +kernel
theorem okm_101 : okM 101 = true := by decide +kernel
theorem okm_102 : okM 102 = true := by decide +kernel
theorem okm_103 : okM 103 = true := by decide +kernel
end
section
/-! the check, method by method -/
theorem okm_104 : okM 104 = true := by decide +kernel
theorem okm_105 : okM 105 = true := by decide +kernel
theorem okm_106 : okM 106 = true := by decide +kernel
theorem okm_107 : okM 107 = true := by decide +kernel
theorem okm_108 : okM 108 = true := by decide +kernel
theorem okm_109 : okM 109 = true := by decide +kernel
theorem okm_110 : okM 110 = true := by decide +kernel
theorem okm_111 : okM 111 = true := by decide +kernel
theorem okm_112 : okM 112 = true := by decide +kernel
theorem okm_113 : okM 113 = true := by decide +kernel
theorem okm_114 : okM 114 = true := by decide +kernel
theorem okm_115 : okM 115 = true := by decide +kernel
theorem okm_116 : okM 116 = true := by decide +kernel
theorem okm_117 : okM 117 = true := by decide +kernel
theorem okm_118 : okM 118 = true := by decide +kernel
theorem okm_119 : okM 119 = true := by decide +kernel
theorem okm_120 : okM 120 = true := by decide +kernel
theorem okm_121 : okM 121 = true := by decide +kernel
theorem okm_122 : okM 122 = true := by decide +kernel
theorem okm_123 : okM 123 = true := by decide +kernel
theorem okm_124 : okM 124 = true := by decide +kernel
theorem okm_125 : okM 125 = true := by decide +kernel
theorem okm_126 : okM 126 = true := by decide +kernel
theorem okm_127 : okM 127 = true := by decide +kernel
theorem okm_128 : okM 128 = true := by decide +kernel
theorem okm_129 : okM 129 = true := by decide +kernel
theorem okm_130 : okM 130 = true := by decide +kernel
theorem okm_131 : okM 131 = true := by decide +kernel
theorem okm_132 : okM 132 = true := by decide +kernel
theorem okm_133 : okM 133 = true := by decide +kernel
theorem okm_134 : okM 134 = true := by decide +kernel
theorem okm_135 : okM 135 = true := by decide +kernel
theorem okm_136 : okM 136 = true := by decide +kernel
theorem okm_137 : okM 137 = true := by decide +kernel
theorem okm_138 : okM 138 = true := by decide +kernel
theorem okm_139 : okM 139 = true := by decide +kernel
theorem okm_140 : okM 140 = true := by decide +kernel
theorem okm_141 : okM 141 = true := by decide +kernel
theorem okm_142 : okM 142 = true := by decide +kernel
theorem okm_143 : okM 143 = true := by decide +kernel
theorem okm_144 : okM 144 = true := by decide +kernel
theorem okm_145 : okM 145 = true := by decide +kernel
theorem okm_146 : okM 146 = true := by decide +kernel
theorem okm_147 : okM 147 = true := by decide +kernel
theorem okm_148 : okM 148 = true := by decide +kernel
theorem okm_149 : okM 149 = true := by decide +kernel
theorem okm_150 : okM 150 = true := by decide +kernel
theorem okm_151 : okM 151 = true := by decide +kernel
theorem okm_152 : okM 152 = true := by decide +kernel
theorem okm_153 : okM 153 = true := by decide +kernel
theorem okm_154 : okM 154 = true := by decide +kernel
theorem okm_155 : okM 155 = true := by decide +kernel
theorem okm_156 : okM 156 = true := by decide +kernel
theorem okm_157 : okM 157 = true := by decide +kernel
theorem okm_158 : okM 158 = true := by decide +kernel
theorem okm_159 : okM 159 = true := by decide +kernel
theorem okm_160 : okM 160 = true := by decide +kernel
theorem okm_161 : okM 161 = true := by decide +kernel
theorem okm_162 : okM 162 = true := by decide +kernel
theorem okm_163 : okM 163 = true := by decide +kernel
theorem okm_164 : okM 164 = true := by decide +kernel
theorem okm_165 : okM 165 = true := by decide +kernel
theorem okm_166 : okM 166 = true := by decide +kernel
theorem okm_167 : okM 167 = true := by decide +kernel
theorem okm_168 : okM 168 = true := by decide +kernel
theorem okm_169 : okM 169 = true := by decide +kernel
theorem okm_170 : okM 170 = true := by decide +kernel
theorem okm_171 : okM 171 = true := by decide +kernel
theorem okm_172 : okM 172 = true := by decide +kernel
theorem okm_173 : okM 173 = true := by decide +kernel
theorem okm_174 : okM 174 = true := by decide +kernel
theorem okm_175 : okM 175 = true := by decide +kernel
theorem okm_176 : okM 176 = true := by decide +kernel
theorem okm_177 : okM 177 = true := by decide +kernel
theorem okm_178 : okM 178 = true := by decide +kernel
theorem okm_179 : okM 179 = true := by decide +kernel
theorem okm_180 : okM 180 = true := by decide +kernel
theorem okm_181 : okM 181 = true := by decide +kernel
theorem okm_182 : okM 182 = true := by decide +kernel
theorem okm_183 : okM 183 = true := by decide +kernel
theorem okm_184 : okM 184 = true := by decide +kernel
theorem okm_185 : okM 185 = true := by decide +kernel
theorem okm_186 : okM 186 = true := by decide +kernel
theorem okm_187 : okM 187 = true := by decide +kernel
theorem okm_188 : okM 188 = true := by decide +kernel
theorem okm_189 : okM 189 = true := by decide +kernel
theorem okm_190 : okM 190 = true := by decide +kernel
theorem okm_191 : okM 191 = true := by decide +kernel
theorem okm_192 : okM 192 = true := by decide +kernel
theorem okm_193 : okM 193 = true := by decide +kernel
theorem okm_194 : okM 194 = true := by decide +kernel
theorem okm_195 : okM 195 = true := by decide +kernel
end
section
/-! the check of the law, by pieces -/
theorem okl_0 : (List.range' 0 64).all (okMi 196) = true := by decide +kernel
theorem okl_1 : (List.range' 64 64).all (okMi 196) = true := by decide +kernel
theorem okl_2 : (List.range' 128 64).all (okMi 196) = true := by decide +kernel
theorem okl_3 : (List.range' 192 64).all (okMi 196) = true := by decide +kernel
theorem okl_4 : (List.range' 256 64).all (okMi 196) = true := by decide +kernel
theorem okl_5 : (List.range' 320 64).all (okMi 196) = true := by decide +kernel
theorem okl_6 : (List.range' 384 64).all (okMi 196) = true := by decide +kernel
theorem okl_7 : (List.range' 448 64).all (okMi 196) = true := by decide +kernel
theorem okl_8 : (List.range' 512 64).all (okMi 196) = true := by decide +kernel
theorem okl_9 : (List.range' 576 64).all (okMi 196) = true := by decide +kernel
theorem okl_10 : (List.range' 640 64).all (okMi 196) = true := by decide +kernel
theorem okl_11 : (List.range' 704 64).all (okMi 196) = true := by decide +kernel
theorem okl_12 : (List.range' 768 64).all (okMi 196) = true := by decide +kernel
theorem okl_13 : (List.range' 832 64).all (okMi 196) = true := by decide +kernel
end
section
/-! the check, all in all -/
theorem okz_0 : (List.range' 0 16).all okZ = true := by decide +kernel
theorem okz_1 : (List.range' 16 16).all okZ = true := by decide +kernel
theorem okz_2 : (List.range' 32 16).all okZ = true := by decide +kernel
theorem okz_3 : (List.range' 48 16).all okZ = true := by decide +kernel
theorem okz_4 : (List.range' 64 16).all okZ = true := by decide +kernel
theorem okz_5 : (List.range' 80 16).all okZ = true := by decide +kernel
theorem okz_6 : (List.range' 96 16).all okZ = true := by decide +kernel
theorem okz_7 : (List.range' 112 16).all okZ = true := by decide +kernel
theorem okz_8 : (List.range' 128 16).all okZ = true := by decide +kernel
theorem okz_9 : (List.range' 144 16).all okZ = true := by decide +kernel
theorem okz_10 : (List.range' 160 16).all okZ = true := by decide +kernel
theorem okz_11 : (List.range' 176 16).all okZ = true := by decide +kernel
theorem okz_12 : (List.range' 192 4).all okZ = true := by decide +kernel
theorem pcs_len : pcs.length = 13 := by decide +kernel
theorem okM_all : ∀ y, y < 196 → okM y = true := by
  intro y hy
  rcases Nat.lt_or_ge y 98 with h | h
  · rcases Nat.lt_or_ge y 49 with h | h
    · rcases Nat.lt_or_ge y 24 with h | h
      · rcases Nat.lt_or_ge y 12 with h | h
        · rcases Nat.lt_or_ge y 6 with h | h
          · rcases Nat.lt_or_ge y 3 with h | h
            · rcases Nat.lt_or_ge y 1 with h | h
              · exact (show y = 0 by omega) ▸ okm_0
              · rcases Nat.lt_or_ge y 2 with h | h
                · exact (show y = 1 by omega) ▸ okm_1
                · exact (show y = 2 by omega) ▸ okm_2
            · rcases Nat.lt_or_ge y 4 with h | h
              · exact (show y = 3 by omega) ▸ okm_3
              · rcases Nat.lt_or_ge y 5 with h | h
                · exact (show y = 4 by omega) ▸ okm_4
                · exact (show y = 5 by omega) ▸ okm_5
          · rcases Nat.lt_or_ge y 9 with h | h
            · rcases Nat.lt_or_ge y 7 with h | h
              · exact (show y = 6 by omega) ▸ okm_6
              · rcases Nat.lt_or_ge y 8 with h | h
                · exact (show y = 7 by omega) ▸ okm_7
                · exact (show y = 8 by omega) ▸ okm_8
            · rcases Nat.lt_or_ge y 10 with h | h
              · exact (show y = 9 by omega) ▸ okm_9
              · rcases Nat.lt_or_ge y 11 with h | h
                · exact (show y = 10 by omega) ▸ okm_10
                · exact (show y = 11 by omega) ▸ okm_11
        · rcases Nat.lt_or_ge y 18 with h | h
          · rcases Nat.lt_or_ge y 15 with h | h
            · rcases Nat.lt_or_ge y 13 with h | h
              · exact (show y = 12 by omega) ▸ okm_12
              · rcases Nat.lt_or_ge y 14 with h | h
                · exact (show y = 13 by omega) ▸ okm_13
                · exact (show y = 14 by omega) ▸ okm_14
            · rcases Nat.lt_or_ge y 16 with h | h
              · exact (show y = 15 by omega) ▸ okm_15
              · rcases Nat.lt_or_ge y 17 with h | h
                · exact (show y = 16 by omega) ▸ okm_16
                · exact (show y = 17 by omega) ▸ okm_17
          · rcases Nat.lt_or_ge y 21 with h | h
            · rcases Nat.lt_or_ge y 19 with h | h
              · exact (show y = 18 by omega) ▸ okm_18
              · rcases Nat.lt_or_ge y 20 with h | h
                · exact (show y = 19 by omega) ▸ okm_19
                · exact (show y = 20 by omega) ▸ okm_20
            · rcases Nat.lt_or_ge y 22 with h | h
              · exact (show y = 21 by omega) ▸ okm_21
              · rcases Nat.lt_or_ge y 23 with h | h
                · exact (show y = 22 by omega) ▸ okm_22
                · exact (show y = 23 by omega) ▸ okm_23
      · rcases Nat.lt_or_ge y 36 with h | h
        · rcases Nat.lt_or_ge y 30 with h | h
          · rcases Nat.lt_or_ge y 27 with h | h
            · rcases Nat.lt_or_ge y 25 with h | h
              · exact (show y = 24 by omega) ▸ okm_24
              · rcases Nat.lt_or_ge y 26 with h | h
                · exact (show y = 25 by omega) ▸ okm_25
                · exact (show y = 26 by omega) ▸ okm_26
            · rcases Nat.lt_or_ge y 28 with h | h
              · exact (show y = 27 by omega) ▸ okm_27
              · rcases Nat.lt_or_ge y 29 with h | h
                · exact (show y = 28 by omega) ▸ okm_28
                · exact (show y = 29 by omega) ▸ okm_29
          · rcases Nat.lt_or_ge y 33 with h | h
            · rcases Nat.lt_or_ge y 31 with h | h
              · exact (show y = 30 by omega) ▸ okm_30
              · rcases Nat.lt_or_ge y 32 with h | h
                · exact (show y = 31 by omega) ▸ okm_31
                · exact (show y = 32 by omega) ▸ okm_32
            · rcases Nat.lt_or_ge y 34 with h | h
              · exact (show y = 33 by omega) ▸ okm_33
              · rcases Nat.lt_or_ge y 35 with h | h
                · exact (show y = 34 by omega) ▸ okm_34
                · exact (show y = 35 by omega) ▸ okm_35
        · rcases Nat.lt_or_ge y 42 with h | h
          · rcases Nat.lt_or_ge y 39 with h | h
            · rcases Nat.lt_or_ge y 37 with h | h
              · exact (show y = 36 by omega) ▸ okm_36
              · rcases Nat.lt_or_ge y 38 with h | h
                · exact (show y = 37 by omega) ▸ okm_37
                · exact (show y = 38 by omega) ▸ okm_38
            · rcases Nat.lt_or_ge y 40 with h | h
              · exact (show y = 39 by omega) ▸ okm_39
              · rcases Nat.lt_or_ge y 41 with h | h
                · exact (show y = 40 by omega) ▸ okm_40
                · exact (show y = 41 by omega) ▸ okm_41
          · rcases Nat.lt_or_ge y 45 with h | h
            · rcases Nat.lt_or_ge y 43 with h | h
              · exact (show y = 42 by omega) ▸ okm_42
              · rcases Nat.lt_or_ge y 44 with h | h
                · exact (show y = 43 by omega) ▸ okm_43
                · exact (show y = 44 by omega) ▸ okm_44
            · rcases Nat.lt_or_ge y 47 with h | h
              · rcases Nat.lt_or_ge y 46 with h | h
                · exact (show y = 45 by omega) ▸ okm_45
                · exact (show y = 46 by omega) ▸ okm_46
              · rcases Nat.lt_or_ge y 48 with h | h
                · exact (show y = 47 by omega) ▸ okm_47
                · exact (show y = 48 by omega) ▸ okm_48
    · rcases Nat.lt_or_ge y 73 with h | h
      · rcases Nat.lt_or_ge y 61 with h | h
        · rcases Nat.lt_or_ge y 55 with h | h
          · rcases Nat.lt_or_ge y 52 with h | h
            · rcases Nat.lt_or_ge y 50 with h | h
              · exact (show y = 49 by omega) ▸ okm_49
              · rcases Nat.lt_or_ge y 51 with h | h
                · exact (show y = 50 by omega) ▸ okm_50
                · exact (show y = 51 by omega) ▸ okm_51
            · rcases Nat.lt_or_ge y 53 with h | h
              · exact (show y = 52 by omega) ▸ okm_52
              · rcases Nat.lt_or_ge y 54 with h | h
                · exact (show y = 53 by omega) ▸ okm_53
                · exact (show y = 54 by omega) ▸ okm_54
          · rcases Nat.lt_or_ge y 58 with h | h
            · rcases Nat.lt_or_ge y 56 with h | h
              · exact (show y = 55 by omega) ▸ okm_55
              · rcases Nat.lt_or_ge y 57 with h | h
                · exact (show y = 56 by omega) ▸ okm_56
                · exact (show y = 57 by omega) ▸ okm_57
            · rcases Nat.lt_or_ge y 59 with h | h
              · exact (show y = 58 by omega) ▸ okm_58
              · rcases Nat.lt_or_ge y 60 with h | h
                · exact (show y = 59 by omega) ▸ okm_59
                · exact (show y = 60 by omega) ▸ okm_60
        · rcases Nat.lt_or_ge y 67 with h | h
          · rcases Nat.lt_or_ge y 64 with h | h
            · rcases Nat.lt_or_ge y 62 with h | h
              · exact (show y = 61 by omega) ▸ okm_61
              · rcases Nat.lt_or_ge y 63 with h | h
                · exact (show y = 62 by omega) ▸ okm_62
                · exact (show y = 63 by omega) ▸ okm_63
            · rcases Nat.lt_or_ge y 65 with h | h
              · exact (show y = 64 by omega) ▸ okm_64
              · rcases Nat.lt_or_ge y 66 with h | h
                · exact (show y = 65 by omega) ▸ okm_65
                · exact (show y = 66 by omega) ▸ okm_66
          · rcases Nat.lt_or_ge y 70 with h | h
            · rcases Nat.lt_or_ge y 68 with h | h
              · exact (show y = 67 by omega) ▸ okm_67
              · rcases Nat.lt_or_ge y 69 with h | h
                · exact (show y = 68 by omega) ▸ okm_68
                · exact (show y = 69 by omega) ▸ okm_69
            · rcases Nat.lt_or_ge y 71 with h | h
              · exact (show y = 70 by omega) ▸ okm_70
              · rcases Nat.lt_or_ge y 72 with h | h
                · exact (show y = 71 by omega) ▸ okm_71
                · exact (show y = 72 by omega) ▸ okm_72
      · rcases Nat.lt_or_ge y 85 with h | h
        · rcases Nat.lt_or_ge y 79 with h | h
          · rcases Nat.lt_or_ge y 76 with h | h
            · rcases Nat.lt_or_ge y 74 with h | h
              · exact (show y = 73 by omega) ▸ okm_73
              · rcases Nat.lt_or_ge y 75 with h | h
                · exact (show y = 74 by omega) ▸ okm_74
                · exact (show y = 75 by omega) ▸ okm_75
            · rcases Nat.lt_or_ge y 77 with h | h
              · exact (show y = 76 by omega) ▸ okm_76
              · rcases Nat.lt_or_ge y 78 with h | h
                · exact (show y = 77 by omega) ▸ okm_77
                · exact (show y = 78 by omega) ▸ okm_78
          · rcases Nat.lt_or_ge y 82 with h | h
            · rcases Nat.lt_or_ge y 80 with h | h
              · exact (show y = 79 by omega) ▸ okm_79
              · rcases Nat.lt_or_ge y 81 with h | h
                · exact (show y = 80 by omega) ▸ okm_80
                · exact (show y = 81 by omega) ▸ okm_81
            · rcases Nat.lt_or_ge y 83 with h | h
              · exact (show y = 82 by omega) ▸ okm_82
              · rcases Nat.lt_or_ge y 84 with h | h
                · exact (show y = 83 by omega) ▸ okm_83
                · exact (show y = 84 by omega) ▸ okm_84
        · rcases Nat.lt_or_ge y 91 with h | h
          · rcases Nat.lt_or_ge y 88 with h | h
            · rcases Nat.lt_or_ge y 86 with h | h
              · exact (show y = 85 by omega) ▸ okm_85
              · rcases Nat.lt_or_ge y 87 with h | h
                · exact (show y = 86 by omega) ▸ okm_86
                · exact (show y = 87 by omega) ▸ okm_87
            · rcases Nat.lt_or_ge y 89 with h | h
              · exact (show y = 88 by omega) ▸ okm_88
              · rcases Nat.lt_or_ge y 90 with h | h
                · exact (show y = 89 by omega) ▸ okm_89
                · exact (show y = 90 by omega) ▸ okm_90
          · rcases Nat.lt_or_ge y 94 with h | h
            · rcases Nat.lt_or_ge y 92 with h | h
              · exact (show y = 91 by omega) ▸ okm_91
              · rcases Nat.lt_or_ge y 93 with h | h
                · exact (show y = 92 by omega) ▸ okm_92
                · exact (show y = 93 by omega) ▸ okm_93
            · rcases Nat.lt_or_ge y 96 with h | h
              · rcases Nat.lt_or_ge y 95 with h | h
                · exact (show y = 94 by omega) ▸ okm_94
                · exact (show y = 95 by omega) ▸ okm_95
              · rcases Nat.lt_or_ge y 97 with h | h
                · exact (show y = 96 by omega) ▸ okm_96
                · exact (show y = 97 by omega) ▸ okm_97
  · rcases Nat.lt_or_ge y 147 with h | h
    · rcases Nat.lt_or_ge y 122 with h | h
      · rcases Nat.lt_or_ge y 110 with h | h
        · rcases Nat.lt_or_ge y 104 with h | h
          · rcases Nat.lt_or_ge y 101 with h | h
            · rcases Nat.lt_or_ge y 99 with h | h
              · exact (show y = 98 by omega) ▸ okm_98
              · rcases Nat.lt_or_ge y 100 with h | h
                · exact (show y = 99 by omega) ▸ okm_99
                · exact (show y = 100 by omega) ▸ okm_100
            · rcases Nat.lt_or_ge y 102 with h | h
              · exact (show y = 101 by omega) ▸ okm_101
              · rcases Nat.lt_or_ge y 103 with h | h
                · exact (show y = 102 by omega) ▸ okm_102
                · exact (show y = 103 by omega) ▸ okm_103
          · rcases Nat.lt_or_ge y 107 with h | h
            · rcases Nat.lt_or_ge y 105 with h | h
              · exact (show y = 104 by omega) ▸ okm_104
              · rcases Nat.lt_or_ge y 106 with h | h
                · exact (show y = 105 by omega) ▸ okm_105
                · exact (show y = 106 by omega) ▸ okm_106
            · rcases Nat.lt_or_ge y 108 with h | h
              · exact (show y = 107 by omega) ▸ okm_107
              · rcases Nat.lt_or_ge y 109 with h | h
                · exact (show y = 108 by omega) ▸ okm_108
                · exact (show y = 109 by omega) ▸ okm_109
        · rcases Nat.lt_or_ge y 116 with h | h
          · rcases Nat.lt_or_ge y 113 with h | h
            · rcases Nat.lt_or_ge y 111 with h | h
              · exact (show y = 110 by omega) ▸ okm_110
              · rcases Nat.lt_or_ge y 112 with h | h
                · exact (show y = 111 by omega) ▸ okm_111
                · exact (show y = 112 by omega) ▸ okm_112
            · rcases Nat.lt_or_ge y 114 with h | h
              · exact (show y = 113 by omega) ▸ okm_113
              · rcases Nat.lt_or_ge y 115 with h | h
                · exact (show y = 114 by omega) ▸ okm_114
                · exact (show y = 115 by omega) ▸ okm_115
          · rcases Nat.lt_or_ge y 119 with h | h
            · rcases Nat.lt_or_ge y 117 with h | h
              · exact (show y = 116 by omega) ▸ okm_116
              · rcases Nat.lt_or_ge y 118 with h | h
                · exact (show y = 117 by omega) ▸ okm_117
                · exact (show y = 118 by omega) ▸ okm_118
            · rcases Nat.lt_or_ge y 120 with h | h
              · exact (show y = 119 by omega) ▸ okm_119
              · rcases Nat.lt_or_ge y 121 with h | h
                · exact (show y = 120 by omega) ▸ okm_120
                · exact (show y = 121 by omega) ▸ okm_121
      · rcases Nat.lt_or_ge y 134 with h | h
        · rcases Nat.lt_or_ge y 128 with h | h
          · rcases Nat.lt_or_ge y 125 with h | h
            · rcases Nat.lt_or_ge y 123 with h | h
              · exact (show y = 122 by omega) ▸ okm_122
              · rcases Nat.lt_or_ge y 124 with h | h
                · exact (show y = 123 by omega) ▸ okm_123
                · exact (show y = 124 by omega) ▸ okm_124
            · rcases Nat.lt_or_ge y 126 with h | h
              · exact (show y = 125 by omega) ▸ okm_125
              · rcases Nat.lt_or_ge y 127 with h | h
                · exact (show y = 126 by omega) ▸ okm_126
                · exact (show y = 127 by omega) ▸ okm_127
          · rcases Nat.lt_or_ge y 131 with h | h
            · rcases Nat.lt_or_ge y 129 with h | h
              · exact (show y = 128 by omega) ▸ okm_128
              · rcases Nat.lt_or_ge y 130 with h | h
                · exact (show y = 129 by omega) ▸ okm_129
                · exact (show y = 130 by omega) ▸ okm_130
            · rcases Nat.lt_or_ge y 132 with h | h
              · exact (show y = 131 by omega) ▸ okm_131
              · rcases Nat.lt_or_ge y 133 with h | h
                · exact (show y = 132 by omega) ▸ okm_132
                · exact (show y = 133 by omega) ▸ okm_133
        · rcases Nat.lt_or_ge y 140 with h | h
          · rcases Nat.lt_or_ge y 137 with h | h
            · rcases Nat.lt_or_ge y 135 with h | h
              · exact (show y = 134 by omega) ▸ okm_134
              · rcases Nat.lt_or_ge y 136 with h | h
                · exact (show y = 135 by omega) ▸ okm_135
                · exact (show y = 136 by omega) ▸ okm_136
            · rcases Nat.lt_or_ge y 138 with h | h
              · exact (show y = 137 by omega) ▸ okm_137
              · rcases Nat.lt_or_ge y 139 with h | h
                · exact (show y = 138 by omega) ▸ okm_138
                · exact (show y = 139 by omega) ▸ okm_139
          · rcases Nat.lt_or_ge y 143 with h | h
            · rcases Nat.lt_or_ge y 141 with h | h
              · exact (show y = 140 by omega) ▸ okm_140
              · rcases Nat.lt_or_ge y 142 with h | h
                · exact (show y = 141 by omega) ▸ okm_141
                · exact (show y = 142 by omega) ▸ okm_142
            · rcases Nat.lt_or_ge y 145 with h | h
              · rcases Nat.lt_or_ge y 144 with h | h
                · exact (show y = 143 by omega) ▸ okm_143
                · exact (show y = 144 by omega) ▸ okm_144
              · rcases Nat.lt_or_ge y 146 with h | h
                · exact (show y = 145 by omega) ▸ okm_145
                · exact (show y = 146 by omega) ▸ okm_146
    · rcases Nat.lt_or_ge y 171 with h | h
      · rcases Nat.lt_or_ge y 159 with h | h
        · rcases Nat.lt_or_ge y 153 with h | h
          · rcases Nat.lt_or_ge y 150 with h | h
            · rcases Nat.lt_or_ge y 148 with h | h
              · exact (show y = 147 by omega) ▸ okm_147
              · rcases Nat.lt_or_ge y 149 with h | h
                · exact (show y = 148 by omega) ▸ okm_148
                · exact (show y = 149 by omega) ▸ okm_149
            · rcases Nat.lt_or_ge y 151 with h | h
              · exact (show y = 150 by omega) ▸ okm_150
              · rcases Nat.lt_or_ge y 152 with h | h
                · exact (show y = 151 by omega) ▸ okm_151
                · exact (show y = 152 by omega) ▸ okm_152
          · rcases Nat.lt_or_ge y 156 with h | h
            · rcases Nat.lt_or_ge y 154 with h | h
              · exact (show y = 153 by omega) ▸ okm_153
              · rcases Nat.lt_or_ge y 155 with h | h
                · exact (show y = 154 by omega) ▸ okm_154
                · exact (show y = 155 by omega) ▸ okm_155
            · rcases Nat.lt_or_ge y 157 with h | h
              · exact (show y = 156 by omega) ▸ okm_156
              · rcases Nat.lt_or_ge y 158 with h | h
                · exact (show y = 157 by omega) ▸ okm_157
                · exact (show y = 158 by omega) ▸ okm_158
        · rcases Nat.lt_or_ge y 165 with h | h
          · rcases Nat.lt_or_ge y 162 with h | h
            · rcases Nat.lt_or_ge y 160 with h | h
              · exact (show y = 159 by omega) ▸ okm_159
              · rcases Nat.lt_or_ge y 161 with h | h
                · exact (show y = 160 by omega) ▸ okm_160
                · exact (show y = 161 by omega) ▸ okm_161
            · rcases Nat.lt_or_ge y 163 with h | h
              · exact (show y = 162 by omega) ▸ okm_162
              · rcases Nat.lt_or_ge y 164 with h | h
                · exact (show y = 163 by omega) ▸ okm_163
                · exact (show y = 164 by omega) ▸ okm_164
          · rcases Nat.lt_or_ge y 168 with h | h
            · rcases Nat.lt_or_ge y 166 with h | h
              · exact (show y = 165 by omega) ▸ okm_165
              · rcases Nat.lt_or_ge y 167 with h | h
                · exact (show y = 166 by omega) ▸ okm_166
                · exact (show y = 167 by omega) ▸ okm_167
            · rcases Nat.lt_or_ge y 169 with h | h
              · exact (show y = 168 by omega) ▸ okm_168
              · rcases Nat.lt_or_ge y 170 with h | h
                · exact (show y = 169 by omega) ▸ okm_169
                · exact (show y = 170 by omega) ▸ okm_170
      · rcases Nat.lt_or_ge y 183 with h | h
        · rcases Nat.lt_or_ge y 177 with h | h
          · rcases Nat.lt_or_ge y 174 with h | h
            · rcases Nat.lt_or_ge y 172 with h | h
              · exact (show y = 171 by omega) ▸ okm_171
              · rcases Nat.lt_or_ge y 173 with h | h
                · exact (show y = 172 by omega) ▸ okm_172
                · exact (show y = 173 by omega) ▸ okm_173
            · rcases Nat.lt_or_ge y 175 with h | h
              · exact (show y = 174 by omega) ▸ okm_174
              · rcases Nat.lt_or_ge y 176 with h | h
                · exact (show y = 175 by omega) ▸ okm_175
                · exact (show y = 176 by omega) ▸ okm_176
          · rcases Nat.lt_or_ge y 180 with h | h
            · rcases Nat.lt_or_ge y 178 with h | h
              · exact (show y = 177 by omega) ▸ okm_177
              · rcases Nat.lt_or_ge y 179 with h | h
                · exact (show y = 178 by omega) ▸ okm_178
                · exact (show y = 179 by omega) ▸ okm_179
            · rcases Nat.lt_or_ge y 181 with h | h
              · exact (show y = 180 by omega) ▸ okm_180
              · rcases Nat.lt_or_ge y 182 with h | h
                · exact (show y = 181 by omega) ▸ okm_181
                · exact (show y = 182 by omega) ▸ okm_182
        · rcases Nat.lt_or_ge y 189 with h | h
          · rcases Nat.lt_or_ge y 186 with h | h
            · rcases Nat.lt_or_ge y 184 with h | h
              · exact (show y = 183 by omega) ▸ okm_183
              · rcases Nat.lt_or_ge y 185 with h | h
                · exact (show y = 184 by omega) ▸ okm_184
                · exact (show y = 185 by omega) ▸ okm_185
            · rcases Nat.lt_or_ge y 187 with h | h
              · exact (show y = 186 by omega) ▸ okm_186
              · rcases Nat.lt_or_ge y 188 with h | h
                · exact (show y = 187 by omega) ▸ okm_187
                · exact (show y = 188 by omega) ▸ okm_188
          · rcases Nat.lt_or_ge y 192 with h | h
            · rcases Nat.lt_or_ge y 190 with h | h
              · exact (show y = 189 by omega) ▸ okm_189
              · rcases Nat.lt_or_ge y 191 with h | h
                · exact (show y = 190 by omega) ▸ okm_190
                · exact (show y = 191 by omega) ▸ okm_191
            · rcases Nat.lt_or_ge y 194 with h | h
              · rcases Nat.lt_or_ge y 193 with h | h
                · exact (show y = 192 by omega) ▸ okm_192
                · exact (show y = 193 by omega) ▸ okm_193
              · rcases Nat.lt_or_ge y 195 with h | h
                · exact (show y = 194 by omega) ▸ okm_194
                · exact (show y = 195 by omega) ▸ okm_195
theorem okL_all : ∀ i, i < 896 → okMi 196 i = true := by
  intro i hi
  rcases Nat.lt_or_ge i 448 with h | h
  · rcases Nat.lt_or_ge i 192 with h | h
    · rcases Nat.lt_or_ge i 64 with h | h
      · exact List.all_eq_true.mp okl_0 i (by rw [List.mem_range'_1]; omega)
      · rcases Nat.lt_or_ge i 128 with h | h
        · exact List.all_eq_true.mp okl_1 i (by rw [List.mem_range'_1]; omega)
        · exact List.all_eq_true.mp okl_2 i (by rw [List.mem_range'_1]; omega)
    · rcases Nat.lt_or_ge i 320 with h | h
      · rcases Nat.lt_or_ge i 256 with h | h
        · exact List.all_eq_true.mp okl_3 i (by rw [List.mem_range'_1]; omega)
        · exact List.all_eq_true.mp okl_4 i (by rw [List.mem_range'_1]; omega)
      · rcases Nat.lt_or_ge i 384 with h | h
        · exact List.all_eq_true.mp okl_5 i (by rw [List.mem_range'_1]; omega)
        · exact List.all_eq_true.mp okl_6 i (by rw [List.mem_range'_1]; omega)
  · rcases Nat.lt_or_ge i 640 with h | h
    · rcases Nat.lt_or_ge i 512 with h | h
      · exact List.all_eq_true.mp okl_7 i (by rw [List.mem_range'_1]; omega)
      · rcases Nat.lt_or_ge i 576 with h | h
        · exact List.all_eq_true.mp okl_8 i (by rw [List.mem_range'_1]; omega)
        · exact List.all_eq_true.mp okl_9 i (by rw [List.mem_range'_1]; omega)
    · rcases Nat.lt_or_ge i 768 with h | h
      · rcases Nat.lt_or_ge i 704 with h | h
        · exact List.all_eq_true.mp okl_10 i (by rw [List.mem_range'_1]; omega)
        · exact List.all_eq_true.mp okl_11 i (by rw [List.mem_range'_1]; omega)
      · rcases Nat.lt_or_ge i 832 with h | h
        · exact List.all_eq_true.mp okl_12 i (by rw [List.mem_range'_1]; omega)
        · exact List.all_eq_true.mp okl_13 i (by rw [List.mem_range'_1]; omega)
theorem okZ_all : ∀ z, z < 196 → okZ z = true := by
  intro i hi
  rcases Nat.lt_or_ge i 96 with h | h
  · rcases Nat.lt_or_ge i 48 with h | h
    · rcases Nat.lt_or_ge i 16 with h | h
      · exact List.all_eq_true.mp okz_0 i (by rw [List.mem_range'_1]; omega)
      · rcases Nat.lt_or_ge i 32 with h | h
        · exact List.all_eq_true.mp okz_1 i (by rw [List.mem_range'_1]; omega)
        · exact List.all_eq_true.mp okz_2 i (by rw [List.mem_range'_1]; omega)
    · rcases Nat.lt_or_ge i 64 with h | h
      · exact List.all_eq_true.mp okz_3 i (by rw [List.mem_range'_1]; omega)
      · rcases Nat.lt_or_ge i 80 with h | h
        · exact List.all_eq_true.mp okz_4 i (by rw [List.mem_range'_1]; omega)
        · exact List.all_eq_true.mp okz_5 i (by rw [List.mem_range'_1]; omega)
  · rcases Nat.lt_or_ge i 144 with h | h
    · rcases Nat.lt_or_ge i 112 with h | h
      · exact List.all_eq_true.mp okz_6 i (by rw [List.mem_range'_1]; omega)
      · rcases Nat.lt_or_ge i 128 with h | h
        · exact List.all_eq_true.mp okz_7 i (by rw [List.mem_range'_1]; omega)
        · exact List.all_eq_true.mp okz_8 i (by rw [List.mem_range'_1]; omega)
    · rcases Nat.lt_or_ge i 176 with h | h
      · rcases Nat.lt_or_ge i 160 with h | h
        · exact List.all_eq_true.mp okz_9 i (by rw [List.mem_range'_1]; omega)
        · exact List.all_eq_true.mp okz_10 i (by rw [List.mem_range'_1]; omega)
      · rcases Nat.lt_or_ge i 192 with h | h
        · exact List.all_eq_true.mp okz_11 i (by rw [List.mem_range'_1]; omega)
        · exact List.all_eq_true.mp okz_12 i (by rw [List.mem_range'_1]; omega)
theorem pg_far {y : Nat} (h : 197 ≤ y) : PG.1 y = [] := by
  show mNth [] (mNth [] pcs (y / 16)) (y % 16) = []
  rcases Nat.lt_or_ge y 208 with h2 | h2
  · have h3 : y / 16 = 12 := by omega
    rw [h3]
    have h4 : (mNth [] pcs 12).length = 5 := by decide +kernel
    exact mNth_far _ _ _ (by rw [h4]; omega)
  · rw [mNth_far [] pcs (y / 16) (by rw [pcs_len]; omega)]
    exact mNth_far _ _ _ (by simp)
theorem mFe_far {y i : Nat} (h : (PG.1 y).length ≤ i / 32) : mFe PG y i = (99, 0, 0, 0, 0, 0, 0, [], []) := by
  show mNth _ (mNth [] (PG.1 y) (i / 32)) (i % 32) = _
  rw [mNth_far [] (PG.1 y) (i / 32) h]
  exact mNth_far _ _ _ (by simp)
theorem pg_law : (PG.1 196).length = 27 := by decide +kernel
theorem okAll (y i : Nat) : okMi y i = true := by
  by_cases hf : (PG.1 y).length ≤ i / 32
  · unfold okMi
    rw [mFe_far hf]
    rfl
  · rcases Nat.lt_or_ge y 196 with h | h
    · exact List.all_eq_true.mp (okM_all y h) i (by rw [List.mem_range]; omega)
    · rcases Nat.lt_or_ge y 197 with h2 | h2
      · have e : y = 196 := by omega
        subst e
        rw [pg_law] at hf
        exact okL_all i (by omega)
      · rw [pg_far h2] at hf
        exact absurd (Nat.zero_le _) hf
end
section
/-! names of the cuts: by wip/whole/sym.py -/
noncomputable def rI (v : Int32) (M : mMI) (J : mMJ) : Option mRs := some (some (.int v), SH, M, J, 0, 0)
noncomputable def rJ (v : Int64) (M : mMI) (J : mMJ) : Option mRs := some (some (.long v), SH, M, J, 0, 0)
noncomputable def rV (M : mMI) (J : mMJ) : Option mRs := some (none, SH, M, J, 0, 0)
noncomputable def rR (a : Nat) (M : mMI) (J : mMJ) : Option mRs := some (some (.ref a), SH, M, J, 0, 0)
noncomputable def rB (v : Int32) (M : mMI) (J : mMJ) : Option mRs := if v = 0 then some (some (.int 0), SH, M, J, 0, 0) else none
noncomputable def rZ (v : Int32) (M : mMI) (J : mMJ) : Option mRs := mZ v (SH, M, J, 0, 0)
noncomputable def k_Book_toldBy (x1 : Int32) (x2 : Int32) (x3 : Int32) (M : mMI) (J : mMJ) : Option mRs := mOut PG (1, 0, [some (.ref 35), some (.int x1), some (.int x2), some (.int x3), none, none, none], [], SH, M, J, 0, 0)
noncomputable def k_Book_countSlips (x1 : Int32) (x2 : Int32) (M : mMI) (J : mMJ) : Option mRs := mOut PG (2, 0, [some (.ref 35), some (.int x1), some (.int x2), none, none, none, none], [], SH, M, J, 0, 0)
noncomputable def k_Book_countSlips_4 (x1 : Int32) (x2 : Int32) (x3 : Int32) (x4 : Int32) (M : mMI) (J : mMJ) : Option mRs := mOut PG (2, 4, [some (.ref 35), some (.int x1), some (.int x2), some (.int x3), some (.int x4), none, none], [], SH, M, J, 0, 0)
noncomputable def k_Book_bestSort (x1 : Int32) (M : mMI) (J : mMJ) : Option mRs := mOut PG (3, 0, [some (.ref 35), some (.int x1), none, none, none, none], [], SH, M, J, 0, 0)
noncomputable def k_Book_bestSort_9 (x1 : Int32) (x2 : Int32) (x3 : Int32) (x4 : Int32) (M : mMI) (J : mMJ) : Option mRs := mOut PG (3, 9, [some (.ref 35), some (.int x1), some (.int x2), some (.int x3), some (.int x4), none], [], SH, M, J, 0, 0)
noncomputable def k_Book_countSorts (x1 : Int32) (x2 : Int32) (M : mMI) (J : mMJ) : Option mRs := mOut PG (4, 0, [some (.ref 35), some (.int x1), some (.int x2), none, none], [], SH, M, J, 0, 0)
noncomputable def k_Book_countSorts_4 (x1 : Int32) (x2 : Int32) (x3 : Int32) (x4 : Int32) (M : mMI) (J : mMJ) : Option mRs := mOut PG (4, 4, [some (.ref 35), some (.int x1), some (.int x2), some (.int x3), some (.int x4)], [], SH, M, J, 0, 0)
noncomputable def k_Book_sortNumbered (x0 : Int32) (M : mMI) (J : mMJ) : Option mRs := mOut PG (5, 0, [some (.int x0)], [], SH, M, J, 0, 0)
noncomputable def k_Book_meanOfOthers (x1 : Int32) (x2 : Int32) (M : mMI) (J : mMJ) : Option mRs := mOut PG (6, 0, [some (.ref 35), some (.int x1), some (.int x2), none, none, none, none], [], SH, M, J, 0, 0)
noncomputable def k_Book_meanOfOthers_6 (x1 : Int32) (x2 : Int32) (x3 : Int32) (x4 : Int32) (x5 : Int32) (M : mMI) (J : mMJ) : Option mRs := mOut PG (6, 6, [some (.ref 35), some (.int x1), some (.int x2), some (.int x3), some (.int x4), some (.int x5), none], [], SH, M, J, 0, 0)
noncomputable def k_Course_runAll (s : Nat)  (M : mMI) (J : mMJ) : Option mRs := mOut PG (8, 0, [some (.ref (s + 7)), none], [], SH, M, J, 0, 0)
noncomputable def k_Course_runAll_2 (s : Nat) (x1 : Int32) (M : mMI) (J : mMJ) : Option mRs := mOut PG (8, 2, [some (.ref (s + 7)), some (.int x1)], [], SH, M, J, 0, 0)
noncomputable def k_Course_heldByAll (s : Nat) (x1 : Int32) (M : mMI) (J : mMJ) : Option mRs := mOut PG (9, 0, [some (.ref (s + 7)), some (.int x1), none, none, none], [], SH, M, J, 0, 0)
noncomputable def k_Course_heldByAll_4 (s : Nat) (x1 : Int32) (x2 : Int64) (x4 : Int32) (M : mMI) (J : mMJ) : Option mRs := mOut PG (9, 4, [some (.ref (s + 7)), some (.int x1), some (.long x2), none, some (.int x4)], [], SH, M, J, 0, 0)
noncomputable def k_Course_gotBy (s : Nat) (x1 : Int32) (x2 : Int32) (x3 : Int32) (M : mMI) (J : mMJ) : Option mRs := mOut PG (10, 0, [some (.ref (s + 7)), some (.int x1), some (.int x2), some (.int x3), none, none, none], [], SH, M, J, 0, 0)
noncomputable def k_Course_gotBy_9 (s : Nat) (x1 : Int32) (x2 : Int32) (x4 : Int64) (x6 : Int32) (M : mMI) (J : mMJ) : Option mRs := mOut PG (10, 9, [some (.ref (s + 7)), some (.int x1), some (.int x2), none, some (.long x4), none, some (.int x6)], [], SH, M, J, 0, 0)
noncomputable def k_Course_bestPut (s : Nat) (x1 : Int32) (x2 : Int32) (M : mMI) (J : mMJ) : Option mRs := mOut PG (11, 0, [some (.ref (s + 7)), some (.int x1), some (.int x2), none, none, none, none, none, none], [], SH, M, J, 0, 0)
noncomputable def k_Course_bestPut_10 (s : Nat) (x1 : Int32) (x2 : Int32) (x3 : Int32) (x4 : Int64) (x6 : Int32) (M : mMI) (J : mMJ) : Option mRs := mOut PG (11, 10, [some (.ref (s + 7)), some (.int x1), some (.int x2), some (.int x3), some (.long x4), none, some (.int x6), none, none], [], SH, M, J, 0, 0)
noncomputable def k_Course_isAtRest (s : Nat) (x1 : Int32) (M : mMI) (J : mMJ) : Option mRs := mOut PG (12, 0, [some (.ref (s + 7)), some (.int x1), none, none, none], [], SH, M, J, 0, 0)
noncomputable def k_Course_isAtRest_2 (s : Nat) (x1 : Int32) (x2 : Int32) (M : mMI) (J : mMJ) : Option mRs := mOut PG (12, 2, [some (.ref (s + 7)), some (.int x1), some (.int x2), none, none], [], SH, M, J, 0, 0)
noncomputable def k_Course_putAll (s : Nat) (x1 : Int32) (M : mMI) (J : mMJ) : Option mRs := mOut PG (13, 0, [some (.ref (s + 7)), some (.int x1), none, none, none, none], [], SH, M, J, 0, 0)
noncomputable def k_Course_putAll_2 (s : Nat) (x1 : Int32) (x2 : Int32) (M : mMI) (J : mMJ) : Option mRs := mOut PG (13, 2, [some (.ref (s + 7)), some (.int x1), some (.int x2), none, none, none], [], SH, M, J, 0, 0)
noncomputable def k_Course_usualPut (s : Nat) (x1 : Int32) (x2 : Int32) (M : mMI) (J : mMJ) : Option mRs := mOut PG (14, 0, [some (.ref (s + 7)), some (.int x1), some (.int x2), none, none, none], [], SH, M, J, 0, 0)
noncomputable def k_Course_meanOfOthersBefore (s : Nat) (x1 : Int32) (x2 : Int32) (M : mMI) (J : mMJ) : Option mRs := mOut PG (15, 0, [some (.ref (s + 7)), some (.int x1), some (.int x2), none, none, none], [], SH, M, J, 0, 0)
noncomputable def k_Course_meanOfOthersBefore_6 (s : Nat) (x1 : Int32) (x2 : Int32) (x3 : Int32) (x4 : Int32) (x5 : Int32) (M : mMI) (J : mMJ) : Option mRs := mOut PG (15, 6, [some (.ref (s + 7)), some (.int x1), some (.int x2), some (.int x3), some (.int x4), some (.int x5)], [], SH, M, J, 0, 0)
noncomputable def k_Course_paidToFine (s : Nat) (x1 : Int32) (x2 : Int32) (M : mMI) (J : mMJ) : Option mRs := mOut PG (16, 0, [some (.ref (s + 7)), some (.int x1), some (.int x2), none, none], [], SH, M, J, 0, 0)
noncomputable def k_Course_paidToFine_4 (s : Nat) (x1 : Int32) (x2 : Int32) (x3 : Int32) (x4 : Int32) (M : mMI) (J : mMJ) : Option mRs := mOut PG (16, 4, [some (.ref (s + 7)), some (.int x1), some (.int x2), some (.int x3), some (.int x4)], [], SH, M, J, 0, 0)
noncomputable def k_Course_paidBy (s : Nat) (x1 : Int32) (x2 : Int32) (M : mMI) (J : mMJ) : Option mRs := mOut PG (17, 0, [some (.ref (s + 7)), some (.int x1), some (.int x2), none, none], [], SH, M, J, 0, 0)
noncomputable def k_Course_paidBy_4 (s : Nat) (x1 : Int32) (x2 : Int32) (x3 : Int32) (x4 : Int32) (M : mMI) (J : mMJ) : Option mRs := mOut PG (17, 4, [some (.ref (s + 7)), some (.int x1), some (.int x2), some (.int x3), some (.int x4)], [], SH, M, J, 0, 0)
noncomputable def k_Course_lookAt (s : Nat) (x1 : Int32) (x2 : Int32) (x3 : Int32) (M : mMI) (J : mMJ) : Option mRs := mOut PG (18, 0, [some (.ref (s + 7)), some (.int x1), some (.int x2), some (.int x3), none], [], SH, M, J, 0, 0)
noncomputable def k_Course_lookAt_8 (s : Nat) (x1 : Int32) (x2 : Int32) (x3 : Int32) (x4 : Int32) (M : mMI) (J : mMJ) : Option mRs := mOut PG (18, 8, [some (.ref (s + 7)), some (.int x1), some (.int x2), some (.int x3), some (.int x4)], [], SH, M, J, 0, 0)
noncomputable def k_Course_payAll (s : Nat) (x1 : Int32) (M : mMI) (J : mMJ) : Option mRs := mOut PG (19, 0, [some (.ref (s + 7)), some (.int x1), none, none], [], SH, M, J, 0, 0)
noncomputable def k_Course_payAll_2 (s : Nat) (x1 : Int32) (x2 : Int32) (M : mMI) (J : mMJ) : Option mRs := mOut PG (19, 2, [some (.ref (s + 7)), some (.int x1), some (.int x2), none], [], SH, M, J, 0, 0)
noncomputable def k_Course_payAll_9 (s : Nat) (x1 : Int32) (x2 : Int32) (x3 : Int32) (M : mMI) (J : mMJ) : Option mRs := mOut PG (19, 9, [some (.ref (s + 7)), some (.int x1), some (.int x2), some (.int x3)], [], SH, M, J, 0, 0)
noncomputable def k_Course_settleAll (s : Nat) (x1 : Int32) (M : mMI) (J : mMJ) : Option mRs := mOut PG (20, 0, [some (.ref (s + 7)), some (.int x1), none, none, none, none, none], [], SH, M, J, 0, 0)
noncomputable def k_Course_settleAll_2 (s : Nat) (x1 : Int32) (x2 : Int32) (M : mMI) (J : mMJ) : Option mRs := mOut PG (20, 2, [some (.ref (s + 7)), some (.int x1), some (.int x2), none, none, none, none], [], SH, M, J, 0, 0)
noncomputable def k_Course_settleAll_57 (s : Nat) (x1 : Int32) (x2 : Int32) (x3 : Int32) (x6 : Int32) (y1 : Int32) (y2 : Int64) (y3 : Int64) (M : mMI) (J : mMJ) : Option mRs := mOut PG (20, 57, [some (.ref (s + 7)), some (.int x1), some (.int x2), some (.int x3), none, none, some (.int x6)], [(.long y3), (.long y2), (.int y1), (.ref (s + 11))], SH, M, J, 0, 0)
noncomputable def k_Course_settleAll_75 (s : Nat) (x1 : Int32) (x2 : Int32) (y1 : Int32) (y2 : Int32) (y3 : Int32) (M : mMI) (J : mMJ) : Option mRs := mOut PG (20, 75, [some (.ref (s + 7)), some (.int x1), some (.int x2), none, none, none, none], [(.int y3), (.int y2), (.int y1), (.ref (s + 10))], SH, M, J, 0, 0)
noncomputable def k_Course_lossBetween (s : Nat) (x1 : Int32) (x2 : Int32) (M : mMI) (J : mMJ) : Option mRs := mOut PG (21, 0, [some (.ref (s + 7)), some (.int x1), some (.int x2)], [], SH, M, J, 0, 0)
noncomputable def k_Course_gotFromPot (s : Nat) (x1 : Int32) (M : mMI) (J : mMJ) : Option mRs := mOut PG (22, 0, [some (.ref (s + 7)), some (.int x1), none, none], [], SH, M, J, 0, 0)
noncomputable def k_Course_dueFrom (s : Nat) (x1 : Int32) (x2 : Int32) (x3 : Int32) (M : mMI) (J : mMJ) : Option mRs := mOut PG (23, 0, [some (.ref (s + 7)), some (.int x1), some (.int x2), some (.int x3), none], [], SH, M, J, 0, 0)
noncomputable def k_Course_dueFrom_21 (s : Nat)  (M : mMI) (J : mMJ) : Option mRs := mOut PG (23, 21, [none, none, none, none, none], [], SH, M, J, 0, 0)
noncomputable def k_Course_dueFrom_71 (s : Nat) (x1 : Int32) (x2 : Int32) (y0 : Int32) (M : mMI) (J : mMJ) : Option mRs := mOut PG (23, 71, [some (.ref (s + 7)), some (.int x1), some (.int x2), none, none], [(.int y0)], SH, M, J, 0, 0)
noncomputable def k_Course_dueFrom_57 (s : Nat) (y0 : Int32) (M : mMI) (J : mMJ) : Option mRs := mOut PG (23, 57, [none, none, none, none, none], [(.int y0)], SH, M, J, 0, 0)
noncomputable def k_Course_byAnger (s : Nat) (x1 : Int32) (x2 : Int32) (M : mMI) (J : mMJ) : Option mRs := mOut PG (24, 0, [some (.ref (s + 7)), some (.int x1), some (.int x2)], [], SH, M, J, 0, 0)
noncomputable def k_Course_greatestBeside (s : Nat) (x1 : Int32) (M : mMI) (J : mMJ) : Option mRs := mOut PG (25, 0, [some (.ref (s + 7)), some (.int x1), none, none], [], SH, M, J, 0, 0)
noncomputable def k_Course_greatestBeside_4 (s : Nat) (x1 : Int32) (x2 : Int32) (x3 : Int32) (M : mMI) (J : mMJ) : Option mRs := mOut PG (25, 4, [some (.ref (s + 7)), some (.int x1), some (.int x2), some (.int x3)], [], SH, M, J, 0, 0)
noncomputable def k_Kept_fillFrom (k : Nat)  (M : mMI) (J : mMJ) : Option mRs := mOut PG (28, 0, [some (.ref k), some (.ref 7), some (.ref 35)], [], SH, M, J, 0, 0)
noncomputable def k_Kept_giveBack (k : Nat)  (M : mMI) (J : mMJ) : Option mRs := mOut PG (29, 0, [some (.ref k), some (.ref 7), some (.ref 35)], [], SH, M, J, 0, 0)
noncomputable def k_Setup_takeRuleText  (M : mMI) (J : mMJ) : Option mRs := mOut PG (31, 0, [some (.ref 7), some (.ref 1), none], [], SH, M, J, 0, 0)
noncomputable def k_Setup_takeRuleText_9 (x2 : Int32) (M : mMI) (J : mMJ) : Option mRs := mOut PG (31, 9, [some (.ref 7), some (.ref 1), some (.int x2)], [], SH, M, J, 0, 0)
noncomputable def k_Setup_takeGroupText  (M : mMI) (J : mMJ) : Option mRs := mOut PG (32, 0, [some (.ref 7), some (.ref 1), none, none, none], [], SH, M, J, 0, 0)
noncomputable def k_Setup_takeGroupText_6 (x2 : Int32) (M : mMI) (J : mMJ) : Option mRs := mOut PG (32, 6, [some (.ref 7), some (.ref 1), some (.int x2), none, none], [], SH, M, J, 0, 0)
noncomputable def k_Setup_canBeAngry (x0 : Int32) (M : mMI) (J : mMJ) : Option mRs := mOut PG (33, 0, [some (.int x0)], [], SH, M, J, 0, 0)
noncomputable def k_Setup_untell (s : Nat)  (M : mMI) (J : mMJ) : Option mRs := mOut PG (34, 0, [some (.ref s)], [], SH, M, J, 0, 0)
noncomputable def k_Setup_takeFrom  (M : mMI) (J : mMJ) : Option mRs := mOut PG (35, 0, [some (.ref 21), some (.ref 7)], [], SH, M, J, 0, 0)
noncomputable def k_Setup_takeSome (x2 : Int32) (M : mMI) (J : mMJ) : Option mRs := mOut PG (36, 0, [some (.ref 21), some (.ref 7), some (.int x2), none], [], SH, M, J, 0, 0)
noncomputable def k_Setup_takeSome_15 (x2 : Int32) (x3 : Int32) (M : mMI) (J : mMJ) : Option mRs := mOut PG (36, 15, [some (.ref 21), some (.ref 7), some (.int x2), some (.int x3)], [], SH, M, J, 0, 0)
noncomputable def k_Setup_isIn (s : Nat) (x1 : Int32) (x2 : Int32) (M : mMI) (J : mMJ) : Option mRs := mOut PG (37, 0, [some (.ref s), some (.int x1), some (.int x2)], [], SH, M, J, 0, 0)
noncomputable def k_Setup_countIn (s : Nat) (x1 : Int32) (M : mMI) (J : mMJ) : Option mRs := mOut PG (38, 0, [some (.ref s), some (.int x1), none, none], [], SH, M, J, 0, 0)
noncomputable def k_Setup_countIn_4 (s : Nat) (x1 : Int32) (x2 : Int32) (x3 : Int32) (M : mMI) (J : mMJ) : Option mRs := mOut PG (38, 4, [some (.ref s), some (.int x1), some (.int x2), some (.int x3)], [], SH, M, J, 0, 0)
noncomputable def k_Setup_canSpare (s : Nat) (x1 : Int32) (M : mMI) (J : mMJ) : Option mRs := mOut PG (39, 0, [some (.ref s), some (.int x1), none], [], SH, M, J, 0, 0)
noncomputable def k_Text_append (x1 : Int32) (M : mMI) (J : mMJ) : Option mRs := mOut PG (41, 0, [some (.ref 1), some (.int x1)], [], SH, M, J, 0, 0)
noncomputable def k_Text_scan (g : Nat)  (M : mMI) (J : mMJ) : Option mRs := mOut PG (42, 0, [some (.ref 1), some (.ref g), none, none, none, none], [], SH, M, J, 0, 0)
noncomputable def k_Text_scan_7 (g : Nat) (x2 : Int32) (x3 : Int32) (M : mMI) (J : mMJ) : Option mRs := mOut PG (42, 7, [some (.ref 1), some (.ref g), some (.int x2), some (.int x3), none, none], [], SH, M, J, 0, 0)
noncomputable def k_Text_scan_74 (g : Nat)  (M : mMI) (J : mMJ) : Option mRs := mOut PG (42, 74, [some (.ref 1), some (.ref g), none, none, none, none], [], SH, M, J, 0, 0)
noncomputable def k_Text_scan_37 (g : Nat) (x2 : Int32) (M : mMI) (J : mMJ) : Option mRs := mOut PG (42, 37, [none, none, some (.int x2), none, none, none], [], SH, M, J, 0, 0)
noncomputable def k_Text_scan_39 (g : Nat) (x2 : Int32) (x3 : Int32) (x4 : Int32) (M : mMI) (J : mMJ) : Option mRs := mOut PG (42, 39, [some (.ref 1), some (.ref g), some (.int x2), some (.int x3), some (.int x4), none], [], SH, M, J, 0, 0)
noncomputable def k_Text_scan_83 (g : Nat) (y0 : Int32) (M : mMI) (J : mMJ) : Option mRs := mOut PG (42, 83, [none, none, none, none, none, none], [(.int y0)], SH, M, J, 0, 0)
noncomputable def k_Text_wasFound (x1 : Int32) (M : mMI) (J : mMJ) : Option mRs := mOut PG (43, 0, [some (.ref 1), some (.int x1), none], [], SH, M, J, 0, 0)
noncomputable def k_Text_wasFound_2 (x1 : Int32) (x2 : Int32) (M : mMI) (J : mMJ) : Option mRs := mOut PG (43, 2, [some (.ref 1), some (.int x1), some (.int x2)], [], SH, M, J, 0, 0)
noncomputable def k_Text_scanNumber (g : Nat) (x2 : Int32) (x3 : Int32) (x4 : Int32) (M : mMI) (J : mMJ) : Option mRs := mOut PG (44, 0, [some (.ref 1), some (.ref g), some (.int x2), some (.int x3), some (.int x4), none, none, none, none, none, none], [], SH, M, J, 0, 0)
noncomputable def k_Text_scanNumber_9 (g : Nat) (x2 : Int32) (x3 : Int32) (x4 : Int32) (x5 : Int32) (x6 : Int32) (x7 : Int32) (M : mMI) (J : mMJ) : Option mRs := mOut PG (44, 9, [some (.ref 1), some (.ref g), some (.int x2), some (.int x3), some (.int x4), some (.int x5), some (.int x6), some (.int x7), none, none, none], [], SH, M, J, 0, 0)
noncomputable def k_Text_scanNumber_35 (g : Nat) (x8 : Int32) (M : mMI) (J : mMJ) : Option mRs := mOut PG (44, 35, [none, none, none, none, none, none, none, none, some (.int x8), none, none], [], SH, M, J, 0, 0)
noncomputable def k_Text_scanNumber_51 (g : Nat) (x2 : Int32) (x3 : Int32) (x4 : Int32) (x5 : Int32) (x6 : Int32) (x7 : Int32) (x8 : Int32) (y0 : Int32) (M : mMI) (J : mMJ) : Option mRs := mOut PG (44, 51, [some (.ref 1), some (.ref g), some (.int x2), some (.int x3), some (.int x4), some (.int x5), some (.int x6), some (.int x7), some (.int x8), none, none], [(.int y0)], SH, M, J, 0, 0)
noncomputable def k_Text_scanNumber_72 (g : Nat) (x8 : Int32) (M : mMI) (J : mMJ) : Option mRs := mOut PG (44, 72, [none, none, none, none, none, none, none, none, some (.int x8), none, none], [], SH, M, J, 0, 0)
noncomputable def k_Pot_write (x1 : Int32) (x2 : Int64) (M : mMI) (J : mMJ) : Option mRs := mOut PG (46, 0, [some (.ref 0), some (.int x1), some (.long x2), none, none], [], SH, M, J, 0, 0)
noncomputable def k_Pot_write_21 (x2 : Int64) (x4 : Int32) (M : mMI) (J : mMJ) : Option mRs := mOut PG (46, 21, [some (.ref 0), none, some (.long x2), none, some (.int x4)], [], SH, M, J, 0, 0)
noncomputable def k_Pot_wipe  (M : mMI) (J : mMJ) : Option mRs := mOut PG (47, 0, [some (.ref 0), none], [], SH, M, J, 0, 0)
noncomputable def k_Pot_fault (x1 : Int32) (M : mMI) (J : mMJ) : Option mRs := mOut PG (48, 0, [some (.ref 0), some (.int x1)], [], SH, M, J, 0, 0)
noncomputable def k_Pot_rule  (M : mMI) (J : mMJ) : Option mRs := mOut PG (49, 0, [some (.ref 0)], [], SH, M, J, 0, 0)
noncomputable def k_Pot_group  (M : mMI) (J : mMJ) : Option mRs := mOut PG (50, 0, [some (.ref 0), none], [], SH, M, J, 0, 0)
noncomputable def k_Pot_group_19 (x1 : Int32) (M : mMI) (J : mMJ) : Option mRs := mOut PG (50, 19, [some (.ref 0), some (.int x1)], [], SH, M, J, 0, 0)
noncomputable def k_Pot_ruled (x1 : Int32) (M : mMI) (J : mMJ) : Option mRs := mOut PG (51, 0, [some (.ref 0), some (.int x1)], [], SH, M, J, 0, 0)
noncomputable def k_Pot_person (x1 : Int32) (x2 : Int32) (M : mMI) (J : mMJ) : Option mRs := mOut PG (52, 0, [some (.ref 0), some (.int x1), some (.int x2)], [], SH, M, J, 0, 0)
noncomputable def k_Pot_tell (x1 : Int32) (x2 : Int32) (x3 : Int32) (M : mMI) (J : mMJ) : Option mRs := mOut PG (53, 0, [some (.ref 0), some (.int x1), some (.int x2), some (.int x3), none, none], [], SH, M, J, 0, 0)
noncomputable def k_Pot_send (x1 : Int32) (x2 : Int32) (M : mMI) (J : mMJ) : Option mRs := mOut PG (54, 0, [some (.ref 0), some (.int x1), some (.int x2), none], [], SH, M, J, 0, 0)
noncomputable def k_Pot_fine (x1 : Int32) (M : mMI) (J : mMJ) : Option mRs := mOut PG (55, 0, [some (.ref 0), some (.int x1), none], [], SH, M, J, 0, 0)
noncomputable def k_Pot_put (x1 : Int32) (x2 : Int32) (M : mMI) (J : mMJ) : Option mRs := mOut PG (56, 0, [some (.ref 0), some (.int x1), some (.int x2)], [], SH, M, J, 0, 0)
noncomputable def k_Pot_paid (x1 : Int32) (x2 : Int32) (x3 : Int32) (M : mMI) (J : mMJ) : Option mRs := mOut PG (57, 0, [some (.ref 0), some (.int x1), some (.int x2), some (.int x3)], [], SH, M, J, 0, 0)
noncomputable def k_Pot_pot (x1 : Int32) (M : mMI) (J : mMJ) : Option mRs := mOut PG (58, 0, [some (.ref 0), some (.int x1)], [], SH, M, J, 0, 0)
noncomputable def k_Pot_here (x1 : Int32) (M : mMI) (J : mMJ) : Option mRs := mOut PG (59, 0, [some (.ref 0), some (.int x1)], [], SH, M, J, 0, 0)
noncomputable def k_Pot_holds (x1 : Int32) (x2 : Int32) (M : mMI) (J : mMJ) : Option mRs := mOut PG (60, 0, [some (.ref 0), some (.int x1), some (.int x2)], [], SH, M, J, 0, 0)
noncomputable def k_Pot_all (x1 : Int32) (x2 : Int32) (M : mMI) (J : mMJ) : Option mRs := mOut PG (61, 0, [some (.ref 0), some (.int x1), some (.int x2), none], [], SH, M, J, 0, 0)
noncomputable def k_Pot_lost (x1 : Int32) (x2 : Int32) (M : mMI) (J : mMJ) : Option mRs := mOut PG (62, 0, [some (.ref 0), some (.int x1), some (.int x2)], [], SH, M, J, 0, 0)
noncomputable def k_Pot_fall  (M : mMI) (J : mMJ) : Option mRs := mOut PG (63, 0, [some (.ref 0), none, none], [], SH, M, J, 0, 0)
noncomputable def k_Pot_fall_12 (x2 : Int32) (M : mMI) (J : mMJ) : Option mRs := mOut PG (63, 12, [none, some (.ref 14), some (.int x2)], [], SH, M, J, 0, 0)
noncomputable def k_Pot_pays  (M : mMI) (J : mMJ) : Option mRs := mOut PG (64, 0, [some (.ref 0), none, none, none, none], [], SH, M, J, 0, 0)
noncomputable def k_Pot_pays_11 (x3 : Int32) (x4 : Int32) (M : mMI) (J : mMJ) : Option mRs := mOut PG (64, 11, [none, some (.ref 14), some (.ref 28), some (.int x3), some (.int x4)], [], SH, M, J, 0, 0)
noncomputable def k_Pot_vote (x1 : Int32) (M : mMI) (J : mMJ) : Option mRs := mOut PG (65, 0, [some (.ref 0), some (.int x1), none, none, none, none, none], [], SH, M, J, 0, 0)
noncomputable def k_Pot_vote_16 (x1 : Int32) (x4 : Int32) (x5 : Int32) (M : mMI) (J : mMJ) : Option mRs := mOut PG (65, 16, [some (.ref 0), some (.int x1), some (.ref 14), some (.ref 28), some (.int x4), some (.int x5), none], [], SH, M, J, 0, 0)
noncomputable def k_Pot_least (x1 : Int32) (x2 : Int32) (M : mMI) (J : mMJ) : Option mRs := mOut PG (66, 0, [some (.ref 0), some (.int x1), some (.int x2), none, none], [], SH, M, J, 0, 0)
noncomputable def k_Pot_least_21 (x1 : Int32) (x3 : Int32) (x4 : Int32) (M : mMI) (J : mMJ) : Option mRs := mOut PG (66, 21, [some (.ref 0), some (.int x1), none, some (.int x3), some (.int x4)], [], SH, M, J, 0, 0)
noncomputable def k_Pot_leader  (M : mMI) (J : mMJ) : Option mRs := mOut PG (67, 0, [some (.ref 0), none, none, none, none, none, none], [], SH, M, J, 0, 0)
noncomputable def k_Pot_leader_6 (x1 : Int32) (x2 : Int64) (x4 : Int32) (M : mMI) (J : mMJ) : Option mRs := mOut PG (67, 6, [some (.ref 0), some (.int x1), some (.long x2), none, some (.int x4), none, none], [], SH, M, J, 0, 0)
noncomputable def k_Pot_led  (M : mMI) (J : mMJ) : Option mRs := mOut PG (68, 0, [some (.ref 0), none, none, none], [], SH, M, J, 0, 0)
noncomputable def k_Pot_led_6 (x1 : Int64) (x3 : Int32) (M : mMI) (J : mMJ) : Option mRs := mOut PG (68, 6, [some (.ref 0), some (.long x1), none, some (.int x3)], [], SH, M, J, 0, 0)
noncomputable def k_Pot_whom  (M : mMI) (J : mMJ) : Option mRs := mOut PG (69, 0, [some (.ref 0), none, none, none, none, none, none], [], SH, M, J, 0, 0)
noncomputable def k_Pot_whom_6 (x1 : Int32) (x2 : Int64) (x4 : Int32) (M : mMI) (J : mMJ) : Option mRs := mOut PG (69, 6, [some (.ref 0), some (.int x1), some (.long x2), none, some (.int x4), none, none], [], SH, M, J, 0, 0)
noncomputable def k_Pot_without (x1 : Int32) (M : mMI) (J : mMJ) : Option mRs := mOut PG (70, 0, [some (.ref 0), some (.int x1)], [], SH, M, J, 0, 0)
noncomputable def k_Pot_part  (M : mMI) (J : mMJ) : Option mRs := mOut PG (71, 0, [some (.ref 0), none, none, none, none, none, none], [], SH, M, J, 0, 0)
noncomputable def k_Pot_part_6 (x1 : Int32) (x2 : Int64) (x4 : Int32) (M : mMI) (J : mMJ) : Option mRs := mOut PG (71, 6, [some (.ref 0), some (.int x1), some (.long x2), none, some (.int x4), none, none], [], SH, M, J, 0, 0)
noncomputable def k_Pot_parted  (M : mMI) (J : mMJ) : Option mRs := mOut PG (72, 0, [some (.ref 0), none, none, none], [], SH, M, J, 0, 0)
noncomputable def k_Pot_parted_9 (x1 : Int64) (x3 : Int32) (M : mMI) (J : mMJ) : Option mRs := mOut PG (72, 9, [some (.ref 0), some (.long x1), none, some (.int x3)], [], SH, M, J, 0, 0)
noncomputable def k_Pot_reply (x1 : Int32) (x2 : Int32) (M : mMI) (J : mMJ) : Option mRs := mOut PG (73, 0, [some (.ref 0), some (.int x1), some (.int x2)], [], SH, M, J, 0, 0)
noncomputable def k_Pot_gain (x1 : Int32) (x2 : Int32) (x3 : Int32) (M : mMI) (J : mMJ) : Option mRs := mOut PG (74, 0, [some (.ref 0), some (.int x1), some (.int x2), some (.int x3)], [], SH, M, J, 0, 0)
noncomputable def k_Pot_rest (x1 : Int32) (M : mMI) (J : mMJ) : Option mRs := mOut PG (75, 0, [some (.ref 0), some (.int x1)], [], SH, M, J, 0, 0)
noncomputable def k_Pot_note (x1 : Int32) (x2 : Int32) (x3 : Int32) (M : mMI) (J : mMJ) : Option mRs := mOut PG (76, 0, [some (.ref 0), some (.int x1), some (.int x2), some (.int x3), none, none], [], SH, M, J, 0, 0)
noncomputable def k_Pot_would (x1 : Int32) (x2 : Int32) (x3 : Int32) (M : mMI) (J : mMJ) : Option mRs := mOut PG (77, 0, [some (.ref 0), some (.int x1), some (.int x2), some (.int x3)], [], SH, M, J, 0, 0)
noncomputable def k_Pot_slips (x1 : Int32) (x2 : Int32) (M : mMI) (J : mMJ) : Option mRs := mOut PG (78, 0, [some (.ref 0), some (.int x1), some (.int x2)], [], SH, M, J, 0, 0)
noncomputable def k_Pot_sort (x1 : Int32) (M : mMI) (J : mMJ) : Option mRs := mOut PG (79, 0, [some (.ref 0), some (.int x1)], [], SH, M, J, 0, 0)
noncomputable def k_Pot_sorts (x1 : Int32) (x2 : Int32) (M : mMI) (J : mMJ) : Option mRs := mOut PG (80, 0, [some (.ref 0), some (.int x1), some (.int x2)], [], SH, M, J, 0, 0)
noncomputable def k_Pot_copy  (M : mMI) (J : mMJ) : Option mRs := mOut PG (81, 0, [some (.ref 0), none, none, none], [], SH, M, J, 0, 0)
noncomputable def k_Pot_copy_10 (x2 : Int32) (M : mMI) (J : mMJ) : Option mRs := mOut PG (81, 10, [some (.ref 0), some (.ref 14), some (.int x2), none], [], SH, M, J, 0, 0)
noncomputable def k_Pot_copy_17 (x2 : Int32) (x3 : Int32) (M : mMI) (J : mMJ) : Option mRs := mOut PG (81, 17, [some (.ref 0), some (.ref 14), some (.int x2), some (.int x3)], [], SH, M, J, 0, 0)
noncomputable def k_Pot_keep (x1 : Int32) (M : mMI) (J : mMJ) : Option mRs := mOut PG (82, 0, [some (.ref 0), some (.int x1)], [], SH, M, J, 0, 0)
noncomputable def k_Pot_again (x1 : Int32) (M : mMI) (J : mMJ) : Option mRs := mOut PG (83, 0, [some (.ref 0), some (.int x1)], [], SH, M, J, 0, 0)
noncomputable def k_Pot_count (x1 : Int32) (M : mMI) (J : mMJ) : Option mRs := mOut PG (84, 0, [some (.ref 0), some (.int x1)], [], SH, M, J, 0, 0)
noncomputable def k_Pot_isPerson (x1 : Int32) (M : mMI) (J : mMJ) : Option mRs := mOut PG (85, 0, [some (.ref 0), some (.int x1)], [], SH, M, J, 0, 0)
noncomputable def k_Pot_isRound (x0 : Int32) (M : mMI) (J : mMJ) : Option mRs := mOut PG (86, 0, [some (.int x0)], [], SH, M, J, 0, 0)
noncomputable def k_Pot_isSlot (x0 : Int32) (M : mMI) (J : mMJ) : Option mRs := mOut PG (87, 0, [some (.int x0)], [], SH, M, J, 0, 0)
noncomputable def k_Pot_isCoinsOrNone (x0 : Int32) (M : mMI) (J : mMJ) : Option mRs := mOut PG (88, 0, [some (.int x0)], [], SH, M, J, 0, 0)
noncomputable def k_Pot_isBookPerson (x0 : Int32) (M : mMI) (J : mMJ) : Option mRs := mOut PG (89, 0, [some (.int x0)], [], SH, M, J, 0, 0)
noncomputable def k_Pot_isBookRound (x0 : Int32) (M : mMI) (J : mMJ) : Option mRs := mOut PG (90, 0, [some (.int x0)], [], SH, M, J, 0, 0)
noncomputable def k_Pot_isSort (x0 : Int32) (M : mMI) (J : mMJ) : Option mRs := mOut PG (91, 0, [some (.int x0)], [], SH, M, J, 0, 0)
noncomputable def k_Pot_isSort_20  (M : mMI) (J : mMJ) : Option mRs := mOut PG (91, 20, [none], [], SH, M, J, 0, 0)
noncomputable def k_Pot_isSort_8 (x0 : Int32) (M : mMI) (J : mMJ) : Option mRs := mOut PG (91, 8, [some (.int x0)], [], SH, M, J, 0, 0)
noncomputable def k_Pot_isSort_23 (y0 : Int32) (M : mMI) (J : mMJ) : Option mRs := mOut PG (91, 23, [none], [(.int y0)], SH, M, J, 0, 0)
noncomputable def k_Pot_isSort_14 (x0 : Int32) (M : mMI) (J : mMJ) : Option mRs := mOut PG (91, 14, [some (.int x0)], [], SH, M, J, 0, 0)
noncomputable def k_Pot_isSort_22  (M : mMI) (J : mMJ) : Option mRs := mOut PG (91, 22, [none], [], SH, M, J, 0, 0)
noncomputable def k_Pot_placeOf (x0 : Int32) (x1 : Int32) (M : mMI) (J : mMJ) : Option mRs := mOut PG (92, 0, [some (.int x0), some (.int x1)], [], SH, M, J, 0, 0)
noncomputable def k_Pot_paymentOf (x0 : Int32) (x1 : Int32) (x2 : Int32) (M : mMI) (J : mMJ) : Option mRs := mOut PG (93, 0, [some (.int x0), some (.int x1), some (.int x2)], [], SH, M, J, 0, 0)
noncomputable def k_Pot_bookPlaceOf (x0 : Int32) (x1 : Int32) (M : mMI) (J : mMJ) : Option mRs := mOut PG (94, 0, [some (.int x0), some (.int x1)], [], SH, M, J, 0, 0)
noncomputable def k_Pot_countTold_T  (M : mMI) (J : mMJ) : Option mRs := mOut PG (95, 0, [some (.ref 12), none, none], [], SH, M, J, 0, 0)
noncomputable def k_Pot_countTold_T_4 (x1 : Int32) (x2 : Int32) (M : mMI) (J : mMJ) : Option mRs := mOut PG (95, 4, [some (.ref 12), some (.int x1), some (.int x2)], [], SH, M, J, 0, 0)
noncomputable def k_Pot_countTold_B  (M : mMI) (J : mMJ) : Option mRs := mOut PG (95, 0, [some (.ref 36), none, none], [], SH, M, J, 0, 0)
noncomputable def k_Pot_countTold_B_4 (x1 : Int32) (x2 : Int32) (M : mMI) (J : mMJ) : Option mRs := mOut PG (95, 4, [some (.ref 36), some (.int x1), some (.int x2)], [], SH, M, J, 0, 0)
noncomputable def k_Pot_meanOf (x0 : Int32) (x1 : Int32) (M : mMI) (J : mMJ) : Option mRs := mOut PG (96, 0, [some (.int x0), some (.int x1)], [], SH, M, J, 0, 0)
noncomputable def k_Pot_ran  (M : mMI) (J : mMJ) : Option mRs := mOut PG (97, 0, [some (.ref 0)], [], SH, M, J, 0, 0)
noncomputable def k_Pot_ranWithFine (x1 : Int32) (M : mMI) (J : mMJ) : Option mRs := mOut PG (98, 0, [some (.ref 0), some (.int x1)], [], SH, M, J, 0, 0)
noncomputable def k_Pot_heldIfLedBy (x1 : Int32) (M : mMI) (J : mMJ) : Option mRs := mOut PG (99, 0, [some (.ref 0), some (.int x1)], [], SH, M, J, 0, 0)
noncomputable def k_Pot_heldIfOut (x1 : Int32) (M : mMI) (J : mMJ) : Option mRs := mOut PG (100, 0, [some (.ref 0), some (.int x1)], [], SH, M, J, 0, 0)
noncomputable def k_Pot_canBeHalved  (M : mMI) (J : mMJ) : Option mRs := mOut PG (101, 0, [some (.ref 0)], [], SH, M, J, 0, 0)
noncomputable def k_Pot_isHalf (x1 : Int32) (M : mMI) (J : mMJ) : Option mRs := mOut PG (102, 0, [some (.ref 0), some (.int x1)], [], SH, M, J, 0, 0)
noncomputable def k_Pot_heldByHalves (x1 : Int32) (M : mMI) (J : mMJ) : Option mRs := mOut PG (103, 0, [some (.ref 0), some (.int x1), none, none], [], SH, M, J, 0, 0)
noncomputable def k_Model_in (x0 : Int64) (x2 : Int64) (x4 : Int64) (M : mMI) (J : mMJ) : Option mRs := mOut PG (105, 0, [some (.long x0), none, some (.long x2), none, some (.long x4), none], [], SH, M, J, 0, 0)
noncomputable def k_Model_clear  (M : mMI) (J : mMJ) : Option mRs := mOut PG (106, 0, [some (.ref 46), none], [], SH, M, J, 0, 0)
noncomputable def k_Model_clear_2 (x1 : Int32) (M : mMI) (J : mMJ) : Option mRs := mOut PG (106, 2, [some (.ref 46), some (.int x1)], [], SH, M, J, 0, 0)
noncomputable def k_Model_clear_14 (x1 : Int32) (M : mMI) (J : mMJ) : Option mRs := mOut PG (106, 14, [some (.ref 46), some (.int x1)], [], SH, M, J, 0, 0)
noncomputable def k_Model_noPerson (x1 : Int32) (M : mMI) (J : mMJ) : Option mRs := mOut PG (107, 0, [some (.ref 46), some (.int x1)], [], SH, M, J, 0, 0)
noncomputable def k_Model_noRound (x0 : Int32) (M : mMI) (J : mMJ) : Option mRs := mOut PG (108, 0, [some (.int x0)], [], SH, M, J, 0, 0)
noncomputable def k_Model_write (x1 : Int32) (x2 : Int64) (M : mMI) (J : mMJ) : Option mRs := mOut PG (109, 0, [some (.ref 46), some (.int x1), some (.long x2), none, none], [], SH, M, J, 0, 0)
noncomputable def k_Model_write_23 (x2 : Int64) (x4 : Int32) (M : mMI) (J : mMJ) : Option mRs := mOut PG (109, 23, [some (.ref 46), none, some (.long x2), none, some (.int x4)], [], SH, M, J, 0, 0)
noncomputable def k_Model_wipe  (M : mMI) (J : mMJ) : Option mRs := mOut PG (110, 0, [some (.ref 46), none], [], SH, M, J, 0, 0)
noncomputable def k_Model_figure (x1 : Int32) (x2 : Int32) (M : mMI) (J : mMJ) : Option mRs := mOut PG (111, 0, [some (.ref 46), some (.int x1), some (.int x2)], [], SH, M, J, 0, 0)
noncomputable def k_Model_two (x1 : Int32) (x2 : Int32) (M : mMI) (J : mMJ) : Option mRs := mOut PG (112, 0, [some (.ref 46), some (.int x1), some (.int x2), none, none], [], SH, M, J, 0, 0)
noncomputable def k_Model_two_26 (x3 : Int32) (y1 : Int32) (y2 : Int32) (M : mMI) (J : mMJ) : Option mRs := mOut PG (112, 26, [none, none, none, some (.int x3), none], [(.int y2), (.int y1), (.ref 46)], SH, M, J, 0, 0)
noncomputable def k_Model_two_38 (y0 : Int32) (M : mMI) (J : mMJ) : Option mRs := mOut PG (112, 38, [none, none, none, none, none], [(.int y0)], SH, M, J, 0, 0)
noncomputable def k_Model_readRule  (M : mMI) (J : mMJ) : Option mRs := mOut PG (113, 0, [some (.ref 46), none, none, none, none], [], SH, M, J, 0, 0)
noncomputable def k_Model_readRule_28 (x1 : Int32) (M : mMI) (J : mMJ) : Option mRs := mOut PG (113, 28, [some (.ref 46), some (.int x1), none, none, none], [], SH, M, J, 0, 0)
noncomputable def k_Model_readRule_60 (x1 : Int32) (y0 : Int32) (M : mMI) (J : mMJ) : Option mRs := mOut PG (113, 60, [some (.ref 46), some (.int x1), none, none, none], [(.int y0)], SH, M, J, 0, 0)
noncomputable def k_Model_readRule_71  (M : mMI) (J : mMJ) : Option mRs := mOut PG (113, 71, [some (.ref 46), none, none, none, none], [], SH, M, J, 0, 0)
noncomputable def k_Model_readRule_102 (x1 : Int32) (x3 : Int32) (y1 : Int32) (M : mMI) (J : mMJ) : Option mRs := mOut PG (113, 102, [some (.ref 46), some (.int x1), none, some (.int x3), none], [(.int y1), (.ref 46)], SH, M, J, 0, 0)
noncomputable def k_Model_readRule_104 (x1 : Int32) (x3 : Int32) (y0 : Int32) (M : mMI) (J : mMJ) : Option mRs := mOut PG (113, 104, [some (.ref 46), some (.int x1), none, some (.int x3), none], [(.int y0)], SH, M, J, 0, 0)
noncomputable def k_Model_kind (x0 : Int32) (M : mMI) (J : mMJ) : Option mRs := mOut PG (114, 0, [some (.int x0)], [], SH, M, J, 0, 0)
noncomputable def k_Model_kind_36 (y0 : Int32) (M : mMI) (J : mMJ) : Option mRs := mOut PG (114, 36, [none], [(.int y0)], SH, M, J, 0, 0)
noncomputable def k_Model_readGroup  (M : mMI) (J : mMJ) : Option mRs := mOut PG (115, 0, [some (.ref 46), none, none, none], [], SH, M, J, 0, 0)
noncomputable def k_Model_readGroup_6  (M : mMI) (J : mMJ) : Option mRs := mOut PG (115, 6, [some (.ref 46), none, none, none], [], SH, M, J, 0, 0)
noncomputable def k_Model_readGroup_108 (y0 : Int32) (M : mMI) (J : mMJ) : Option mRs := mOut PG (115, 108, [none, none, none, none], [(.int y0)], SH, M, J, 0, 0)
noncomputable def k_Model_readGroup_25  (M : mMI) (J : mMJ) : Option mRs := mOut PG (115, 25, [some (.ref 46), none, none, none], [], SH, M, J, 0, 0)
noncomputable def k_Model_readGroup_50 (x1 : Int32) (y0 : Int32) (M : mMI) (J : mMJ) : Option mRs := mOut PG (115, 50, [some (.ref 46), some (.int x1), none, none], [(.int y0)], SH, M, J, 0, 0)
noncomputable def k_Model_readGroup_68 (x1 : Int32) (x2 : Int32) (y0 : Int32) (M : mMI) (J : mMJ) : Option mRs := mOut PG (115, 68, [some (.ref 46), some (.int x1), some (.int x2), none], [(.int y0)], SH, M, J, 0, 0)
noncomputable def k_Model_fault (x1 : Int32) (M : mMI) (J : mMJ) : Option mRs := mOut PG (116, 0, [some (.ref 46), some (.int x1)], [], SH, M, J, 0, 0)
noncomputable def k_Model_rule  (M : mMI) (J : mMJ) : Option mRs := mOut PG (117, 0, [some (.ref 46), none], [], SH, M, J, 0, 0)
noncomputable def k_Model_rule_11 (x1 : Int32) (M : mMI) (J : mMJ) : Option mRs := mOut PG (117, 11, [some (.ref 46), some (.int x1)], [], SH, M, J, 0, 0)
noncomputable def k_Model_group  (M : mMI) (J : mMJ) : Option mRs := mOut PG (118, 0, [some (.ref 46), none], [], SH, M, J, 0, 0)
noncomputable def k_Model_group_15 (x1 : Int32) (M : mMI) (J : mMJ) : Option mRs := mOut PG (118, 15, [some (.ref 46), some (.int x1)], [], SH, M, J, 0, 0)
noncomputable def k_Model_ruled (x1 : Int32) (M : mMI) (J : mMJ) : Option mRs := mOut PG (119, 0, [some (.ref 46), some (.int x1)], [], SH, M, J, 0, 0)
noncomputable def k_Model_person (x1 : Int32) (x2 : Int32) (M : mMI) (J : mMJ) : Option mRs := mOut PG (120, 0, [some (.ref 46), some (.int x1), some (.int x2)], [], SH, M, J, 0, 0)
noncomputable def k_Model_tell (x1 : Int32) (x2 : Int32) (x3 : Int32) (M : mMI) (J : mMJ) : Option mRs := mOut PG (121, 0, [some (.ref 46), some (.int x1), some (.int x2), some (.int x3), none], [], SH, M, J, 0, 0)
noncomputable def k_Model_staying  (M : mMI) (J : mMJ) : Option mRs := mOut PG (122, 0, [some (.ref 46), none, none], [], SH, M, J, 0, 0)
noncomputable def k_Model_staying_4 (x1 : Int32) (x2 : Int32) (M : mMI) (J : mMJ) : Option mRs := mOut PG (122, 4, [some (.ref 46), some (.int x1), some (.int x2)], [], SH, M, J, 0, 0)
noncomputable def k_Model_send (x1 : Int32) (x2 : Int32) (M : mMI) (J : mMJ) : Option mRs := mOut PG (123, 0, [some (.ref 46), some (.int x1), some (.int x2), none], [], SH, M, J, 0, 0)
noncomputable def k_Model_fine (x1 : Int32) (M : mMI) (J : mMJ) : Option mRs := mOut PG (124, 0, [some (.ref 46), some (.int x1), none], [], SH, M, J, 0, 0)
noncomputable def k_Model_isIn (x1 : Int32) (x2 : Int32) (M : mMI) (J : mMJ) : Option mRs := mOut PG (125, 0, [some (.ref 46), some (.int x1), some (.int x2)], [], SH, M, J, 0, 0)
noncomputable def k_Model_inMany (x1 : Int32) (M : mMI) (J : mMJ) : Option mRs := mOut PG (126, 0, [some (.ref 46), some (.int x1), none, none], [], SH, M, J, 0, 0)
noncomputable def k_Model_inMany_4 (x1 : Int32) (x2 : Int32) (x3 : Int32) (M : mMI) (J : mMJ) : Option mRs := mOut PG (126, 4, [some (.ref 46), some (.int x1), some (.int x2), some (.int x3)], [], SH, M, J, 0, 0)
noncomputable def k_Model_bound (x1 : Int32) (M : mMI) (J : mMJ) : Option mRs := mOut PG (127, 0, [some (.ref 46), some (.int x1)], [], SH, M, J, 0, 0)
noncomputable def k_Model_meanOf (x1 : Int32) (x2 : Int32) (M : mMI) (J : mMJ) : Option mRs := mOut PG (128, 0, [some (.ref 46), some (.int x1), some (.int x2), none, none, none], [], SH, M, J, 0, 0)
noncomputable def k_Model_meanOf_6 (x1 : Int32) (x2 : Int32) (x3 : Int32) (x4 : Int32) (x5 : Int32) (M : mMI) (J : mMJ) : Option mRs := mOut PG (128, 6, [some (.ref 46), some (.int x1), some (.int x2), some (.int x3), some (.int x4), some (.int x5)], [], SH, M, J, 0, 0)
noncomputable def k_Model_taken (x1 : Int32) (x2 : Int32) (M : mMI) (J : mMJ) : Option mRs := mOut PG (129, 0, [some (.ref 46), some (.int x1), some (.int x2), none, none], [], SH, M, J, 0, 0)
noncomputable def k_Model_taken_4 (x1 : Int32) (x2 : Int32) (x3 : Int32) (x4 : Int32) (M : mMI) (J : mMJ) : Option mRs := mOut PG (129, 4, [some (.ref 46), some (.int x1), some (.int x2), some (.int x3), some (.int x4)], [], SH, M, J, 0, 0)
noncomputable def k_Model_putOf (x1 : Int32) (x2 : Int32) (M : mMI) (J : mMJ) : Option mRs := mOut PG (130, 0, [some (.ref 46), some (.int x1), some (.int x2), none, none], [], SH, M, J, 0, 0)
noncomputable def k_Model_putOf_29 (x1 : Int32) (x2 : Int32) (x3 : Int32) (M : mMI) (J : mMJ) : Option mRs := mOut PG (130, 29, [some (.ref 46), some (.int x1), some (.int x2), some (.int x3), none], [], SH, M, J, 0, 0)
noncomputable def k_Model_putOf_108 (y1 : Int32) (y2 : Int32) (M : mMI) (J : mMJ) : Option mRs := mOut PG (130, 108, [none, none, none, none, none], [(.int y2), (.int y1), (.ref 46)], SH, M, J, 0, 0)
noncomputable def k_Model_putOf_47 (y1 : Int32) (M : mMI) (J : mMJ) : Option mRs := mOut PG (130, 47, [none, none, none, none, none], [(.int y1), (.ref 46)], SH, M, J, 0, 0)
noncomputable def k_Model_layFines (x1 : Int32) (M : mMI) (J : mMJ) : Option mRs := mOut PG (131, 0, [some (.ref 46), some (.int x1), none, none, none, none], [], SH, M, J, 0, 0)
noncomputable def k_Model_layFines_6 (x1 : Int32) (x2 : Int32) (x3 : Int32) (x4 : Int32) (M : mMI) (J : mMJ) : Option mRs := mOut PG (131, 6, [some (.ref 46), some (.int x1), some (.int x2), some (.int x3), some (.int x4), none], [], SH, M, J, 0, 0)
noncomputable def k_Model_layFines_18 (x1 : Int32) (x2 : Int32) (x3 : Int32) (x4 : Int32) (M : mMI) (J : mMJ) : Option mRs := mOut PG (131, 18, [some (.ref 46), some (.int x1), some (.int x2), some (.int x3), some (.int x4), none], [], SH, M, J, 0, 0)
noncomputable def k_Model_layFines_43 (x1 : Int32) (x4 : Int32) (x5 : Int32) (M : mMI) (J : mMJ) : Option mRs := mOut PG (131, 43, [some (.ref 46), some (.int x1), none, none, some (.int x4), some (.int x5)], [], SH, M, J, 0, 0)
noncomputable def k_Model_nine (x0 : Int32) (M : mMI) (J : mMJ) : Option mRs := mOut PG (132, 0, [some (.int x0)], [], SH, M, J, 0, 0)
noncomputable def k_Model_layBy (x1 : Int32) (x2 : Int32) (x3 : Int32) (M : mMI) (J : mMJ) : Option mRs := mOut PG (133, 0, [some (.ref 46), some (.int x1), some (.int x2), some (.int x3), none, none, none, none, none], [], SH, M, J, 0, 0)
noncomputable def k_Model_layBy_85 (x1 : Int32) (x2 : Int32) (x3 : Int32) (x4 : Int32) (x5 : Int32) (x6 : Int32) (M : mMI) (J : mMJ) : Option mRs := mOut PG (133, 85, [some (.ref 46), some (.int x1), some (.int x2), some (.int x3), some (.int x4), some (.int x5), some (.int x6), none, none], [], SH, M, J, 0, 0)
noncomputable def k_Model_layBy_23 (x1 : Int32) (x2 : Int32) (x3 : Int32) (x5 : Int32) (x6 : Int32) (x7 : Int32) (M : mMI) (J : mMJ) : Option mRs := mOut PG (133, 23, [some (.ref 46), some (.int x1), some (.int x2), some (.int x3), none, some (.int x5), some (.int x6), some (.int x7), none], [], SH, M, J, 0, 0)
noncomputable def k_Model_layBy_151 (x1 : Int32) (x2 : Int32) (x3 : Int32) (x4 : Int32) (x5 : Int32) (x6 : Int32) (M : mMI) (J : mMJ) : Option mRs := mOut PG (133, 151, [some (.ref 46), some (.int x1), some (.int x2), some (.int x3), some (.int x4), some (.int x5), some (.int x6), none, none], [], SH, M, J, 0, 0)
noncomputable def k_Model_layBy_116 (x1 : Int32) (x2 : Int32) (x3 : Int32) (x4 : Int32) (x5 : Int32) (x6 : Int32) (y0 : Int32) (M : mMI) (J : mMJ) : Option mRs := mOut PG (133, 116, [some (.ref 46), some (.int x1), some (.int x2), some (.int x3), some (.int x4), some (.int x5), some (.int x6), none, none], [(.int y0)], SH, M, J, 0, 0)
noncomputable def k_Model_layBy_76  (M : mMI) (J : mMJ) : Option mRs := mOut PG (133, 76, [none, none, none, none, none, none, none, none, none], [], SH, M, J, 0, 0)
noncomputable def k_Model_layBy_49 (x1 : Int32) (x2 : Int32) (x3 : Int32) (x5 : Int32) (x6 : Int32) (x7 : Int32) (M : mMI) (J : mMJ) : Option mRs := mOut PG (133, 49, [some (.ref 46), some (.int x1), some (.int x2), some (.int x3), none, some (.int x5), some (.int x6), some (.int x7), none], [], SH, M, J, 0, 0)
noncomputable def k_Model_layBy_47 (x1 : Int32) (x2 : Int32) (x3 : Int32) (x5 : Int32) (x7 : Int32) (M : mMI) (J : mMJ) : Option mRs := mOut PG (133, 47, [some (.ref 46), some (.int x1), some (.int x2), some (.int x3), none, some (.int x5), none, some (.int x7), none], [], SH, M, J, 0, 0)
noncomputable def k_Model_layBy_137 (x1 : Int32) (x2 : Int32) (x3 : Int32) (x4 : Int32) (x5 : Int32) (x6 : Int32) (x7 : Int32) (M : mMI) (J : mMJ) : Option mRs := mOut PG (133, 137, [some (.ref 46), some (.int x1), some (.int x2), some (.int x3), some (.int x4), some (.int x5), some (.int x6), some (.int x7), none], [], SH, M, J, 0, 0)
noncomputable def k_Model_layBy_138 (x1 : Int32) (x2 : Int32) (x3 : Int32) (x4 : Int32) (x5 : Int32) (x6 : Int32) (x7 : Int32) (y0 : Int32) (M : mMI) (J : mMJ) : Option mRs := mOut PG (133, 138, [some (.ref 46), some (.int x1), some (.int x2), some (.int x3), some (.int x4), some (.int x5), some (.int x6), some (.int x7), none], [(.int y0)], SH, M, J, 0, 0)
noncomputable def k_Model_gets (x1 : Int32) (x2 : Int32) (M : mMI) (J : mMJ) : Option mRs := mOut PG (134, 0, [some (.ref 46), some (.int x1), some (.int x2), none, none, none, none, none, none], [], SH, M, J, 0, 0)
noncomputable def k_Model_gets_8 (x1 : Int32) (x2 : Int32) (x3 : Int64) (x5 : Int32) (x6 : Int32) (x7 : Int32) (M : mMI) (J : mMJ) : Option mRs := mOut PG (134, 8, [some (.ref 46), some (.int x1), some (.int x2), some (.long x3), none, some (.int x5), some (.int x6), some (.int x7), none], [], SH, M, J, 0, 0)
noncomputable def k_Model_run  (M : mMI) (J : mMJ) : Option mRs := mOut PG (135, 0, [some (.ref 46), none, none, none, none], [], SH, M, J, 0, 0)
noncomputable def k_Model_run_2 (x1 : Int32) (M : mMI) (J : mMJ) : Option mRs := mOut PG (135, 2, [some (.ref 46), some (.int x1), none, none, none], [], SH, M, J, 0, 0)
noncomputable def k_Model_run_7 (x1 : Int32) (x2 : Int32) (M : mMI) (J : mMJ) : Option mRs := mOut PG (135, 7, [some (.ref 46), some (.int x1), some (.int x2), none, none], [], SH, M, J, 0, 0)
noncomputable def k_Model_run_33 (x1 : Int32) (x2 : Int32) (M : mMI) (J : mMJ) : Option mRs := mOut PG (135, 33, [some (.ref 46), some (.int x1), some (.int x2), none, none], [], SH, M, J, 0, 0)
noncomputable def k_Model_run_89 (x1 : Int32) (x2 : Int32) (M : mMI) (J : mMJ) : Option mRs := mOut PG (135, 89, [some (.ref 46), some (.int x1), some (.int x2), none, none], [], SH, M, J, 0, 0)
noncomputable def k_Model_runAll  (M : mMI) (J : mMJ) : Option mRs := mOut PG (136, 0, [some (.ref 46), none], [], SH, M, J, 0, 0)
noncomputable def k_Model_runAll_8 (x1 : Int32) (M : mMI) (J : mMJ) : Option mRs := mOut PG (136, 8, [some (.ref 46), some (.int x1)], [], SH, M, J, 0, 0)
noncomputable def k_Model_sumAt (x1 : Int32) (M : mMI) (J : mMJ) : Option mRs := mOut PG (137, 0, [some (.ref 46), some (.int x1), none, none, none], [], SH, M, J, 0, 0)
noncomputable def k_Model_sumAt_4 (x1 : Int32) (x2 : Int64) (x4 : Int32) (M : mMI) (J : mMJ) : Option mRs := mOut PG (137, 4, [some (.ref 46), some (.int x1), some (.long x2), none, some (.int x4)], [], SH, M, J, 0, 0)
noncomputable def k_Model_runBoth  (M : mMI) (J : mMJ) : Option mRs := mOut PG (138, 0, [some (.ref 46), none, none], [], SH, M, J, 0, 0)
noncomputable def k_Model_runBoth_19 (x2 : Int32) (M : mMI) (J : mMJ) : Option mRs := mOut PG (138, 19, [some (.ref 46), none, some (.int x2)], [], SH, M, J, 0, 0)
noncomputable def k_Model_otherAt (x1 : Int32) (M : mMI) (J : mMJ) : Option mRs := mOut PG (139, 0, [some (.ref 46), some (.int x1), none, none, none], [], SH, M, J, 0, 0)
noncomputable def k_Model_otherAt_4 (x1 : Int32) (x2 : Int64) (x4 : Int32) (M : mMI) (J : mMJ) : Option mRs := mOut PG (139, 4, [some (.ref 46), some (.int x1), some (.long x2), none, some (.int x4)], [], SH, M, J, 0, 0)
noncomputable def k_Model_put (x1 : Int32) (x2 : Int32) (M : mMI) (J : mMJ) : Option mRs := mOut PG (140, 0, [some (.ref 46), some (.int x1), some (.int x2)], [], SH, M, J, 0, 0)
noncomputable def k_Model_paid (x1 : Int32) (x2 : Int32) (x3 : Int32) (M : mMI) (J : mMJ) : Option mRs := mOut PG (141, 0, [some (.ref 46), some (.int x1), some (.int x2), some (.int x3)], [], SH, M, J, 0, 0)
noncomputable def k_Model_potOf (x1 : Int32) (M : mMI) (J : mMJ) : Option mRs := mOut PG (142, 0, [some (.ref 46), some (.int x1), none, none], [], SH, M, J, 0, 0)
noncomputable def k_Model_potOf_4 (x1 : Int32) (x2 : Int32) (x3 : Int32) (M : mMI) (J : mMJ) : Option mRs := mOut PG (142, 4, [some (.ref 46), some (.int x1), some (.int x2), some (.int x3)], [], SH, M, J, 0, 0)
noncomputable def k_Model_pot (x1 : Int32) (M : mMI) (J : mMJ) : Option mRs := mOut PG (143, 0, [some (.ref 46), some (.int x1)], [], SH, M, J, 0, 0)
noncomputable def k_Model_here (x1 : Int32) (M : mMI) (J : mMJ) : Option mRs := mOut PG (144, 0, [some (.ref 46), some (.int x1)], [], SH, M, J, 0, 0)
noncomputable def k_Model_holds (x1 : Int32) (x2 : Int32) (M : mMI) (J : mMJ) : Option mRs := mOut PG (145, 0, [some (.ref 46), some (.int x1), some (.int x2)], [], SH, M, J, 0, 0)
noncomputable def k_Model_all (x1 : Int32) (x2 : Int32) (M : mMI) (J : mMJ) : Option mRs := mOut PG (146, 0, [some (.ref 46), some (.int x1), some (.int x2)], [], SH, M, J, 0, 0)
noncomputable def k_Model_lost (x1 : Int32) (x2 : Int32) (M : mMI) (J : mMJ) : Option mRs := mOut PG (147, 0, [some (.ref 46), some (.int x1), some (.int x2), none, none, none], [], SH, M, J, 0, 0)
noncomputable def k_Model_lost_18 (x1 : Int32) (x2 : Int32) (x3 : Int32) (x4 : Int32) (M : mMI) (J : mMJ) : Option mRs := mOut PG (147, 18, [some (.ref 46), some (.int x1), some (.int x2), some (.int x3), some (.int x4), none], [], SH, M, J, 0, 0)
noncomputable def k_Model_lost_23 (x1 : Int32) (x2 : Int32) (x3 : Int32) (x4 : Int32) (x5 : Int32) (M : mMI) (J : mMJ) : Option mRs := mOut PG (147, 23, [some (.ref 46), some (.int x1), some (.int x2), some (.int x3), some (.int x4), some (.int x5)], [], SH, M, J, 0, 0)
noncomputable def k_Model_fall  (M : mMI) (J : mMJ) : Option mRs := mOut PG (148, 0, [some (.ref 46), none, none], [], SH, M, J, 0, 0)
noncomputable def k_Model_fall_11 (x1 : Int32) (x2 : Int32) (M : mMI) (J : mMJ) : Option mRs := mOut PG (148, 11, [some (.ref 46), some (.int x1), some (.int x2)], [], SH, M, J, 0, 0)
noncomputable def k_Model_pays  (M : mMI) (J : mMJ) : Option mRs := mOut PG (149, 0, [some (.ref 46), none, none], [], SH, M, J, 0, 0)
noncomputable def k_Model_pays_9 (x1 : Int32) (x2 : Int32) (M : mMI) (J : mMJ) : Option mRs := mOut PG (149, 9, [some (.ref 46), some (.int x1), some (.int x2)], [], SH, M, J, 0, 0)
noncomputable def k_Model_vote (x1 : Int32) (M : mMI) (J : mMJ) : Option mRs := mOut PG (150, 0, [some (.ref 46), some (.int x1), none, none], [], SH, M, J, 0, 0)
noncomputable def k_Model_vote_14 (x1 : Int32) (x2 : Int32) (x3 : Int32) (M : mMI) (J : mMJ) : Option mRs := mOut PG (150, 14, [some (.ref 46), some (.int x1), some (.int x2), some (.int x3)], [], SH, M, J, 0, 0)
noncomputable def k_Model_least (x1 : Int32) (x2 : Int32) (M : mMI) (J : mMJ) : Option mRs := mOut PG (151, 0, [some (.ref 46), some (.int x1), some (.int x2), none, none, none], [], SH, M, J, 0, 0)
noncomputable def k_Model_least_25 (x1 : Int32) (x2 : Int32) (x3 : Int32) (x4 : Int32) (x5 : Int32) (M : mMI) (J : mMJ) : Option mRs := mOut PG (151, 25, [some (.ref 46), some (.int x1), some (.int x2), some (.int x3), some (.int x4), some (.int x5)], [], SH, M, J, 0, 0)
noncomputable def k_Model_leadBy (x1 : Int32) (M : mMI) (J : mMJ) : Option mRs := mOut PG (152, 0, [some (.ref 46), some (.int x1), none], [], SH, M, J, 0, 0)
noncomputable def k_Model_findLeader  (M : mMI) (J : mMJ) : Option mRs := mOut PG (153, 0, [some (.ref 46), none, none, none, none, none, none], [], SH, M, J, 0, 0)
noncomputable def k_Model_findLeader_6 (x1 : Int32) (x2 : Int64) (x4 : Int32) (M : mMI) (J : mMJ) : Option mRs := mOut PG (153, 6, [some (.ref 46), some (.int x1), some (.long x2), none, some (.int x4), none, none], [], SH, M, J, 0, 0)
noncomputable def k_Model_leader  (M : mMI) (J : mMJ) : Option mRs := mOut PG (154, 0, [some (.ref 46)], [], SH, M, J, 0, 0)
noncomputable def k_Model_led  (M : mMI) (J : mMJ) : Option mRs := mOut PG (155, 0, [some (.ref 46)], [], SH, M, J, 0, 0)
noncomputable def k_Model_isFew (x1 : Int32) (M : mMI) (J : mMJ) : Option mRs := mOut PG (156, 0, [some (.ref 46), some (.int x1), none, none], [], SH, M, J, 0, 0)
noncomputable def k_Model_withoutOne (x1 : Int32) (M : mMI) (J : mMJ) : Option mRs := mOut PG (157, 0, [some (.ref 46), some (.int x1), none], [], SH, M, J, 0, 0)
noncomputable def k_Model_whom  (M : mMI) (J : mMJ) : Option mRs := mOut PG (158, 0, [some (.ref 46), none, none, none, none, none, none], [], SH, M, J, 0, 0)
noncomputable def k_Model_whom_9 (x1 : Int32) (x2 : Int64) (x4 : Int32) (M : mMI) (J : mMJ) : Option mRs := mOut PG (158, 9, [some (.ref 46), some (.int x1), some (.long x2), none, some (.int x4), none, none], [], SH, M, J, 0, 0)
noncomputable def k_Model_whom_22 (x1 : Int32) (x2 : Int64) (x4 : Int32) (y0 : Int64) (M : mMI) (J : mMJ) : Option mRs := mOut PG (158, 22, [some (.ref 46), some (.int x1), some (.long x2), none, some (.int x4), none, none], [(.long y0)], SH, M, J, 0, 0)
noncomputable def k_Model_whom_38 (x1 : Int32) (x2 : Int64) (x4 : Int32) (M : mMI) (J : mMJ) : Option mRs := mOut PG (158, 38, [some (.ref 46), some (.int x1), some (.long x2), none, some (.int x4), none, none], [], SH, M, J, 0, 0)
noncomputable def k_Model_whom_34 (x4 : Int32) (x5 : Int64) (M : mMI) (J : mMJ) : Option mRs := mOut PG (158, 34, [some (.ref 46), none, none, none, some (.int x4), some (.long x5), none], [], SH, M, J, 0, 0)
noncomputable def k_Model_without (x1 : Int32) (M : mMI) (J : mMJ) : Option mRs := mOut PG (159, 0, [some (.ref 46), some (.int x1)], [], SH, M, J, 0, 0)
noncomputable def k_Model_halfBy (x1 : Int32) (M : mMI) (J : mMJ) : Option mRs := mOut PG (160, 0, [some (.ref 46), some (.int x1), none], [], SH, M, J, 0, 0)
noncomputable def k_Model_halfBy_7 (x1 : Int32) (x2 : Int32) (M : mMI) (J : mMJ) : Option mRs := mOut PG (160, 7, [some (.ref 46), some (.int x1), some (.int x2)], [], SH, M, J, 0, 0)
noncomputable def k_Model_bits (x0 : Int32) (M : mMI) (J : mMJ) : Option mRs := mOut PG (161, 0, [some (.int x0), none, none], [], SH, M, J, 0, 0)
noncomputable def k_Model_bits_4 (x0 : Int32) (x1 : Int32) (x2 : Int32) (M : mMI) (J : mMJ) : Option mRs := mOut PG (161, 4, [some (.int x0), some (.int x1), some (.int x2)], [], SH, M, J, 0, 0)
noncomputable def k_Model_partBy (x1 : Int32) (M : mMI) (J : mMJ) : Option mRs := mOut PG (162, 0, [some (.ref 46), some (.int x1)], [], SH, M, J, 0, 0)
noncomputable def k_Model_findPart  (M : mMI) (J : mMJ) : Option mRs := mOut PG (163, 0, [some (.ref 46), none, none, none, none, none, none], [], SH, M, J, 0, 0)
noncomputable def k_Model_findPart_6 (x1 : Int32) (x2 : Int64) (x4 : Int32) (M : mMI) (J : mMJ) : Option mRs := mOut PG (163, 6, [some (.ref 46), some (.int x1), some (.long x2), none, some (.int x4), none, none], [], SH, M, J, 0, 0)
noncomputable def k_Model_noHalves  (M : mMI) (J : mMJ) : Option mRs := mOut PG (164, 0, [some (.ref 46)], [], SH, M, J, 0, 0)
noncomputable def k_Model_part  (M : mMI) (J : mMJ) : Option mRs := mOut PG (165, 0, [some (.ref 46)], [], SH, M, J, 0, 0)
noncomputable def k_Model_parted  (M : mMI) (J : mMJ) : Option mRs := mOut PG (166, 0, [some (.ref 46)], [], SH, M, J, 0, 0)
noncomputable def k_Model_gainBy (x1 : Int32) (x2 : Int32) (x3 : Int32) (M : mMI) (J : mMJ) : Option mRs := mOut PG (167, 0, [some (.ref 46), some (.int x1), some (.int x2), some (.int x3), none], [], SH, M, J, 0, 0)
noncomputable def k_Model_gainBy_2 (x1 : Int32) (x2 : Int32) (x3 : Int32) (x4 : Int32) (M : mMI) (J : mMJ) : Option mRs := mOut PG (167, 2, [some (.ref 46), some (.int x1), some (.int x2), some (.int x3), some (.int x4)], [], SH, M, J, 0, 0)
noncomputable def k_Model_replyOf (x1 : Int32) (x2 : Int32) (M : mMI) (J : mMJ) : Option mRs := mOut PG (168, 0, [some (.ref 46), some (.int x1), some (.int x2), none, none, none, none, none, none], [], SH, M, J, 0, 0)
noncomputable def k_Model_replyOf_10 (x1 : Int32) (x2 : Int32) (x3 : Int32) (x4 : Int64) (x6 : Int32) (M : mMI) (J : mMJ) : Option mRs := mOut PG (168, 10, [some (.ref 46), some (.int x1), some (.int x2), some (.int x3), some (.long x4), none, some (.int x6), none, none], [], SH, M, J, 0, 0)
noncomputable def k_Model_reply (x1 : Int32) (x2 : Int32) (M : mMI) (J : mMJ) : Option mRs := mOut PG (169, 0, [some (.ref 46), some (.int x1), some (.int x2)], [], SH, M, J, 0, 0)
noncomputable def k_Model_gain (x1 : Int32) (x2 : Int32) (x3 : Int32) (M : mMI) (J : mMJ) : Option mRs := mOut PG (170, 0, [some (.ref 46), some (.int x1), some (.int x2), some (.int x3)], [], SH, M, J, 0, 0)
noncomputable def k_Model_rest (x1 : Int32) (M : mMI) (J : mMJ) : Option mRs := mOut PG (171, 0, [some (.ref 46), some (.int x1), none, none], [], SH, M, J, 0, 0)
noncomputable def k_Model_rest_14 (x1 : Int32) (x2 : Int32) (x3 : Int32) (M : mMI) (J : mMJ) : Option mRs := mOut PG (171, 14, [some (.ref 46), some (.int x1), some (.int x2), some (.int x3)], [], SH, M, J, 0, 0)
noncomputable def k_Model_noPlace (x0 : Int32) (x1 : Int32) (M : mMI) (J : mMJ) : Option mRs := mOut PG (172, 0, [some (.int x0), some (.int x1)], [], SH, M, J, 0, 0)
noncomputable def k_Model_note (x1 : Int32) (x2 : Int32) (x3 : Int32) (M : mMI) (J : mMJ) : Option mRs := mOut PG (173, 0, [some (.ref 46), some (.int x1), some (.int x2), some (.int x3), none], [], SH, M, J, 0, 0)
noncomputable def k_Model_noSort (x0 : Int32) (M : mMI) (J : mMJ) : Option mRs := mOut PG (174, 0, [some (.int x0)], [], SH, M, J, 0, 0)
noncomputable def k_Model_wouldBe (x1 : Int32) (x2 : Int32) (x3 : Int32) (M : mMI) (J : mMJ) : Option mRs := mOut PG (175, 0, [some (.ref 46), some (.int x1), some (.int x2), some (.int x3), none, none, none, none], [], SH, M, J, 0, 0)
noncomputable def k_Model_wouldBe_21 (x1 : Int32) (x2 : Int32) (x3 : Int32) (x4 : Int32) (x5 : Int32) (x6 : Int32) (M : mMI) (J : mMJ) : Option mRs := mOut PG (175, 21, [some (.ref 46), some (.int x1), some (.int x2), some (.int x3), some (.int x4), some (.int x5), some (.int x6), none], [], SH, M, J, 0, 0)
noncomputable def k_Model_wouldBe_56 (x1 : Int32) (x2 : Int32) (x3 : Int32) (x4 : Int32) (x5 : Int32) (x6 : Int32) (M : mMI) (J : mMJ) : Option mRs := mOut PG (175, 56, [some (.ref 46), some (.int x1), some (.int x2), some (.int x3), some (.int x4), some (.int x5), some (.int x6), none], [], SH, M, J, 0, 0)
noncomputable def k_Model_wouldBe_44 (x1 : Int32) (x2 : Int32) (x3 : Int32) (x4 : Int32) (x5 : Int32) (x6 : Int32) (x7 : Int32) (y0 : Int32) (M : mMI) (J : mMJ) : Option mRs := mOut PG (175, 44, [some (.ref 46), some (.int x1), some (.int x2), some (.int x3), some (.int x4), some (.int x5), some (.int x6), some (.int x7)], [(.int y0)], SH, M, J, 0, 0)
noncomputable def k_Model_wouldBe_50 (x1 : Int32) (x2 : Int32) (x3 : Int32) (x4 : Int32) (x5 : Int32) (x6 : Int32) (x7 : Int32) (y0 : Int32) (y1 : Int32) (M : mMI) (J : mMJ) : Option mRs := mOut PG (175, 50, [some (.ref 46), some (.int x1), some (.int x2), some (.int x3), some (.int x4), some (.int x5), some (.int x6), some (.int x7)], [(.int y1), (.int y0)], SH, M, J, 0, 0)
noncomputable def k_Model_would (x1 : Int32) (x2 : Int32) (x3 : Int32) (M : mMI) (J : mMJ) : Option mRs := mOut PG (176, 0, [some (.ref 46), some (.int x1), some (.int x2), some (.int x3)], [], SH, M, J, 0, 0)
noncomputable def k_Model_slipsOf (x1 : Int32) (x2 : Int32) (M : mMI) (J : mMJ) : Option mRs := mOut PG (177, 0, [some (.ref 46), some (.int x1), some (.int x2), none, none, none, none], [], SH, M, J, 0, 0)
noncomputable def k_Model_slipsOf_4 (x1 : Int32) (x2 : Int32) (x3 : Int32) (x4 : Int32) (M : mMI) (J : mMJ) : Option mRs := mOut PG (177, 4, [some (.ref 46), some (.int x1), some (.int x2), some (.int x3), some (.int x4), none, none], [], SH, M, J, 0, 0)
noncomputable def k_Model_slips (x1 : Int32) (x2 : Int32) (M : mMI) (J : mMJ) : Option mRs := mOut PG (178, 0, [some (.ref 46), some (.int x1), some (.int x2)], [], SH, M, J, 0, 0)
noncomputable def k_Model_sort (x1 : Int32) (M : mMI) (J : mMJ) : Option mRs := mOut PG (179, 0, [some (.ref 46), some (.int x1), none, none], [], SH, M, J, 0, 0)
noncomputable def k_Model_sort_15 (x1 : Int32) (x2 : Int32) (x3 : Int32) (M : mMI) (J : mMJ) : Option mRs := mOut PG (179, 15, [some (.ref 46), some (.int x1), some (.int x2), some (.int x3)], [], SH, M, J, 0, 0)
noncomputable def k_Model_sorts (x1 : Int32) (x2 : Int32) (M : mMI) (J : mMJ) : Option mRs := mOut PG (180, 0, [some (.ref 46), some (.int x1), some (.int x2), none, none], [], SH, M, J, 0, 0)
noncomputable def k_Model_sorts_23 (x1 : Int32) (x2 : Int32) (x3 : Int32) (x4 : Int32) (M : mMI) (J : mMJ) : Option mRs := mOut PG (180, 23, [some (.ref 46), some (.int x1), some (.int x2), some (.int x3), some (.int x4)], [], SH, M, J, 0, 0)
noncomputable def k_Model_copy  (M : mMI) (J : mMJ) : Option mRs := mOut PG (181, 0, [some (.ref 46), none, none, none, none], [], SH, M, J, 0, 0)
noncomputable def k_Model_copy_9 (x1 : Int32) (x2 : Int32) (M : mMI) (J : mMJ) : Option mRs := mOut PG (181, 9, [some (.ref 46), some (.int x1), some (.int x2), none, none], [], SH, M, J, 0, 0)
noncomputable def k_Model_copy_14 (x1 : Int32) (x2 : Int32) (x3 : Int32) (M : mMI) (J : mMJ) : Option mRs := mOut PG (181, 14, [some (.ref 46), some (.int x1), some (.int x2), some (.int x3), none], [], SH, M, J, 0, 0)
noncomputable def k_Model_copy_29 (x1 : Int32) (x2 : Int32) (x3 : Int32) (y0 : Int32) (M : mMI) (J : mMJ) : Option mRs := mOut PG (181, 29, [some (.ref 46), some (.int x1), some (.int x2), some (.int x3), none], [(.int y0)], SH, M, J, 0, 0)
noncomputable def k_Model_copy_49 (x1 : Int32) (x2 : Int32) (x3 : Int32) (x4 : Int32) (y1 : Int32) (y2 : Int32) (M : mMI) (J : mMJ) : Option mRs := mOut PG (181, 49, [some (.ref 46), some (.int x1), some (.int x2), some (.int x3), some (.int x4)], [(.int y2), (.int y1), (.ref 62)], SH, M, J, 0, 0)
noncomputable def k_Model_copy_56 (x2 : Int32) (x3 : Int32) (y0 : Int32) (y1 : Int32) (M : mMI) (J : mMJ) : Option mRs := mOut PG (181, 56, [some (.ref 46), none, some (.int x2), some (.int x3), none], [(.int y1), (.int y0)], SH, M, J, 0, 0)
noncomputable def k_Model_toldMany  (M : mMI) (J : mMJ) : Option mRs := mOut PG (182, 0, [some (.ref 46), none, none], [], SH, M, J, 0, 0)
noncomputable def k_Model_toldMany_4 (x1 : Int32) (x2 : Int32) (M : mMI) (J : mMJ) : Option mRs := mOut PG (182, 4, [some (.ref 46), some (.int x1), some (.int x2)], [], SH, M, J, 0, 0)
noncomputable def k_Model_keep (x1 : Int32) (M : mMI) (J : mMJ) : Option mRs := mOut PG (183, 0, [some (.ref 46), some (.int x1), none], [], SH, M, J, 0, 0)
noncomputable def k_Model_keep_17 (x1 : Int32) (x2 : Int32) (M : mMI) (J : mMJ) : Option mRs := mOut PG (183, 17, [some (.ref 46), some (.int x1), some (.int x2)], [], SH, M, J, 0, 0)
noncomputable def k_Model_keep_36 (x1 : Int32) (x2 : Int32) (M : mMI) (J : mMJ) : Option mRs := mOut PG (183, 36, [some (.ref 46), some (.int x1), some (.int x2)], [], SH, M, J, 0, 0)
noncomputable def k_Model_keep_55 (x1 : Int32) (x2 : Int32) (M : mMI) (J : mMJ) : Option mRs := mOut PG (183, 55, [some (.ref 46), some (.int x1), some (.int x2)], [], SH, M, J, 0, 0)
noncomputable def k_Model_again (x1 : Int32) (M : mMI) (J : mMJ) : Option mRs := mOut PG (184, 0, [some (.ref 46), some (.int x1), none], [], SH, M, J, 0, 0)
noncomputable def k_Model_again_20 (x1 : Int32) (x2 : Int32) (M : mMI) (J : mMJ) : Option mRs := mOut PG (184, 20, [some (.ref 46), some (.int x1), some (.int x2)], [], SH, M, J, 0, 0)
noncomputable def k_Model_again_39 (x1 : Int32) (x2 : Int32) (M : mMI) (J : mMJ) : Option mRs := mOut PG (184, 39, [some (.ref 46), some (.int x1), some (.int x2)], [], SH, M, J, 0, 0)
noncomputable def k_Model_again_58 (x1 : Int32) (x2 : Int32) (M : mMI) (J : mMJ) : Option mRs := mOut PG (184, 58, [some (.ref 46), some (.int x1), some (.int x2)], [], SH, M, J, 0, 0)
noncomputable def k_Model_count (x1 : Int32) (M : mMI) (J : mMJ) : Option mRs := mOut PG (185, 0, [some (.ref 46), some (.int x1), none, none, none], [], SH, M, J, 0, 0)
noncomputable def k_Model_count_7 (x1 : Int32) (x2 : Int32) (x3 : Int32) (M : mMI) (J : mMJ) : Option mRs := mOut PG (185, 7, [some (.ref 46), some (.int x1), some (.int x2), some (.int x3), none], [], SH, M, J, 0, 0)
noncomputable def k_Model_count_29 (x1 : Int32) (x2 : Int32) (x3 : Int32) (x4 : Int32) (M : mMI) (J : mMJ) : Option mRs := mOut PG (185, 29, [some (.ref 46), some (.int x1), some (.int x2), some (.int x3), some (.int x4)], [], SH, M, J, 0, 0)
noncomputable def k_Model_count_42 (x1 : Int32) (x2 : Int32) (x4 : Int32) (y0 : Int32) (y1 : Int32) (M : mMI) (J : mMJ) : Option mRs := mOut PG (185, 42, [some (.ref 46), some (.int x1), some (.int x2), none, some (.int x4)], [(.int y1), (.int y0)], SH, M, J, 0, 0)
noncomputable def k_String_indexOf (g : Nat) (x1 : Int32) (M : mMI) (J : mMJ) : Option mRs := mOut PG (186, 0, [some (.ref (1000 + 10 * g)), some (.int x1)], [], SH, M, J, 0, 0)
noncomputable def k_String_indexFrom (g : Nat) (x1 : Int32) (x2 : Int32) (M : mMI) (J : mMJ) : Option mRs := mOut PG (187, 0, [some (.ref (1000 + 10 * g)), some (.int x1), some (.int x2)], [], SH, M, J, 0, 0)
noncomputable def k_String_isLatin1 (g : Nat)  (M : mMI) (J : mMJ) : Option mRs := mOut PG (188, 0, [some (.ref (1000 + 10 * g))], [], SH, M, J, 0, 0)
noncomputable def k_String_length (g : Nat)  (M : mMI) (J : mMJ) : Option mRs := mOut PG (189, 0, [some (.ref (1000 + 10 * g))], [], SH, M, J, 0, 0)
noncomputable def k_String_coder (g : Nat)  (M : mMI) (J : mMJ) : Option mRs := mOut PG (190, 0, [some (.ref (1000 + 10 * g))], [], SH, M, J, 0, 0)
noncomputable def k_Latin_canEncode (x0 : Int32) (M : mMI) (J : mMJ) : Option mRs := mOut PG (191, 0, [some (.int x0)], [], SH, M, J, 0, 0)
noncomputable def k_Latin_indexOf (g : Nat) (x1 : Int32) (x2 : Int32) (x3 : Int32) (M : mMI) (J : mMJ) : Option mRs := mOut PG (192, 0, [some (.ref (1000 + 10 * g + 1)), some (.int x1), some (.int x2), some (.int x3)], [], SH, M, J, 0, 0)
noncomputable def k_Latin_indexOfChar (g : Nat) (x1 : Int32) (x2 : Int32) (x3 : Int32) (M : mMI) (J : mMJ) : Option mRs := mOut PG (193, 0, [some (.ref (1000 + 10 * g + 1)), some (.int x1), some (.int x2), some (.int x3), none, none], [], SH, M, J, 0, 0)
noncomputable def k_Latin_indexOfChar_5 (g : Nat) (x3 : Int32) (x4 : Int32) (x5 : Int32) (M : mMI) (J : mMJ) : Option mRs := mOut PG (193, 5, [some (.ref (1000 + 10 * g + 1)), none, none, some (.int x3), some (.int x4), some (.int x5)], [], SH, M, J, 0, 0)
noncomputable def k_Integer_bitCount (x0 : Int32) (M : mMI) (J : mMJ) : Option mRs := mOut PG (194, 0, [some (.int x0)], [], SH, M, J, 0, 0)
noncomputable def k_Arrays_fill_T (s : Nat) (x1 : Int32) (M : mMI) (J : mMJ) : Option mRs := mOut PG (195, 0, [some (.ref (s + 5)), some (.int x1), none, none], [], SH, M, J, 0, 0)
noncomputable def k_Arrays_fill_T_5 (s : Nat) (x1 : Int32) (x2 : Int32) (x3 : Int32) (M : mMI) (J : mMJ) : Option mRs := mOut PG (195, 5, [some (.ref (s + 5)), some (.int x1), some (.int x2), some (.int x3)], [], SH, M, J, 0, 0)
noncomputable def k_Arrays_fill_O (s : Nat) (x1 : Int32) (M : mMI) (J : mMJ) : Option mRs := mOut PG (195, 0, [some (.ref (s + 6)), some (.int x1), none, none], [], SH, M, J, 0, 0)
noncomputable def k_Arrays_fill_O_5 (s : Nat) (x1 : Int32) (x2 : Int32) (x3 : Int32) (M : mMI) (J : mMJ) : Option mRs := mOut PG (195, 5, [some (.ref (s + 6)), some (.int x1), some (.int x2), some (.int x3)], [], SH, M, J, 0, 0)
noncomputable def k_Arrays_fill_B (x1 : Int32) (M : mMI) (J : mMJ) : Option mRs := mOut PG (195, 0, [some (.ref 36), some (.int x1), none, none], [], SH, M, J, 0, 0)
noncomputable def k_Arrays_fill_B_5 (x1 : Int32) (x2 : Int32) (x3 : Int32) (M : mMI) (J : mMJ) : Option mRs := mOut PG (195, 5, [some (.ref 36), some (.int x1), some (.int x2), some (.int x3)], [], SH, M, J, 0, 0)
noncomputable def k_Law_law_10 (x3 : Int32) (M : mMI) (J : mMJ) : Option mRs := mOut PG (196, 10, [some (.ref 1000), some (.ref 0), some (.ref 46), some (.int x3)], [], SH, M, J, 0, 0)
noncomputable def k_Law_law_831 (x3 : Int32) (M : mMI) (J : mMJ) : Option mRs := mOut PG (196, 831, [some (.ref 1000), some (.ref 0), some (.ref 46), some (.int x3)], [], SH, M, J, 0, 0)
noncomputable def k_Law_law_814 (x3 : Int32) (M : mMI) (J : mMJ) : Option mRs := mOut PG (196, 814, [some (.ref 1000), some (.ref 0), some (.ref 46), some (.int x3)], [], SH, M, J, 0, 0)
noncomputable def k_Law_law_797 (x3 : Int32) (M : mMI) (J : mMJ) : Option mRs := mOut PG (196, 797, [some (.ref 1000), some (.ref 0), some (.ref 46), some (.int x3)], [], SH, M, J, 0, 0)
noncomputable def k_Law_law_780 (x3 : Int32) (M : mMI) (J : mMJ) : Option mRs := mOut PG (196, 780, [some (.ref 1000), some (.ref 0), some (.ref 46), some (.int x3)], [], SH, M, J, 0, 0)
noncomputable def k_Law_law_773 (x3 : Int32) (M : mMI) (J : mMJ) : Option mRs := mOut PG (196, 773, [some (.ref 1000), some (.ref 0), some (.ref 46), some (.int x3)], [], SH, M, J, 0, 0)
noncomputable def k_Law_law_746 (x3 : Int32) (M : mMI) (J : mMJ) : Option mRs := mOut PG (196, 746, [some (.ref 1000), some (.ref 0), some (.ref 46), some (.int x3)], [], SH, M, J, 0, 0)
noncomputable def k_Law_law_729 (x3 : Int32) (M : mMI) (J : mMJ) : Option mRs := mOut PG (196, 729, [some (.ref 1000), some (.ref 0), some (.ref 46), some (.int x3)], [], SH, M, J, 0, 0)
noncomputable def k_Law_law_702 (x3 : Int32) (M : mMI) (J : mMJ) : Option mRs := mOut PG (196, 702, [some (.ref 1000), some (.ref 0), some (.ref 46), some (.int x3)], [], SH, M, J, 0, 0)
noncomputable def k_Law_law_665 (x3 : Int32) (M : mMI) (J : mMJ) : Option mRs := mOut PG (196, 665, [some (.ref 1000), some (.ref 0), some (.ref 46), some (.int x3)], [], SH, M, J, 0, 0)
noncomputable def k_Law_law_628 (x3 : Int32) (M : mMI) (J : mMJ) : Option mRs := mOut PG (196, 628, [some (.ref 1000), some (.ref 0), some (.ref 46), some (.int x3)], [], SH, M, J, 0, 0)
noncomputable def k_Law_law_611 (x3 : Int32) (M : mMI) (J : mMJ) : Option mRs := mOut PG (196, 611, [some (.ref 1000), some (.ref 0), some (.ref 46), some (.int x3)], [], SH, M, J, 0, 0)
noncomputable def k_Law_law_573 (x3 : Int32) (M : mMI) (J : mMJ) : Option mRs := mOut PG (196, 573, [some (.ref 1000), some (.ref 0), some (.ref 46), some (.int x3)], [], SH, M, J, 0, 0)
noncomputable def k_Law_law_546 (x3 : Int32) (M : mMI) (J : mMJ) : Option mRs := mOut PG (196, 546, [some (.ref 1000), some (.ref 0), some (.ref 46), some (.int x3)], [], SH, M, J, 0, 0)
noncomputable def k_Law_law_538 (x3 : Int32) (M : mMI) (J : mMJ) : Option mRs := mOut PG (196, 538, [some (.ref 1000), some (.ref 0), some (.ref 46), some (.int x3)], [], SH, M, J, 0, 0)
noncomputable def k_Law_law_531 (x3 : Int32) (M : mMI) (J : mMJ) : Option mRs := mOut PG (196, 531, [some (.ref 1000), some (.ref 0), some (.ref 46), some (.int x3)], [], SH, M, J, 0, 0)
noncomputable def k_Law_law_513 (x3 : Int32) (M : mMI) (J : mMJ) : Option mRs := mOut PG (196, 513, [some (.ref 1000), some (.ref 0), some (.ref 46), some (.int x3)], [], SH, M, J, 0, 0)
noncomputable def k_Law_law_506 (x3 : Int32) (M : mMI) (J : mMJ) : Option mRs := mOut PG (196, 506, [some (.ref 1000), some (.ref 0), some (.ref 46), some (.int x3)], [], SH, M, J, 0, 0)
noncomputable def k_Law_law_498 (x3 : Int32) (M : mMI) (J : mMJ) : Option mRs := mOut PG (196, 498, [some (.ref 1000), some (.ref 0), some (.ref 46), some (.int x3)], [], SH, M, J, 0, 0)
noncomputable def k_Law_law_491 (x3 : Int32) (M : mMI) (J : mMJ) : Option mRs := mOut PG (196, 491, [some (.ref 1000), some (.ref 0), some (.ref 46), some (.int x3)], [], SH, M, J, 0, 0)
noncomputable def k_Law_law_464 (x3 : Int32) (M : mMI) (J : mMJ) : Option mRs := mOut PG (196, 464, [some (.ref 1000), some (.ref 0), some (.ref 46), some (.int x3)], [], SH, M, J, 0, 0)
noncomputable def k_Law_law_447 (x3 : Int32) (M : mMI) (J : mMJ) : Option mRs := mOut PG (196, 447, [some (.ref 1000), some (.ref 0), some (.ref 46), some (.int x3)], [], SH, M, J, 0, 0)
noncomputable def k_Law_law_440 (x3 : Int32) (M : mMI) (J : mMJ) : Option mRs := mOut PG (196, 440, [some (.ref 1000), some (.ref 0), some (.ref 46), some (.int x3)], [], SH, M, J, 0, 0)
noncomputable def k_Law_law_433 (x3 : Int32) (M : mMI) (J : mMJ) : Option mRs := mOut PG (196, 433, [some (.ref 1000), some (.ref 0), some (.ref 46), some (.int x3)], [], SH, M, J, 0, 0)
noncomputable def k_Law_law_406 (x3 : Int32) (M : mMI) (J : mMJ) : Option mRs := mOut PG (196, 406, [some (.ref 1000), some (.ref 0), some (.ref 46), some (.int x3)], [], SH, M, J, 0, 0)
noncomputable def k_Law_law_370 (x3 : Int32) (M : mMI) (J : mMJ) : Option mRs := mOut PG (196, 370, [some (.ref 1000), some (.ref 0), some (.ref 46), some (.int x3)], [], SH, M, J, 0, 0)
noncomputable def k_Law_law_342 (x3 : Int32) (M : mMI) (J : mMJ) : Option mRs := mOut PG (196, 342, [some (.ref 1000), some (.ref 0), some (.ref 46), some (.int x3)], [], SH, M, J, 0, 0)
noncomputable def k_Law_law_325 (x3 : Int32) (M : mMI) (J : mMJ) : Option mRs := mOut PG (196, 325, [some (.ref 1000), some (.ref 0), some (.ref 46), some (.int x3)], [], SH, M, J, 0, 0)
noncomputable def k_Law_law_308 (x3 : Int32) (M : mMI) (J : mMJ) : Option mRs := mOut PG (196, 308, [some (.ref 1000), some (.ref 0), some (.ref 46), some (.int x3)], [], SH, M, J, 0, 0)
noncomputable def k_Law_law_271 (x3 : Int32) (M : mMI) (J : mMJ) : Option mRs := mOut PG (196, 271, [some (.ref 1000), some (.ref 0), some (.ref 46), some (.int x3)], [], SH, M, J, 0, 0)
noncomputable def k_Law_law_244 (x3 : Int32) (M : mMI) (J : mMJ) : Option mRs := mOut PG (196, 244, [some (.ref 1000), some (.ref 0), some (.ref 46), some (.int x3)], [], SH, M, J, 0, 0)
noncomputable def k_Law_law_227 (x3 : Int32) (M : mMI) (J : mMJ) : Option mRs := mOut PG (196, 227, [some (.ref 1000), some (.ref 0), some (.ref 46), some (.int x3)], [], SH, M, J, 0, 0)
noncomputable def k_Law_law_200 (x3 : Int32) (M : mMI) (J : mMJ) : Option mRs := mOut PG (196, 200, [some (.ref 1000), some (.ref 0), some (.ref 46), some (.int x3)], [], SH, M, J, 0, 0)
noncomputable def k_Law_law_163 (x3 : Int32) (M : mMI) (J : mMJ) : Option mRs := mOut PG (196, 163, [some (.ref 1000), some (.ref 0), some (.ref 46), some (.int x3)], [], SH, M, J, 0, 0)
noncomputable def k_Law_law_136 (x3 : Int32) (M : mMI) (J : mMJ) : Option mRs := mOut PG (196, 136, [some (.ref 1000), some (.ref 0), some (.ref 46), some (.int x3)], [], SH, M, J, 0, 0)
noncomputable def k_Law_law_119 (x3 : Int32) (M : mMI) (J : mMJ) : Option mRs := mOut PG (196, 119, [some (.ref 1000), some (.ref 0), some (.ref 46), some (.int x3)], [], SH, M, J, 0, 0)
noncomputable def k_Law_law_112 (x3 : Int32) (M : mMI) (J : mMJ) : Option mRs := mOut PG (196, 112, [some (.ref 1000), some (.ref 0), some (.ref 46), some (.int x3)], [], SH, M, J, 0, 0)
noncomputable def k_Law_law_105 (x3 : Int32) (M : mMI) (J : mMJ) : Option mRs := mOut PG (196, 105, [some (.ref 1000), some (.ref 0), some (.ref 46), some (.int x3)], [], SH, M, J, 0, 0)
noncomputable def k_Law_law_80 (x3 : Int32) (M : mMI) (J : mMJ) : Option mRs := mOut PG (196, 80, [some (.ref 1000), some (.ref 0), some (.ref 46), some (.int x3)], [], SH, M, J, 0, 0)
noncomputable def k_Law_law_73 (x3 : Int32) (M : mMI) (J : mMJ) : Option mRs := mOut PG (196, 73, [some (.ref 1000), some (.ref 0), some (.ref 46), some (.int x3)], [], SH, M, J, 0, 0)
noncomputable def k_Law_law_22 (x3 : Int32) (M : mMI) (J : mMJ) : Option mRs := mOut PG (196, 22, [some (.ref 1000), some (.ref 0), some (.ref 46), some (.int x3)], [], SH, M, J, 0, 0)
noncomputable def k_Law_law_401 (x3 : Int32) (y0 : Int64) (y2 : Int32) (y3 : Int32) (M : mMI) (J : mMJ) : Option mRs := mOut PG (196, 401, [some (.ref 1000), some (.ref 0), some (.ref 46), some (.int x3)], [(.int y3), (.int y2), (.ref 46), (.long y0)], SH, M, J, 0, 0)
noncomputable def k_Law_law_101 (x3 : Int32) (y0 : Int32) (y2 : Int32) (M : mMI) (J : mMJ) : Option mRs := mOut PG (196, 101, [some (.ref 1000), some (.ref 0), some (.ref 46), some (.int x3)], [(.int y2), (.ref 46), (.int y0)], SH, M, J, 0, 0)
end
section
/-! equations of the cuts: by wip/whole/sym.py -/
set_option maxRecDepth 20000 in
theorem e_Booe_toldBy (x1 : Int32) (x2 : Int32) (x3 : Int32) (M : mMI) (J : mMJ) : k_Book_toldBy x1 x2 x3 M J = (if ¬ (100 : Int32) = 0 then (if ¬ (100 : Int32) = 0 then (if (2 : Int32) ≤ (x1 / 100) then (if (1 : Int32) ≤ x3 then (if ¬ ((x1 / 100) : Int32) = 2 then (if mIn ((x2 * 8) + (x3 - 1)) 48 then (if ¬ ((M 36 ((x2 * 8) + (x3 - 1)).toNatClampNeg) : Int32) = (-9) then (rI (mMx 0 0 ((M 36 ((x2 * 8) + (x3 - 1)).toNatClampNeg) - (x1 - x1 / 100 * 100))) M J) else (rI (-9) M J)) else none) else (mBI (k_Book_meanOfOthers x2 (x3 - 1) M J) (fun v1 M1 J1 => (if ¬ (v1 : Int32) = (-9) then (rI (mMx 0 0 (v1 - (x1 - x1 / 100 * 100))) M1 J1) else (rI (-9) M1 J1))))) else (rI (-9) M J)) else (rI (x1 - x1 / 100 * 100) M J)) else none) else none) := (mDen_eq PG 300 (1, 0, [some (.ref 35), some (.int x1), some (.int x2), some (.int x3), none, none, none], [], SH, M, J, 0, 0)).symm.trans rfl
set_option maxRecDepth 20000 in
theorem e_Booe_countSlips (x1 : Int32) (x2 : Int32) (M : mMI) (J : mMJ) : k_Book_countSlips x1 x2 M J = (k_Book_countSlips_4 x1 x2 0 0 M J) := (mDen_eq PG 300 (2, 0, [some (.ref 35), some (.int x1), some (.int x2), none, none, none, none], [], SH, M, J, 0, 0)).symm.trans rfl
set_option maxRecDepth 20000 in
theorem e_Booe_countSlips_4 (x1 : Int32) (x2 : Int32) (x3 : Int32) (x4 : Int32) (M : mMI) (J : mMJ) : k_Book_countSlips_4 x1 x2 x3 x4 M J = (if (8 : Int32) ≤ x4 then (rI x3 M J) else (if mIn ((x2 * 8) + x4) 48 then (mBI (k_Book_toldBy x1 x2 x4 M J) (fun v1 M1 J1 => (if ((M 36 ((x2 * 8) + x4).toNatClampNeg) : Int32) = (-9) then (k_Book_countSlips_4 x1 x2 x3 (x4 + 1) M1 J1) else (if (v1 : Int32) = (-9) then (k_Book_countSlips_4 x1 x2 x3 (x4 + 1) M1 J1) else (if ((M 36 ((x2 * 8) + x4).toNatClampNeg) : Int32) = v1 then (k_Book_countSlips_4 x1 x2 x3 (x4 + 1) M1 J1) else (k_Book_countSlips_4 x1 x2 (x3 + 1) (x4 + 1) M1 J1)))))) else none)) := (mDen_eq PG 300 (2, 4, [some (.ref 35), some (.int x1), some (.int x2), some (.int x3), some (.int x4), none, none], [], SH, M, J, 0, 0)).symm.trans rfl
set_option maxRecDepth 20000 in
theorem e_Booe_bestSort (x1 : Int32) (M : mMI) (J : mMJ) : k_Book_bestSort x1 M J = (mBI (k_Book_countSlips 0 x1 M J) (fun v1 M1 J1 => (k_Book_bestSort_9 x1 0 v1 1 M1 J1))) := (mDen_eq PG 300 (3, 0, [some (.ref 35), some (.int x1), none, none, none, none], [], SH, M, J, 0, 0)).symm.trans rfl
set_option maxRecDepth 20000 in
theorem e_Booe_bestSort_9 (x1 : Int32) (x2 : Int32) (x3 : Int32) (x4 : Int32) (M : mMI) (J : mMJ) : k_Book_bestSort_9 x1 x2 x3 x4 M J = (if (42 : Int32) ≤ x4 then (rI x2 M J) else (mBI (k_Book_sortNumbered x4 M J) (fun v2 M2 J2 => (mBI (k_Book_countSlips v2 x1 M2 J2) (fun v3 M3 J3 => (if (x3 : Int32) ≤ v3 then (k_Book_bestSort_9 x1 x2 x3 (x4 + 1) M3 J3) else (mBI (k_Book_sortNumbered x4 M3 J3) (fun v4 M4 J4 => (k_Book_bestSort_9 x1 v4 v3 (x4 + 1) M4 J4))))))))) := (mDen_eq PG 300 (3, 9, [some (.ref 35), some (.int x1), some (.int x2), some (.int x3), some (.int x4), none], [], SH, M, J, 0, 0)).symm.trans rfl
set_option maxRecDepth 20000 in
theorem e_Booe_countSorts (x1 : Int32) (x2 : Int32) (M : mMI) (J : mMJ) : k_Book_countSorts x1 x2 M J = (k_Book_countSorts_4 x1 x2 0 0 M J) := (mDen_eq PG 300 (4, 0, [some (.ref 35), some (.int x1), some (.int x2), none, none], [], SH, M, J, 0, 0)).symm.trans rfl
set_option maxRecDepth 20000 in
theorem e_Booe_countSorts_4 (x1 : Int32) (x2 : Int32) (x3 : Int32) (x4 : Int32) (M : mMI) (J : mMJ) : k_Book_countSorts_4 x1 x2 x3 x4 M J = (if (42 : Int32) ≤ x4 then (rI x3 M J) else (mBI (k_Book_sortNumbered x4 M J) (fun v1 M1 J1 => (mBI (k_Book_countSlips v1 x1 M1 J1) (fun v2 M2 J2 => (if (x2 : Int32) < v2 then (k_Book_countSorts_4 x1 x2 x3 (x4 + 1) M2 J2) else (k_Book_countSorts_4 x1 x2 (x3 + 1) (x4 + 1) M2 J2))))))) := (mDen_eq PG 300 (4, 4, [some (.ref 35), some (.int x1), some (.int x2), some (.int x3), some (.int x4)], [], SH, M, J, 0, 0)).symm.trans rfl
set_option maxRecDepth 20000 in
theorem e_Booe_sortNumbered (x0 : Int32) (M : mMI) (J : mMJ) : k_Book_sortNumbered x0 M J = (if (1 : Int32) ≤ x0 then (if (22 : Int32) ≤ x0 then (if (32 : Int32) ≤ x0 then (rI ((300 + x0) - 32) M J) else (rI ((200 + x0) - 22) M J)) else (rI ((100 + x0) - 1) M J)) else (rI 0 M J)) := (mDen_eq PG 300 (5, 0, [some (.int x0)], [], SH, M, J, 0, 0)).symm.trans rfl
set_option maxRecDepth 20000 in
theorem e_Booe_meanOfOthers (x1 : Int32) (x2 : Int32) (M : mMI) (J : mMJ) : k_Book_meanOfOthers x1 x2 M J = (k_Book_meanOfOthers_6 x1 x2 0 0 0 M J) := (mDen_eq PG 300 (6, 0, [some (.ref 35), some (.int x1), some (.int x2), none, none, none, none], [], SH, M, J, 0, 0)).symm.trans rfl
set_option maxRecDepth 20000 in
theorem e_Booe_meanOfOthers_6 (x1 : Int32) (x2 : Int32) (x3 : Int32) (x4 : Int32) (x5 : Int32) (M : mMI) (J : mMJ) : k_Book_meanOfOthers_6 x1 x2 x3 x4 x5 M J = (if (6 : Int32) ≤ x5 then (if (x4 : Int32) ≤ 0 then (rI (-9) M J) else (mBI (k_Pot_meanOf x3 x4 M J) (fun v1 M1 J1 => (rI v1 M1 J1)))) else (if mIn ((x5 * 8) + x2) 48 then (if (x5 : Int32) = x1 then (k_Book_meanOfOthers_6 x1 x2 x3 x4 (x5 + 1) M J) else (if ((M 36 ((x5 * 8) + x2).toNatClampNeg) : Int32) = (-9) then (k_Book_meanOfOthers_6 x1 x2 x3 x4 (x5 + 1) M J) else (k_Book_meanOfOthers_6 x1 x2 (x3 + (M 36 ((x5 * 8) + x2).toNatClampNeg)) (x4 + 1) (x5 + 1) M J))) else none)) := (mDen_eq PG 300 (6, 6, [some (.ref 35), some (.int x1), some (.int x2), some (.int x3), some (.int x4), some (.int x5), none], [], SH, M, J, 0, 0)).symm.trans rfl
set_option maxRecDepth 20000 in
theorem e_Course_runAll (s : Nat) (hs : s = 7 ∨ s = 21)  (M : mMI) (J : mMJ) : k_Course_runAll s M J = (k_Course_runAll_2 s 0 M J) := by
  rcases hs with rfl | rfl
  · exact (mDen_eq PG 300 (8, 0, [some (.ref (7 + 7)), none], [], SH, M, J, 0, 0)).symm.trans rfl
  · exact (mDen_eq PG 300 (8, 0, [some (.ref (21 + 7)), none], [], SH, M, J, 0, 0)).symm.trans rfl
set_option maxRecDepth 20000 in
theorem e_Course_runAll_2 (s : Nat) (hs : s = 7 ∨ s = 21) (x1 : Int32) (M : mMI) (J : mMJ) : k_Course_runAll_2 s x1 M J = (if (40 : Int32) ≤ x1 then (rV M J) else (mBR (k_Course_putAll s x1 M J) 0 (fun M1 J1 => (mBR (k_Course_lookAt s x1 (-9) 0 M1 J1) 0 (fun M2 J2 => (if mIn x1 40 then (mBR (k_Course_payAll s x1 (mUp M2 (s + 12) x1.toNatClampNeg (M2 (s + 7) 7)) J2) 0 (fun M3 J3 => (mBR (k_Course_settleAll s x1 M3 J3) 0 (fun M4 J4 => (k_Course_runAll_2 s (x1 + 1) M4 J4))))) else none)))))) := by
  rcases hs with rfl | rfl
  · exact (mDen_eq PG 300 (8, 2, [some (.ref (7 + 7)), some (.int x1)], [], SH, M, J, 0, 0)).symm.trans rfl
  · exact (mDen_eq PG 300 (8, 2, [some (.ref (21 + 7)), some (.int x1)], [], SH, M, J, 0, 0)).symm.trans rfl
set_option maxRecDepth 20000 in
theorem e_Course_heldByAll (s : Nat) (hs : s = 7 ∨ s = 21) (x1 : Int32) (M : mMI) (J : mMJ) : k_Course_heldByAll s x1 M J = (k_Course_heldByAll_4 s x1 0 0 M J) := by
  rcases hs with rfl | rfl
  · exact (mDen_eq PG 300 (9, 0, [some (.ref (7 + 7)), some (.int x1), none, none, none], [], SH, M, J, 0, 0)).symm.trans rfl
  · exact (mDen_eq PG 300 (9, 0, [some (.ref (21 + 7)), some (.int x1), none, none, none], [], SH, M, J, 0, 0)).symm.trans rfl
set_option maxRecDepth 20000 in
theorem e_Course_heldByAll_4 (s : Nat) (hs : s = 7 ∨ s = 21) (x1 : Int32) (x2 : Int64) (x4 : Int32) (M : mMI) (J : mMJ) : k_Course_heldByAll_4 s x1 x2 x4 M J = (if ((M s 1) : Int32) ≤ x4 then (rJ x2 M J) else (if mIn ((x1 * 6) + x4) 240 then (k_Course_heldByAll_4 s x1 (x2 + (J (s + 11) ((x1 * 6) + x4).toNatClampNeg)) (x4 + 1) M J) else none)) := by
  rcases hs with rfl | rfl
  · exact (mDen_eq PG 300 (9, 4, [some (.ref (7 + 7)), some (.int x1), some (.long x2), none, some (.int x4)], [], SH, M, J, 0, 0)).symm.trans rfl
  · exact (mDen_eq PG 300 (9, 4, [some (.ref (21 + 7)), some (.int x1), some (.long x2), none, some (.int x4)], [], SH, M, J, 0, 0)).symm.trans rfl
set_option maxRecDepth 20000 in
theorem e_Course_gotBy (s : Nat) (hs : s = 7 ∨ s = 21) (x1 : Int32) (x2 : Int32) (x3 : Int32) (M : mMI) (J : mMJ) : k_Course_gotBy s x1 x2 x3 M J = (mBR (k_Course_lookAt s x2 x1 x3 M J) 0 (fun M1 J1 => (k_Course_gotBy_9 s x1 x2 0 0 M1 J1))) := by
  rcases hs with rfl | rfl
  · exact (mDen_eq PG 300 (10, 0, [some (.ref (7 + 7)), some (.int x1), some (.int x2), some (.int x3), none, none, none], [], SH, M, J, 0, 0)).symm.trans rfl
  · exact (mDen_eq PG 300 (10, 0, [some (.ref (21 + 7)), some (.int x1), some (.int x2), some (.int x3), none, none, none], [], SH, M, J, 0, 0)).symm.trans rfl
set_option maxRecDepth 20000 in
theorem e_Course_gotBy_9 (s : Nat) (hs : s = 7 ∨ s = 21) (x1 : Int32) (x2 : Int32) (x4 : Int64) (x6 : Int32) (M : mMI) (J : mMJ) : k_Course_gotBy_9 s x1 x2 x4 x6 M J = (if ((M s 1) : Int32) ≤ x6 then (mBJ (k_Course_gotFromPot s x1 M J) (fun v2 M2 J2 => (rJ (v2 - (600 * x4)) M2 J2))) else (mBI (k_Course_dueFrom s x1 x6 x2 M J) (fun v3 M3 J3 => (mBI (k_Course_dueFrom s x6 x1 x2 M3 J3) (fun v4 M4 J4 => (mBI (k_Course_lossBetween s v3 v4 M4 J4) (fun v5 M5 J5 => (k_Course_gotBy_9 s x1 x2 (x4 + v5.toInt64) (x6 + 1) M5 J5)))))))) := by
  rcases hs with rfl | rfl
  · exact (mDen_eq PG 300 (10, 9, [some (.ref (7 + 7)), some (.int x1), some (.int x2), none, some (.long x4), none, some (.int x6)], [], SH, M, J, 0, 0)).symm.trans rfl
  · exact (mDen_eq PG 300 (10, 9, [some (.ref (21 + 7)), some (.int x1), some (.int x2), none, some (.long x4), none, some (.int x6)], [], SH, M, J, 0, 0)).symm.trans rfl
set_option maxRecDepth 20000 in
theorem e_Course_bestPut (s : Nat) (hs : s = 7 ∨ s = 21) (x1 : Int32) (x2 : Int32) (M : mMI) (J : mMJ) : k_Course_bestPut s x1 x2 M J = (mBJ (k_Course_gotBy s x1 x2 0 M J) (fun v1 M1 J1 => (k_Course_bestPut_10 s x1 x2 0 v1 1 M1 J1))) := by
  rcases hs with rfl | rfl
  · exact (mDen_eq PG 300 (11, 0, [some (.ref (7 + 7)), some (.int x1), some (.int x2), none, none, none, none, none, none], [], SH, M, J, 0, 0)).symm.trans rfl
  · exact (mDen_eq PG 300 (11, 0, [some (.ref (21 + 7)), some (.int x1), some (.int x2), none, none, none, none, none, none], [], SH, M, J, 0, 0)).symm.trans rfl
set_option maxRecDepth 20000 in
theorem e_Course_bestPut_10 (s : Nat) (hs : s = 7 ∨ s = 21) (x1 : Int32) (x2 : Int32) (x3 : Int32) (x4 : Int64) (x6 : Int32) (M : mMI) (J : mMJ) : k_Course_bestPut_10 s x1 x2 x3 x4 x6 M J = (if mIn 0 4 then (if ((M (s + 1) (0 : Int32).toNatClampNeg) : Int32) < x6 then (rI x3 M J) else (mBJ (k_Course_gotBy s x1 x2 x6 M J) (fun v2 M2 J2 => (if ((lg_cmp v2 x4) : Int32) ≤ 0 then (k_Course_bestPut_10 s x1 x2 x3 x4 (x6 + 1) M2 J2) else (k_Course_bestPut_10 s x1 x2 x6 v2 (x6 + 1) M2 J2))))) else none) := by
  rcases hs with rfl | rfl
  · exact (mDen_eq PG 300 (11, 10, [some (.ref (7 + 7)), some (.int x1), some (.int x2), some (.int x3), some (.long x4), none, some (.int x6), none, none], [], SH, M, J, 0, 0)).symm.trans rfl
  · exact (mDen_eq PG 300 (11, 10, [some (.ref (21 + 7)), some (.int x1), some (.int x2), some (.int x3), some (.long x4), none, some (.int x6), none, none], [], SH, M, J, 0, 0)).symm.trans rfl
set_option maxRecDepth 20000 in
theorem e_Course_isAtRest (s : Nat) (hs : s = 7 ∨ s = 21) (x1 : Int32) (M : mMI) (J : mMJ) : k_Course_isAtRest s x1 M J = (k_Course_isAtRest_2 s x1 0 M J) := by
  rcases hs with rfl | rfl
  · exact (mDen_eq PG 300 (12, 0, [some (.ref (7 + 7)), some (.int x1), none, none, none], [], SH, M, J, 0, 0)).symm.trans rfl
  · exact (mDen_eq PG 300 (12, 0, [some (.ref (21 + 7)), some (.int x1), none, none, none], [], SH, M, J, 0, 0)).symm.trans rfl
set_option maxRecDepth 20000 in
theorem e_Course_isAtRest_2 (s : Nat) (hs : s = 7 ∨ s = 21) (x1 : Int32) (x2 : Int32) (M : mMI) (J : mMJ) : k_Course_isAtRest_2 s x1 x2 M J = (if ((M s 1) : Int32) ≤ x2 then (rZ 1 M J) else (mBI (k_Setup_isIn s x2 x1 M J) (fun v1 M1 J1 => (if (v1 : Int32) = 0 then (k_Course_isAtRest_2 s x1 (x2 + 1) M1 J1) else (mBI (k_Course_bestPut s x2 x1 M1 J1) (fun v2 M2 J2 => (mBJ (k_Course_gotBy s x2 x1 v2 M2 J2) (fun v3 M3 J3 => (if mIn ((x1 * 6) + x2) 240 then (mBJ (k_Course_gotBy s x2 x1 (M3 (s + 8) ((x1 * 6) + x2).toNatClampNeg) M3 J3) (fun v4 M4 J4 => (if ((lg_cmp v3 v4) : Int32) ≤ 0 then (k_Course_isAtRest_2 s x1 (x2 + 1) M4 J4) else (rZ 0 M4 J4)))) else none))))))))) := by
  rcases hs with rfl | rfl
  · exact (mDen_eq PG 300 (12, 2, [some (.ref (7 + 7)), some (.int x1), some (.int x2), none, none], [], SH, M, J, 0, 0)).symm.trans rfl
  · exact (mDen_eq PG 300 (12, 2, [some (.ref (21 + 7)), some (.int x1), some (.int x2), none, none], [], SH, M, J, 0, 0)).symm.trans rfl
set_option maxRecDepth 20000 in
theorem e_Course_putAll (s : Nat) (hs : s = 7 ∨ s = 21) (x1 : Int32) (M : mMI) (J : mMJ) : k_Course_putAll s x1 M J = (k_Course_putAll_2 s x1 0 M J) := by
  rcases hs with rfl | rfl
  · exact (mDen_eq PG 300 (13, 0, [some (.ref (7 + 7)), some (.int x1), none, none, none, none], [], SH, M, J, 0, 0)).symm.trans rfl
  · exact (mDen_eq PG 300 (13, 0, [some (.ref (21 + 7)), some (.int x1), none, none, none, none], [], SH, M, J, 0, 0)).symm.trans rfl
set_option maxRecDepth 20000 in
theorem e_Course_putAll_2 (s : Nat) (hs : s = 7 ∨ s = 21) (x1 : Int32) (x2 : Int32) (M : mMI) (J : mMJ) : k_Course_putAll_2 s x1 x2 M J = (if ((M s 1) : Int32) ≤ x2 then (rV M J) else (mBI (k_Setup_isIn s x2 x1 M J) (fun v1 M1 J1 => (if (v1 : Int32) = 0 then (if mIn ((x1 * 6) + x2) 240 then (k_Course_putAll_2 s x1 (x2 + 1) (mUp M1 (s + 8) ((x1 * 6) + x2).toNatClampNeg (-9)) J1) else none) else (if mIn ((x1 * 6) + x2) 240 then (if ¬ ((M1 (s + 5) ((x1 * 6) + x2).toNatClampNeg) : Int32) = (-9) then (if mIn 0 4 then (if mIn ((x1 * 6) + x2) 240 then (k_Course_putAll_2 s x1 (x2 + 1) (mUp M1 (s + 8) ((x1 * 6) + x2).toNatClampNeg (mMx 0 0 (mMx 1 (M1 (s + 5) ((x1 * 6) + x2).toNatClampNeg) (M1 (s + 1) (0 : Int32).toNatClampNeg)))) J1) else none) else none) else (mBI (k_Course_usualPut s x2 x1 M1 J1) (fun v2 M2 J2 => (if mIn 0 4 then (if mIn ((x1 * 6) + x2) 240 then (k_Course_putAll_2 s x1 (x2 + 1) (mUp M2 (s + 8) ((x1 * 6) + x2).toNatClampNeg (mMx 0 0 (mMx 1 v2 (M2 (s + 1) (0 : Int32).toNatClampNeg)))) J2) else none) else none)))) else none))))) := by
  rcases hs with rfl | rfl
  · exact (mDen_eq PG 300 (13, 2, [some (.ref (7 + 7)), some (.int x1), some (.int x2), none, none, none], [], SH, M, J, 0, 0)).symm.trans rfl
  · exact (mDen_eq PG 300 (13, 2, [some (.ref (21 + 7)), some (.int x1), some (.int x2), none, none, none], [], SH, M, J, 0, 0)).symm.trans rfl
set_option maxRecDepth 20000 in
theorem e_Course_usualPut (s : Nat) (hs : s = 7 ∨ s = 21) (x1 : Int32) (x2 : Int32) (M : mMI) (J : mMJ) : k_Course_usualPut s x1 x2 M J = (if mIn x1 6 then (if ¬ ((M (s + 2) x1.toNatClampNeg) : Int32) = 0 then (if ¬ ((M (s + 2) x1.toNatClampNeg) : Int32) = 1 then (if (1 : Int32) ≤ x2 then (if ((M (s + 2) x1.toNatClampNeg) : Int32) = 6 then (if mIn (((x2 - 1) * 6) + x1) 240 then (if mIn 2 4 then (mBI (k_Course_paidToFine s x1 (x2 - 1) M J) (fun v1 M1 J1 => (if (((M (s + 1) (2 : Int32).toNatClampNeg) * v1) : Int32) ≤ 0 then (if mIn x1 6 then (rI ((M (s + 8) (((x2 - 1) * 6) + x1).toNatClampNeg) - (M1 (s + 3) x1.toNatClampNeg)) M1 J1) else none) else (rI ((M (s + 8) (((x2 - 1) * 6) + x1).toNatClampNeg) + ((M (s + 1) (2 : Int32).toNatClampNeg) * v1)) M1 J1)))) else none) else none) else (mBI (k_Course_meanOfOthersBefore s x1 x2 M J) (fun v2 M2 J2 => (if mIn x1 6 then (rI (v2 - (M2 (s + 3) x1.toNatClampNeg)) M2 J2) else none)))) else (if mIn 0 4 then (if ¬ (2 : Int32) = 0 then (rI ((M (s + 1) (0 : Int32).toNatClampNeg) / 2) M J) else none) else none)) else (rI 0 M J)) else (if mIn x1 6 then (rI (M (s + 3) x1.toNatClampNeg) M J) else none)) else none) := by
  rcases hs with rfl | rfl
  · exact (mDen_eq PG 300 (14, 0, [some (.ref (7 + 7)), some (.int x1), some (.int x2), none, none, none], [], SH, M, J, 0, 0)).symm.trans rfl
  · exact (mDen_eq PG 300 (14, 0, [some (.ref (21 + 7)), some (.int x1), some (.int x2), none, none, none], [], SH, M, J, 0, 0)).symm.trans rfl
set_option maxRecDepth 20000 in
theorem e_Course_meanOfOthersBefore (s : Nat) (hs : s = 7 ∨ s = 21) (x1 : Int32) (x2 : Int32) (M : mMI) (J : mMJ) : k_Course_meanOfOthersBefore s x1 x2 M J = (k_Course_meanOfOthersBefore_6 s x1 x2 0 0 0 M J) := by
  rcases hs with rfl | rfl
  · exact (mDen_eq PG 300 (15, 0, [some (.ref (7 + 7)), some (.int x1), some (.int x2), none, none, none], [], SH, M, J, 0, 0)).symm.trans rfl
  · exact (mDen_eq PG 300 (15, 0, [some (.ref (21 + 7)), some (.int x1), some (.int x2), none, none, none], [], SH, M, J, 0, 0)).symm.trans rfl
set_option maxRecDepth 20000 in
theorem e_Course_meanOfOthersBefore_6 (s : Nat) (hs : s = 7 ∨ s = 21) (x1 : Int32) (x2 : Int32) (x3 : Int32) (x4 : Int32) (x5 : Int32) (M : mMI) (J : mMJ) : k_Course_meanOfOthersBefore_6 s x1 x2 x3 x4 x5 M J = (if ((M s 1) : Int32) ≤ x5 then (mBI (k_Pot_meanOf x3 x4 M J) (fun v1 M1 J1 => (rI v1 M1 J1))) else (if (x5 : Int32) = x1 then (k_Course_meanOfOthersBefore_6 s x1 x2 x3 x4 (x5 + 1) M J) else (mBI (k_Setup_isIn s x5 x2 M J) (fun v2 M2 J2 => (if (v2 : Int32) = 0 then (k_Course_meanOfOthersBefore_6 s x1 x2 x3 x4 (x5 + 1) M2 J2) else (if mIn (((x2 - 1) * 6) + x5) 240 then (k_Course_meanOfOthersBefore_6 s x1 x2 (x3 + (M2 (s + 8) (((x2 - 1) * 6) + x5).toNatClampNeg)) (x4 + 1) (x5 + 1) M2 J2) else none)))))) := by
  rcases hs with rfl | rfl
  · exact (mDen_eq PG 300 (15, 6, [some (.ref (7 + 7)), some (.int x1), some (.int x2), some (.int x3), some (.int x4), some (.int x5)], [], SH, M, J, 0, 0)).symm.trans rfl
  · exact (mDen_eq PG 300 (15, 6, [some (.ref (21 + 7)), some (.int x1), some (.int x2), some (.int x3), some (.int x4), some (.int x5)], [], SH, M, J, 0, 0)).symm.trans rfl
set_option maxRecDepth 20000 in
theorem e_Course_paidToFine (s : Nat) (hs : s = 7 ∨ s = 21) (x1 : Int32) (x2 : Int32) (M : mMI) (J : mMJ) : k_Course_paidToFine s x1 x2 M J = (k_Course_paidToFine_4 s x1 x2 0 0 M J) := by
  rcases hs with rfl | rfl
  · exact (mDen_eq PG 300 (16, 0, [some (.ref (7 + 7)), some (.int x1), some (.int x2), none, none], [], SH, M, J, 0, 0)).symm.trans rfl
  · exact (mDen_eq PG 300 (16, 0, [some (.ref (21 + 7)), some (.int x1), some (.int x2), none, none], [], SH, M, J, 0, 0)).symm.trans rfl
set_option maxRecDepth 20000 in
theorem e_Course_paidToFine_4 (s : Nat) (hs : s = 7 ∨ s = 21) (x1 : Int32) (x2 : Int32) (x3 : Int32) (x4 : Int32) (M : mMI) (J : mMJ) : k_Course_paidToFine_4 s x1 x2 x3 x4 M J = (if ((M s 1) : Int32) ≤ x4 then (rI x3 M J) else (if mIn ((((x2 * 6) + x4) * 6) + x1) 1440 then (k_Course_paidToFine_4 s x1 x2 (x3 + (M (s + 9) ((((x2 * 6) + x4) * 6) + x1).toNatClampNeg)) (x4 + 1) M J) else none)) := by
  rcases hs with rfl | rfl
  · exact (mDen_eq PG 300 (16, 4, [some (.ref (7 + 7)), some (.int x1), some (.int x2), some (.int x3), some (.int x4)], [], SH, M, J, 0, 0)).symm.trans rfl
  · exact (mDen_eq PG 300 (16, 4, [some (.ref (21 + 7)), some (.int x1), some (.int x2), some (.int x3), some (.int x4)], [], SH, M, J, 0, 0)).symm.trans rfl
set_option maxRecDepth 20000 in
theorem e_Course_paidBy (s : Nat) (hs : s = 7 ∨ s = 21) (x1 : Int32) (x2 : Int32) (M : mMI) (J : mMJ) : k_Course_paidBy s x1 x2 M J = (k_Course_paidBy_4 s x1 x2 0 0 M J) := by
  rcases hs with rfl | rfl
  · exact (mDen_eq PG 300 (17, 0, [some (.ref (7 + 7)), some (.int x1), some (.int x2), none, none], [], SH, M, J, 0, 0)).symm.trans rfl
  · exact (mDen_eq PG 300 (17, 0, [some (.ref (21 + 7)), some (.int x1), some (.int x2), none, none], [], SH, M, J, 0, 0)).symm.trans rfl
set_option maxRecDepth 20000 in
theorem e_Course_paidBy_4 (s : Nat) (hs : s = 7 ∨ s = 21) (x1 : Int32) (x2 : Int32) (x3 : Int32) (x4 : Int32) (M : mMI) (J : mMJ) : k_Course_paidBy_4 s x1 x2 x3 x4 M J = (if ((M s 1) : Int32) ≤ x4 then (rI x3 M J) else (if mIn ((((x2 * 6) + x1) * 6) + x4) 1440 then (k_Course_paidBy_4 s x1 x2 (x3 + (M (s + 9) ((((x2 * 6) + x1) * 6) + x4).toNatClampNeg)) (x4 + 1) M J) else none)) := by
  rcases hs with rfl | rfl
  · exact (mDen_eq PG 300 (17, 4, [some (.ref (7 + 7)), some (.int x1), some (.int x2), some (.int x3), some (.int x4)], [], SH, M, J, 0, 0)).symm.trans rfl
  · exact (mDen_eq PG 300 (17, 4, [some (.ref (21 + 7)), some (.int x1), some (.int x2), some (.int x3), some (.int x4)], [], SH, M, J, 0, 0)).symm.trans rfl
set_option maxRecDepth 20000 in
theorem e_Course_lookAt (s : Nat) (hs : s = 7 ∨ s = 21) (x1 : Int32) (x2 : Int32) (x3 : Int32) (M : mMI) (J : mMJ) : k_Course_lookAt s x1 x2 x3 M J = (k_Course_lookAt_8 s x1 x2 x3 0 (mUp (mUp M (s + 7) 7 0) (s + 7) 8 0) J) := by
  rcases hs with rfl | rfl
  · exact (mDen_eq PG 300 (18, 0, [some (.ref (7 + 7)), some (.int x1), some (.int x2), some (.int x3), none], [], SH, M, J, 0, 0)).symm.trans rfl
  · exact (mDen_eq PG 300 (18, 0, [some (.ref (21 + 7)), some (.int x1), some (.int x2), some (.int x3), none], [], SH, M, J, 0, 0)).symm.trans rfl
set_option maxRecDepth 20000 in
theorem e_Course_lookAt_8 (s : Nat) (hs : s = 7 ∨ s = 21) (x1 : Int32) (x2 : Int32) (x3 : Int32) (x4 : Int32) (M : mMI) (J : mMJ) : k_Course_lookAt_8 s x1 x2 x3 x4 M J = (if ((M s 1) : Int32) ≤ x4 then (mBI (k_Pot_meanOf (M (s + 7) 7) (M (s + 7) 8) M J) (fun v1 M1 J1 => (rV (mUp M1 (s + 7) 9 v1) J1))) else (if ¬ (x4 : Int32) = x2 then (if mIn ((x1 * 6) + x4) 240 then (if mIn x4 6 then (if mIn x4 6 then (if (((mUp M (s + 13) x4.toNatClampNeg (M (s + 8) ((x1 * 6) + x4).toNatClampNeg)) (s + 13) x4.toNatClampNeg) : Int32) = (-9) then (k_Course_lookAt_8 s x1 x2 x3 (x4 + 1) (mUp M (s + 13) x4.toNatClampNeg (M (s + 8) ((x1 * 6) + x4).toNatClampNeg)) J) else (if mIn x4 6 then (k_Course_lookAt_8 s x1 x2 x3 (x4 + 1) (mUp (mUp (mUp M (s + 13) x4.toNatClampNeg (M (s + 8) ((x1 * 6) + x4).toNatClampNeg)) (s + 7) 7 ((M (s + 7) 7) + ((mUp M (s + 13) x4.toNatClampNeg (M (s + 8) ((x1 * 6) + x4).toNatClampNeg)) (s + 13) x4.toNatClampNeg))) (s + 7) 8 ((M (s + 7) 8) + 1)) J) else none)) else none) else none) else none) else (if mIn x4 6 then (if mIn x4 6 then (if (((mUp M (s + 13) x4.toNatClampNeg x3) (s + 13) x4.toNatClampNeg) : Int32) = (-9) then (k_Course_lookAt_8 s x1 x2 x3 (x4 + 1) (mUp M (s + 13) x4.toNatClampNeg x3) J) else (if mIn x4 6 then (k_Course_lookAt_8 s x1 x2 x3 (x4 + 1) (mUp (mUp (mUp M (s + 13) x4.toNatClampNeg x3) (s + 7) 7 ((M (s + 7) 7) + ((mUp M (s + 13) x4.toNatClampNeg x3) (s + 13) x4.toNatClampNeg))) (s + 7) 8 ((M (s + 7) 8) + 1)) J) else none)) else none) else none))) := by
  rcases hs with rfl | rfl
  · exact (mDen_eq PG 300 (18, 8, [some (.ref (7 + 7)), some (.int x1), some (.int x2), some (.int x3), some (.int x4)], [], SH, M, J, 0, 0)).symm.trans rfl
  · exact (mDen_eq PG 300 (18, 8, [some (.ref (21 + 7)), some (.int x1), some (.int x2), some (.int x3), some (.int x4)], [], SH, M, J, 0, 0)).symm.trans rfl
set_option maxRecDepth 20000 in
theorem e_Course_payAll (s : Nat) (hs : s = 7 ∨ s = 21) (x1 : Int32) (M : mMI) (J : mMJ) : k_Course_payAll s x1 M J = (k_Course_payAll_2 s x1 0 M J) := by
  rcases hs with rfl | rfl
  · exact (mDen_eq PG 300 (19, 0, [some (.ref (7 + 7)), some (.int x1), none, none], [], SH, M, J, 0, 0)).symm.trans rfl
  · exact (mDen_eq PG 300 (19, 0, [some (.ref (21 + 7)), some (.int x1), none, none], [], SH, M, J, 0, 0)).symm.trans rfl
set_option maxRecDepth 20000 in
theorem e_Course_payAll_2 (s : Nat) (hs : s = 7 ∨ s = 21) (x1 : Int32) (x2 : Int32) (M : mMI) (J : mMJ) : k_Course_payAll_2 s x1 x2 M J = (if ((M s 1) : Int32) ≤ x2 then (rV M J) else (k_Course_payAll_9 s x1 x2 0 M J)) := by
  rcases hs with rfl | rfl
  · exact (mDen_eq PG 300 (19, 2, [some (.ref (7 + 7)), some (.int x1), some (.int x2), none], [], SH, M, J, 0, 0)).symm.trans rfl
  · exact (mDen_eq PG 300 (19, 2, [some (.ref (21 + 7)), some (.int x1), some (.int x2), none], [], SH, M, J, 0, 0)).symm.trans rfl
set_option maxRecDepth 20000 in
theorem e_Course_payAll_9 (s : Nat) (hs : s = 7 ∨ s = 21) (x1 : Int32) (x2 : Int32) (x3 : Int32) (M : mMI) (J : mMJ) : k_Course_payAll_9 s x1 x2 x3 M J = (if ((M s 1) : Int32) ≤ x3 then (k_Course_payAll_2 s x1 (x2 + 1) M J) else (mBI (k_Course_dueFrom s x2 x3 x1 M J) (fun v1 M1 J1 => (if mIn ((((x1 * 6) + x2) * 6) + x3) 1440 then (k_Course_payAll_9 s x1 x2 (x3 + 1) (mUp M1 (s + 9) ((((x1 * 6) + x2) * 6) + x3).toNatClampNeg v1) J1) else none)))) := by
  rcases hs with rfl | rfl
  · exact (mDen_eq PG 300 (19, 9, [some (.ref (7 + 7)), some (.int x1), some (.int x2), some (.int x3)], [], SH, M, J, 0, 0)).symm.trans rfl
  · exact (mDen_eq PG 300 (19, 9, [some (.ref (21 + 7)), some (.int x1), some (.int x2), some (.int x3)], [], SH, M, J, 0, 0)).symm.trans rfl
set_option maxRecDepth 20000 in
theorem e_Course_settleAll (s : Nat) (hs : s = 7 ∨ s = 21) (x1 : Int32) (M : mMI) (J : mMJ) : k_Course_settleAll s x1 M J = (k_Course_settleAll_2 s x1 0 M J) := by
  rcases hs with rfl | rfl
  · exact (mDen_eq PG 300 (20, 0, [some (.ref (7 + 7)), some (.int x1), none, none, none, none, none], [], SH, M, J, 0, 0)).symm.trans rfl
  · exact (mDen_eq PG 300 (20, 0, [some (.ref (21 + 7)), some (.int x1), none, none, none, none, none], [], SH, M, J, 0, 0)).symm.trans rfl
set_option maxRecDepth 20000 in
theorem e_Course_settleAll_2 (s : Nat) (hs : s = 7 ∨ s = 21) (x1 : Int32) (x2 : Int32) (M : mMI) (J : mMJ) : k_Course_settleAll_2 s x1 x2 M J = (if ((M s 1) : Int32) ≤ x2 then (rV M J) else (if mIn x2 6 then (if ((M (s + 13) x2.toNatClampNeg) : Int32) = (-9) then (if (x1 : Int32) ≤ 0 then (k_Course_settleAll_57 s x1 x2 ((x1 * 6) + x2) 0 ((x1 * 6) + x2) 0 0 M J) else (if mIn (((x1 - 1) * 6) + x2) 240 then (k_Course_settleAll_57 s x1 x2 ((x1 * 6) + x2) 0 ((x1 * 6) + x2) 0 (J (s + 11) (((x1 - 1) * 6) + x2).toNatClampNeg) M J) else none)) else (mBI (k_Course_paidBy s x2 x1 M J) (fun v1 M1 J1 => (mBI (k_Course_paidToFine s x2 x1 M1 J1) (fun v2 M2 J2 => (mBI (k_Course_lossBetween s v1 v2 M2 J2) (fun v3 M3 J3 => (mBJ (k_Course_gotFromPot s x2 M3 J3) (fun v4 M4 J4 => (if (x1 : Int32) ≤ 0 then (k_Course_settleAll_57 s x1 x2 ((x1 * 6) + x2) v3 ((x1 * 6) + x2) (v4 - (600 * v3.toInt64)) 0 M4 J4) else (if mIn (((x1 - 1) * 6) + x2) 240 then (k_Course_settleAll_57 s x1 x2 ((x1 * 6) + x2) v3 ((x1 * 6) + x2) (v4 - (600 * v3.toInt64)) (J4 (s + 11) (((x1 - 1) * 6) + x2).toNatClampNeg) M4 J4) else none))))))))))) else none)) := by
  rcases hs with rfl | rfl
  · exact (mDen_eq PG 300 (20, 2, [some (.ref (7 + 7)), some (.int x1), some (.int x2), none, none, none, none], [], SH, M, J, 0, 0)).symm.trans rfl
  · exact (mDen_eq PG 300 (20, 2, [some (.ref (21 + 7)), some (.int x1), some (.int x2), none, none, none, none], [], SH, M, J, 0, 0)).symm.trans rfl
set_option maxRecDepth 20000 in
theorem e_Course_settleAll_57 (s : Nat) (hs : s = 7 ∨ s = 21) (x1 : Int32) (x2 : Int32) (x3 : Int32) (x6 : Int32) (y1 : Int32) (y2 : Int64) (y3 : Int64) (M : mMI) (J : mMJ) : k_Course_settleAll_57 s x1 x2 x3 x6 y1 y2 y3 M J = (if mIn y1 240 then (if (x1 : Int32) ≤ 0 then (k_Course_settleAll_75 s x1 x2 x3 x6 0 M (mUpJ J (s + 11) y1.toNatClampNeg (y2 + y3))) else (if mIn (((x1 - 1) * 6) + x2) 240 then (k_Course_settleAll_75 s x1 x2 x3 x6 (M (s + 10) (((x1 - 1) * 6) + x2).toNatClampNeg) M (mUpJ J (s + 11) y1.toNatClampNeg (y2 + y3))) else none)) else none) := by
  rcases hs with rfl | rfl
  · exact (mDen_eq PG 300 (20, 57, [some (.ref (7 + 7)), some (.int x1), some (.int x2), some (.int x3), none, none, some (.int x6)], [(.long y3), (.long y2), (.int y1), (.ref (7 + 11))], SH, M, J, 0, 0)).symm.trans rfl
  · exact (mDen_eq PG 300 (20, 57, [some (.ref (21 + 7)), some (.int x1), some (.int x2), some (.int x3), none, none, some (.int x6)], [(.long y3), (.long y2), (.int y1), (.ref (21 + 11))], SH, M, J, 0, 0)).symm.trans rfl
set_option maxRecDepth 20000 in
theorem e_Course_settleAll_75 (s : Nat) (hs : s = 7 ∨ s = 21) (x1 : Int32) (x2 : Int32) (y1 : Int32) (y2 : Int32) (y3 : Int32) (M : mMI) (J : mMJ) : k_Course_settleAll_75 s x1 x2 y1 y2 y3 M J = (if mIn y1 240 then (k_Course_settleAll_2 s x1 (x2 + 1) (mUp M (s + 10) y1.toNatClampNeg (y2 + y3)) J) else none) := by
  rcases hs with rfl | rfl
  · exact (mDen_eq PG 300 (20, 75, [some (.ref (7 + 7)), some (.int x1), some (.int x2), none, none, none, none], [(.int y3), (.int y2), (.int y1), (.ref (7 + 10))], SH, M, J, 0, 0)).symm.trans rfl
  · exact (mDen_eq PG 300 (20, 75, [some (.ref (21 + 7)), some (.int x1), some (.int x2), none, none, none, none], [(.int y3), (.int y2), (.int y1), (.ref (21 + 10))], SH, M, J, 0, 0)).symm.trans rfl
set_option maxRecDepth 20000 in
theorem e_Course_lossBetween (s : Nat) (hs : s = 7 ∨ s = 21) (x1 : Int32) (x2 : Int32) (M : mMI) (J : mMJ) : k_Course_lossBetween s x1 x2 M J = (if mIn 3 4 then (if mIn 2 4 then (rI (((M (s + 1) (3 : Int32).toNatClampNeg) * x1) + ((M (s + 1) (2 : Int32).toNatClampNeg) * x2)) M J) else none) else none) := by
  rcases hs with rfl | rfl
  · exact (mDen_eq PG 300 (21, 0, [some (.ref (7 + 7)), some (.int x1), some (.int x2)], [], SH, M, J, 0, 0)).symm.trans rfl
  · exact (mDen_eq PG 300 (21, 0, [some (.ref (21 + 7)), some (.int x1), some (.int x2)], [], SH, M, J, 0, 0)).symm.trans rfl
set_option maxRecDepth 20000 in
theorem e_Course_gotFromPot (s : Nat) (hs : s = 7 ∨ s = 21) (x1 : Int32) (M : mMI) (J : mMJ) : k_Course_gotFromPot s x1 M J = (if mIn 0 4 then (if mIn x1 6 then (if mIn 1 4 then (mBI (k_Pot_meanOf (((M (s + 7) 7) * (M (s + 1) (1 : Int32).toNatClampNeg)) * 60) (M (s + 7) 8) M J) (fun v1 M1 J1 => (rJ ((600 * (((M (s + 1) (0 : Int32).toNatClampNeg) - (M (s + 13) x1.toNatClampNeg)).toInt64)) + v1.toInt64) M1 J1))) else none) else none) else none) := by
  rcases hs with rfl | rfl
  · exact (mDen_eq PG 300 (22, 0, [some (.ref (7 + 7)), some (.int x1), none, none], [], SH, M, J, 0, 0)).symm.trans rfl
  · exact (mDen_eq PG 300 (22, 0, [some (.ref (21 + 7)), some (.int x1), none, none], [], SH, M, J, 0, 0)).symm.trans rfl
set_option maxRecDepth 20000 in
theorem e_Course_dueFrom (s : Nat) (hs : s = 7 ∨ s = 21) (x1 : Int32) (x2 : Int32) (x3 : Int32) (M : mMI) (J : mMJ) : k_Course_dueFrom s x1 x2 x3 M J = (if mIn 2 4 then (if ((M (s + 1) (2 : Int32).toNatClampNeg) : Int32) ≤ 0 then (k_Course_dueFrom_21 s M J) else (if (x1 : Int32) = x2 then (k_Course_dueFrom_21 s M J) else (if mIn x1 6 then (if ((M (s + 13) x1.toNatClampNeg) : Int32) = (-9) then (k_Course_dueFrom_21 s M J) else (if mIn x2 6 then (if ¬ ((M (s + 13) x2.toNatClampNeg) : Int32) = (-9) then (if mIn x1 6 then (if (M (s + 2) x1.toNatClampNeg) = nI 3 then (if mIn x2 6 then (mBI (k_Course_byAnger s x1 ((M (s + 7) 9) - (M (s + 13) x2.toNatClampNeg)) M J) (fun v3 M3 J3 => (rI v3 M3 J3))) else none) else (if (M (s + 2) x1.toNatClampNeg) = nI 4 then (mBI (k_Course_greatestBeside s x1 M J) (fun v1 M1 J1 => (if ¬ (x2 : Int32) = v1 then (k_Course_dueFrom_57 s 0 M1 J1) else (if mIn x2 6 then (mBI (k_Course_byAnger s x1 ((M1 (s + 13) x2.toNatClampNeg) - (M1 (s + 7) 9)) M1 J1) (fun v2 M2 J2 => (k_Course_dueFrom_57 s v2 M2 J2))) else none)))) else (if (M (s + 2) x1.toNatClampNeg) = nI 5 then (if (x3 : Int32) ≤ 0 then (k_Course_dueFrom_71 s x1 x2 0 M J) else (if mIn (((((x3 - 1) * 6) + x2) * 6) + x1) 1440 then (k_Course_dueFrom_71 s x1 x2 (M (s + 9) (((((x3 - 1) * 6) + x2) * 6) + x1).toNatClampNeg) M J) else none)) else (rI 0 M J)))) else none) else (k_Course_dueFrom_21 s M J)) else none)) else none))) else none) := by
  rcases hs with rfl | rfl
  · exact (mDen_eq PG 300 (23, 0, [some (.ref (7 + 7)), some (.int x1), some (.int x2), some (.int x3), none], [], SH, M, J, 0, 0)).symm.trans rfl
  · exact (mDen_eq PG 300 (23, 0, [some (.ref (21 + 7)), some (.int x1), some (.int x2), some (.int x3), none], [], SH, M, J, 0, 0)).symm.trans rfl
set_option maxRecDepth 20000 in
theorem e_Course_dueFrom_21 (s : Nat) (hs : s = 7 ∨ s = 21)  (M : mMI) (J : mMJ) : k_Course_dueFrom_21 s M J = (rI 0 M J) := by
  rcases hs with rfl | rfl
  · exact (mDen_eq PG 300 (23, 21, [none, none, none, none, none], [], SH, M, J, 0, 0)).symm.trans rfl
  · exact (mDen_eq PG 300 (23, 21, [none, none, none, none, none], [], SH, M, J, 0, 0)).symm.trans rfl
set_option maxRecDepth 20000 in
theorem e_Course_dueFrom_71 (s : Nat) (hs : s = 7 ∨ s = 21) (x1 : Int32) (x2 : Int32) (y0 : Int32) (M : mMI) (J : mMJ) : k_Course_dueFrom_71 s x1 x2 y0 M J = (if mIn x2 6 then (mBI (k_Course_byAnger s x1 ((M (s + 7) 9) - (M (s + 13) x2.toNatClampNeg)) M J) (fun v4 M4 J4 => (rI (mMx 1 9 (v4 + y0)) M4 J4))) else none) := by
  rcases hs with rfl | rfl
  · exact (mDen_eq PG 300 (23, 71, [some (.ref (7 + 7)), some (.int x1), some (.int x2), none, none], [(.int y0)], SH, M, J, 0, 0)).symm.trans rfl
  · exact (mDen_eq PG 300 (23, 71, [some (.ref (21 + 7)), some (.int x1), some (.int x2), none, none], [(.int y0)], SH, M, J, 0, 0)).symm.trans rfl
set_option maxRecDepth 20000 in
theorem e_Course_dueFrom_57 (s : Nat) (hs : s = 7 ∨ s = 21) (y0 : Int32) (M : mMI) (J : mMJ) : k_Course_dueFrom_57 s y0 M J = (rI y0 M J) := by
  rcases hs with rfl | rfl
  · exact (mDen_eq PG 300 (23, 57, [none, none, none, none, none], [(.int y0)], SH, M, J, 0, 0)).symm.trans rfl
  · exact (mDen_eq PG 300 (23, 57, [none, none, none, none, none], [(.int y0)], SH, M, J, 0, 0)).symm.trans rfl
set_option maxRecDepth 20000 in
theorem e_Course_byAnger (s : Nat) (hs : s = 7 ∨ s = 21) (x1 : Int32) (x2 : Int32) (M : mMI) (J : mMJ) : k_Course_byAnger s x1 x2 M J = (if (x2 : Int32) ≤ 0 then (rI 0 M J) else (if mIn x1 6 then (if ¬ (9 : Int32) = 0 then (rI (mMx 1 9 ((x2 * (M (s + 4) x1.toNatClampNeg)) / 9)) M J) else none) else none)) := by
  rcases hs with rfl | rfl
  · exact (mDen_eq PG 300 (24, 0, [some (.ref (7 + 7)), some (.int x1), some (.int x2)], [], SH, M, J, 0, 0)).symm.trans rfl
  · exact (mDen_eq PG 300 (24, 0, [some (.ref (21 + 7)), some (.int x1), some (.int x2)], [], SH, M, J, 0, 0)).symm.trans rfl
set_option maxRecDepth 20000 in
theorem e_Course_greatestBeside (s : Nat) (hs : s = 7 ∨ s = 21) (x1 : Int32) (M : mMI) (J : mMJ) : k_Course_greatestBeside s x1 M J = (k_Course_greatestBeside_4 s x1 (-9) 0 M J) := by
  rcases hs with rfl | rfl
  · exact (mDen_eq PG 300 (25, 0, [some (.ref (7 + 7)), some (.int x1), none, none], [], SH, M, J, 0, 0)).symm.trans rfl
  · exact (mDen_eq PG 300 (25, 0, [some (.ref (21 + 7)), some (.int x1), none, none], [], SH, M, J, 0, 0)).symm.trans rfl
set_option maxRecDepth 20000 in
theorem e_Course_greatestBeside_4 (s : Nat) (hs : s = 7 ∨ s = 21) (x1 : Int32) (x2 : Int32) (x3 : Int32) (M : mMI) (J : mMJ) : k_Course_greatestBeside_4 s x1 x2 x3 M J = (if ((M s 1) : Int32) ≤ x3 then (rI x2 M J) else (if (x3 : Int32) = x1 then (k_Course_greatestBeside_4 s x1 x2 (x3 + 1) M J) else (if mIn x3 6 then (if ((M (s + 13) x3.toNatClampNeg) : Int32) = (-9) then (k_Course_greatestBeside_4 s x1 x2 (x3 + 1) M J) else (if (x2 : Int32) = (-9) then (k_Course_greatestBeside_4 s x1 x3 (x3 + 1) M J) else (if mIn x3 6 then (if mIn x2 6 then (if ((M (s + 13) x3.toNatClampNeg) : Int32) ≤ (M (s + 13) x2.toNatClampNeg) then (k_Course_greatestBeside_4 s x1 x2 (x3 + 1) M J) else (k_Course_greatestBeside_4 s x1 x3 (x3 + 1) M J)) else none) else none))) else none))) := by
  rcases hs with rfl | rfl
  · exact (mDen_eq PG 300 (25, 4, [some (.ref (7 + 7)), some (.int x1), some (.int x2), some (.int x3)], [], SH, M, J, 0, 0)).symm.trans rfl
  · exact (mDen_eq PG 300 (25, 4, [some (.ref (21 + 7)), some (.int x1), some (.int x2), some (.int x3)], [], SH, M, J, 0, 0)).symm.trans rfl
set_option maxRecDepth 20000 in
theorem e_Kept_fillFrom (k : Nat) (hk : k = 38 ∨ k = 42)  (M : mMI) (J : mMJ) : k_Kept_fillFrom k M J = (if ((0 : Int32) = 0 ∧ (0 : Int32) = 0) ∧ mIn (Int32.ofNat 240) (240 + 1) ∧ mIn (Int32.ofNat 240) (240 + 1) then (if ((0 : Int32) = 0 ∧ (0 : Int32) = 0) ∧ mIn (Int32.ofNat 6) (6 + 1) ∧ mIn (Int32.ofNat 6) (6 + 1) then (if ((0 : Int32) = 0 ∧ (0 : Int32) = 0) ∧ mIn (Int32.ofNat 48) (48 + 1) ∧ mIn (Int32.ofNat 48) (48 + 1) then (rV (mUp (mSet (mSet (mSet M (k + 1) (va_cpy (M 12) (M (k + 1)) 0 0 (Int32.ofNat 240).toNatClampNeg)) (k + 2) (va_cpy (M 13) (M (k + 2)) 0 0 (Int32.ofNat 6).toNatClampNeg)) (k + 3) (va_cpy (M 36) (M (k + 3)) 0 0 (Int32.ofNat 48).toNatClampNeg)) k 0 1) J) else none) else none) else none) := by
  rcases hk with rfl | rfl
  · exact (mDen_eq PG 300 (28, 0, [some (.ref 38), some (.ref 7), some (.ref 35)], [], SH, M, J, 0, 0)).symm.trans rfl
  · exact (mDen_eq PG 300 (28, 0, [some (.ref 42), some (.ref 7), some (.ref 35)], [], SH, M, J, 0, 0)).symm.trans rfl
set_option maxRecDepth 20000 in
theorem e_Kept_giveBack (k : Nat) (hk : k = 38 ∨ k = 42)  (M : mMI) (J : mMJ) : k_Kept_giveBack k M J = (if ((0 : Int32) = 0 ∧ (0 : Int32) = 0) ∧ mIn (Int32.ofNat 240) (240 + 1) ∧ mIn (Int32.ofNat 240) (240 + 1) then (if ((0 : Int32) = 0 ∧ (0 : Int32) = 0) ∧ mIn (Int32.ofNat 6) (6 + 1) ∧ mIn (Int32.ofNat 6) (6 + 1) then (if ((0 : Int32) = 0 ∧ (0 : Int32) = 0) ∧ mIn (Int32.ofNat 48) (48 + 1) ∧ mIn (Int32.ofNat 48) (48 + 1) then (rV (mSet (mSet (mSet M 12 (va_cpy (M (k + 1)) (M 12) 0 0 (Int32.ofNat 240).toNatClampNeg)) 13 (va_cpy (M (k + 2)) (M 13) 0 0 (Int32.ofNat 6).toNatClampNeg)) 36 (va_cpy (M (k + 3)) (M 36) 0 0 (Int32.ofNat 48).toNatClampNeg)) J) else none) else none) else none) := by
  rcases hk with rfl | rfl
  · exact (mDen_eq PG 300 (29, 0, [some (.ref 38), some (.ref 7), some (.ref 35)], [], SH, M, J, 0, 0)).symm.trans rfl
  · exact (mDen_eq PG 300 (29, 0, [some (.ref 42), some (.ref 7), some (.ref 35)], [], SH, M, J, 0, 0)).symm.trans rfl
set_option maxRecDepth 20000 in
theorem e_Setup_takeRuleText  (M : mMI) (J : mMJ) : k_Setup_takeRuleText M J = (if ((0 : Int32) = 0 ∧ (0 : Int32) = 0) ∧ mIn 4 (4 + 1) ∧ mIn 4 (4 + 1) then (k_Setup_takeRuleText_9 0 (mSet M 8 (va_cpy (M 1004) (M 8) 0 0 (4 : Int32).toNatClampNeg)) J) else none) := (mDen_eq PG 300 (31, 0, [some (.ref 7), some (.ref 1), none], [], SH, M, J, 0, 0)).symm.trans rfl
set_option maxRecDepth 20000 in
theorem e_Setup_takeRuleText_9 (x2 : Int32) (M : mMI) (J : mMJ) : k_Setup_takeRuleText_9 x2 M J = (if ((M 1 4) : Int32) ≤ x2 then (rV M J) else (if mIn x2 6 then (if mIn x2 6 then (if mIn (M 3 x2.toNatClampNeg) 4 then (k_Setup_takeRuleText_9 (x2 + 1) (mUp M 8 (M 3 x2.toNatClampNeg).toNatClampNeg (M 4 x2.toNatClampNeg)) J) else none) else none) else none)) := (mDen_eq PG 300 (31, 9, [some (.ref 7), some (.ref 1), some (.int x2)], [], SH, M, J, 0, 0)).symm.trans rfl
set_option maxRecDepth 20000 in
theorem e_Setup_takeGroupText  (M : mMI) (J : mMJ) : k_Setup_takeGroupText M J = (k_Setup_takeGroupText_6 0 (mUp M 7 1 (M 1 4)) J) := (mDen_eq PG 300 (32, 0, [some (.ref 7), some (.ref 1), none, none, none], [], SH, M, J, 0, 0)).symm.trans rfl
set_option maxRecDepth 20000 in
theorem e_Setup_takeGroupText_6 (x2 : Int32) (M : mMI) (J : mMJ) : k_Setup_takeGroupText_6 x2 M J = (if ((M 7 1) : Int32) ≤ x2 then (rV M J) else (if mIn x2 6 then (if mIn x2 6 then (if mIn x2 6 then (if mIn x2 6 then (mBI (k_Setup_canBeAngry ((mUp M 9 x2.toNatClampNeg (M 3 x2.toNatClampNeg)) 9 x2.toNatClampNeg) (mUp M 9 x2.toNatClampNeg (M 3 x2.toNatClampNeg)) J) (fun v1 M1 J1 => (if (v1 : Int32) = 0 then (if mIn x2 6 then (if (v1 : Int32) = 0 then (if mIn x2 6 then (k_Setup_takeGroupText_6 (x2 + 1) (mUp (mUp M1 10 x2.toNatClampNeg (M 4 x2.toNatClampNeg)) 11 x2.toNatClampNeg 0) J1) else none) else (if ¬ (10 : Int32) = 0 then (if mIn x2 6 then (k_Setup_takeGroupText_6 (x2 + 1) (mUp (mUp M1 10 x2.toNatClampNeg (M 4 x2.toNatClampNeg)) 11 x2.toNatClampNeg ((M 4 x2.toNatClampNeg) - (M 4 x2.toNatClampNeg) / 10 * 10)) J1) else none) else none)) else none) else (if ¬ (10 : Int32) = 0 then (if mIn x2 6 then (if (v1 : Int32) = 0 then (if mIn x2 6 then (k_Setup_takeGroupText_6 (x2 + 1) (mUp (mUp M1 10 x2.toNatClampNeg ((M 4 x2.toNatClampNeg) / 10)) 11 x2.toNatClampNeg 0) J1) else none) else (if ¬ (10 : Int32) = 0 then (if mIn x2 6 then (k_Setup_takeGroupText_6 (x2 + 1) (mUp (mUp M1 10 x2.toNatClampNeg ((M 4 x2.toNatClampNeg) / 10)) 11 x2.toNatClampNeg ((M 4 x2.toNatClampNeg) - (M 4 x2.toNatClampNeg) / 10 * 10)) J1) else none) else none)) else none) else none)))) else none) else none) else none) else none)) := (mDen_eq PG 300 (32, 6, [some (.ref 7), some (.ref 1), some (.int x2), none, none], [], SH, M, J, 0, 0)).symm.trans rfl
set_option maxRecDepth 20000 in
theorem e_Setup_canBeAngry (x0 : Int32) (M : mMI) (J : mMJ) : k_Setup_canBeAngry x0 M J = (if (x0 : Int32) = 3 then (rZ 1 M J) else (if (x0 : Int32) = 4 then (rZ 1 M J) else (if ¬ (x0 : Int32) = 5 then (rZ 0 M J) else (rZ 1 M J)))) := (mDen_eq PG 300 (33, 0, [some (.int x0)], [], SH, M, J, 0, 0)).symm.trans rfl
set_option maxRecDepth 20000 in
theorem e_Setup_untell (s : Nat) (hs : s = 7 ∨ s = 21)  (M : mMI) (J : mMJ) : k_Setup_untell s M J = (mBR (k_Arrays_fill_T s (-9) M J) 0 (fun M1 J1 => (mBR (k_Arrays_fill_O s 40 M1 J1) 0 (fun M2 J2 => (rV M2 J2))))) := by
  rcases hs with rfl | rfl
  · exact (mDen_eq PG 300 (34, 0, [some (.ref 7)], [], SH, M, J, 0, 0)).symm.trans rfl
  · exact (mDen_eq PG 300 (34, 0, [some (.ref 21)], [], SH, M, J, 0, 0)).symm.trans rfl
set_option maxRecDepth 20000 in
theorem e_Setup_takeFrom  (M : mMI) (J : mMJ) : k_Setup_takeFrom M J = (if ((0 : Int32) = 0 ∧ (0 : Int32) = 0) ∧ mIn 4 (4 + 1) ∧ mIn 4 (4 + 1) then (if ((0 : Int32) = 0 ∧ (0 : Int32) = 0) ∧ mIn 6 (6 + 1) ∧ mIn 6 (6 + 1) then (if ((0 : Int32) = 0 ∧ (0 : Int32) = 0) ∧ mIn 6 (6 + 1) ∧ mIn 6 (6 + 1) then (if ((0 : Int32) = 0 ∧ (0 : Int32) = 0) ∧ mIn 6 (6 + 1) ∧ mIn 6 (6 + 1) then (if ((0 : Int32) = 0 ∧ (0 : Int32) = 0) ∧ mIn (Int32.ofNat 240) (240 + 1) ∧ mIn (Int32.ofNat 240) (240 + 1) then (if ((0 : Int32) = 0 ∧ (0 : Int32) = 0) ∧ mIn 6 (6 + 1) ∧ mIn 6 (6 + 1) then (rV (mUp (mSet (mSet (mSet (mSet (mSet (mSet M 22 (va_cpy (M 8) (M 22) 0 0 (4 : Int32).toNatClampNeg)) 23 (va_cpy (M 9) (M 23) 0 0 (6 : Int32).toNatClampNeg)) 24 (va_cpy (M 10) (M 24) 0 0 (6 : Int32).toNatClampNeg)) 25 (va_cpy (M 11) (M 25) 0 0 (6 : Int32).toNatClampNeg)) 26 (va_cpy (M 12) (M 26) 0 0 (Int32.ofNat 240).toNatClampNeg)) 27 (va_cpy (M 13) (M 27) 0 0 (6 : Int32).toNatClampNeg)) 21 1 (M 7 1)) J) else none) else none) else none) else none) else none) else none) := (mDen_eq PG 300 (35, 0, [some (.ref 21), some (.ref 7)], [], SH, M, J, 0, 0)).symm.trans rfl
set_option maxRecDepth 20000 in
theorem e_Setup_takeSome (x2 : Int32) (M : mMI) (J : mMJ) : k_Setup_takeSome x2 M J = (if ((0 : Int32) = 0 ∧ (0 : Int32) = 0) ∧ mIn 4 (4 + 1) ∧ mIn 4 (4 + 1) then (mBR (k_Setup_untell 21 (mSet M 22 (va_cpy (M 8) (M 22) 0 0 (4 : Int32).toNatClampNeg)) J) 0 (fun M1 J1 => (k_Setup_takeSome_15 x2 0 (mUp M1 21 1 0) J1))) else none) := (mDen_eq PG 300 (36, 0, [some (.ref 21), some (.ref 7), some (.int x2), none], [], SH, M, J, 0, 0)).symm.trans rfl
set_option maxRecDepth 20000 in
theorem e_Setup_takeSome_15 (x2 : Int32) (x3 : Int32) (M : mMI) (J : mMJ) : k_Setup_takeSome_15 x2 x3 M J = (if ((M 7 1) : Int32) ≤ x3 then (rV M J) else (if ¬ (((x2 >>> (x3 &&& 31)) &&& 1) : Int32) = 1 then (k_Setup_takeSome_15 x2 (x3 + 1) M J) else (if mIn x3 6 then (if mIn (M 21 1) 6 then (if mIn x3 6 then (if mIn (M 21 1) 6 then (if mIn x3 6 then (if mIn (M 21 1) 6 then (k_Setup_takeSome_15 x2 (x3 + 1) (mUp (mUp (mUp (mUp M 23 (M 21 1).toNatClampNeg (M 9 x3.toNatClampNeg)) 24 (M 21 1).toNatClampNeg (M 10 x3.toNatClampNeg)) 25 (M 21 1).toNatClampNeg (M 11 x3.toNatClampNeg)) 21 1 ((M 21 1) + 1)) J) else none) else none) else none) else none) else none) else none))) := (mDen_eq PG 300 (36, 15, [some (.ref 21), some (.ref 7), some (.int x2), some (.int x3)], [], SH, M, J, 0, 0)).symm.trans rfl
set_option maxRecDepth 20000 in
theorem e_Setup_isIn (s : Nat) (hs : s = 7 ∨ s = 21) (x1 : Int32) (x2 : Int32) (M : mMI) (J : mMJ) : k_Setup_isIn s x1 x2 M J = (if mIn x1 6 then (if ((M (s + 6) x1.toNatClampNeg) : Int32) ≤ x2 then (rZ 0 M J) else (rZ 1 M J)) else none) := by
  rcases hs with rfl | rfl
  · exact (mDen_eq PG 300 (37, 0, [some (.ref 7), some (.int x1), some (.int x2)], [], SH, M, J, 0, 0)).symm.trans rfl
  · exact (mDen_eq PG 300 (37, 0, [some (.ref 21), some (.int x1), some (.int x2)], [], SH, M, J, 0, 0)).symm.trans rfl
set_option maxRecDepth 20000 in
theorem e_Setup_countIn (s : Nat) (hs : s = 7 ∨ s = 21) (x1 : Int32) (M : mMI) (J : mMJ) : k_Setup_countIn s x1 M J = (k_Setup_countIn_4 s x1 0 0 M J) := by
  rcases hs with rfl | rfl
  · exact (mDen_eq PG 300 (38, 0, [some (.ref 7), some (.int x1), none, none], [], SH, M, J, 0, 0)).symm.trans rfl
  · exact (mDen_eq PG 300 (38, 0, [some (.ref 21), some (.int x1), none, none], [], SH, M, J, 0, 0)).symm.trans rfl
set_option maxRecDepth 20000 in
theorem e_Setup_countIn_4 (s : Nat) (hs : s = 7 ∨ s = 21) (x1 : Int32) (x2 : Int32) (x3 : Int32) (M : mMI) (J : mMJ) : k_Setup_countIn_4 s x1 x2 x3 M J = (if ((M s 1) : Int32) ≤ x3 then (rI x2 M J) else (mBI (k_Setup_isIn s x3 x1 M J) (fun v1 M1 J1 => (if (v1 : Int32) = 0 then (k_Setup_countIn_4 s x1 x2 (x3 + 1) M1 J1) else (k_Setup_countIn_4 s x1 (x2 + 1) (x3 + 1) M1 J1))))) := by
  rcases hs with rfl | rfl
  · exact (mDen_eq PG 300 (38, 4, [some (.ref 7), some (.int x1), some (.int x2), some (.int x3)], [], SH, M, J, 0, 0)).symm.trans rfl
  · exact (mDen_eq PG 300 (38, 4, [some (.ref 21), some (.int x1), some (.int x2), some (.int x3)], [], SH, M, J, 0, 0)).symm.trans rfl
set_option maxRecDepth 20000 in
theorem e_Setup_canSpare (s : Nat) (hs : s = 7 ∨ s = 21) (x1 : Int32) (M : mMI) (J : mMJ) : k_Setup_canSpare s x1 M J = (mBI (k_Setup_countIn s 39 M J) (fun v1 M1 J1 => (mBI (k_Setup_isIn s x1 39 M1 J1) (fun v2 M2 J2 => (if (v2 : Int32) = 0 then (if ((v1 - 0) : Int32) < 2 then (rZ 0 M2 J2) else (rZ 1 M2 J2)) else (if ((v1 - 1) : Int32) < 2 then (rZ 0 M2 J2) else (rZ 1 M2 J2))))))) := by
  rcases hs with rfl | rfl
  · exact (mDen_eq PG 300 (39, 0, [some (.ref 7), some (.int x1), none], [], SH, M, J, 0, 0)).symm.trans rfl
  · exact (mDen_eq PG 300 (39, 0, [some (.ref 21), some (.int x1), none], [], SH, M, J, 0, 0)).symm.trans rfl
set_option maxRecDepth 20000 in
theorem e_Text_append (x1 : Int32) (M : mMI) (J : mMJ) : k_Text_append x1 M J = (if (40 : Int32) ≤ (M 1 1) then (rV M J) else (if mIn (M 1 1) 40 then (rV (mUp (mUp M 2 (M 1 1).toNatClampNeg x1) 1 1 ((M 1 1) + 1)) J) else none)) := (mDen_eq PG 300 (41, 0, [some (.ref 1), some (.int x1)], [], SH, M, J, 0, 0)).symm.trans rfl
set_option maxRecDepth 20000 in
theorem e_Text_scan (g : Nat) (hg : g = 5 ∨ g = 6)  (M : mMI) (J : mMJ) : k_Text_scan g M J = (k_Text_scan_7 g 0 0 (mUp M 1 4 0) J) := by
  rcases hg with rfl | rfl
  · exact (mDen_eq PG 300 (42, 0, [some (.ref 1), some (.ref 5), none, none, none, none], [], SH, M, J, 0, 0)).symm.trans rfl
  · exact (mDen_eq PG 300 (42, 0, [some (.ref 1), some (.ref 6), none, none, none, none], [], SH, M, J, 0, 0)).symm.trans rfl
set_option maxRecDepth 20000 in
theorem e_Text_scan_7 (g : Nat) (hg : g = 5 ∨ g = 6) (x2 : Int32) (x3 : Int32) (M : mMI) (J : mMJ) : k_Text_scan_7 g x2 x3 M J = (if ((M g 6) : Int32) < x3 then (k_Text_scan_74 g M J) else (if ((M 1 1) : Int32) ≤ x2 then (k_Text_scan_74 g M J) else (if mIn x2 40 then (mBI (k_String_indexOf g (((M 2 x2.toNatClampNeg).toUInt32 % 65536).toInt32) M J) (fun v1 M1 J1 => (if (x3 : Int32) = (M1 g 6) then (k_Text_scan_37 g x2 M1 J1) else (if (v1 : Int32) < 0 then (k_Text_scan_37 g x2 M1 J1) else (if ((M1 g 4) : Int32) = 0 then (k_Text_scan_39 g x2 x3 v1 M1 J1) else (mBI (k_Text_wasFound v1 M1 J1) (fun v2 M2 J2 => (if (v2 : Int32) = 0 then (k_Text_scan_39 g x2 x3 v1 M2 J2) else (k_Text_scan_37 g x2 M2 J2))))))))) else none))) := by
  rcases hg with rfl | rfl
  · exact (mDen_eq PG 300 (42, 7, [some (.ref 1), some (.ref 5), some (.int x2), some (.int x3), none, none], [], SH, M, J, 0, 0)).symm.trans rfl
  · exact (mDen_eq PG 300 (42, 7, [some (.ref 1), some (.ref 6), some (.int x2), some (.int x3), none, none], [], SH, M, J, 0, 0)).symm.trans rfl
set_option maxRecDepth 20000 in
theorem e_Text_scan_74 (g : Nat) (hg : g = 5 ∨ g = 6)  (M : mMI) (J : mMJ) : k_Text_scan_74 g M J = (if ((M g 5) : Int32) ≤ (M 1 4) then (k_Text_scan_83 g (-9) M J) else (k_Text_scan_83 g (M 1 1) M J)) := by
  rcases hg with rfl | rfl
  · exact (mDen_eq PG 300 (42, 74, [some (.ref 1), some (.ref 5), none, none, none, none], [], SH, M, J, 0, 0)).symm.trans rfl
  · exact (mDen_eq PG 300 (42, 74, [some (.ref 1), some (.ref 6), none, none, none, none], [], SH, M, J, 0, 0)).symm.trans rfl
set_option maxRecDepth 20000 in
theorem e_Text_scan_37 (g : Nat) (hg : g = 5 ∨ g = 6) (x2 : Int32) (M : mMI) (J : mMJ) : k_Text_scan_37 g x2 M J = (rI x2 M J) := by
  rcases hg with rfl | rfl
  · exact (mDen_eq PG 300 (42, 37, [none, none, some (.int x2), none, none, none], [], SH, M, J, 0, 0)).symm.trans rfl
  · exact (mDen_eq PG 300 (42, 37, [none, none, some (.int x2), none, none, none], [], SH, M, J, 0, 0)).symm.trans rfl
set_option maxRecDepth 20000 in
theorem e_Text_scan_39 (g : Nat) (hg : g = 5 ∨ g = 6) (x2 : Int32) (x3 : Int32) (x4 : Int32) (M : mMI) (J : mMJ) : k_Text_scan_39 g x2 x3 x4 M J = (mBI (k_Text_scanNumber g x4 (x2 + 1) x3 M J) (fun v3 M3 J3 => (if (v3 : Int32) = (-9) then (if mIn x3 6 then (if mIn x4 (3 * g - 11) then (k_Text_scan_7 g (x2 + (1 + (M3 (1000 + 10 * g + 2) x4.toNatClampNeg))) (x3 + 1) (mUp (mUp M3 3 x3.toNatClampNeg x4) 1 4 (x3 + 1)) J3) else none) else none) else (rI v3 M3 J3)))) := by
  rcases hg with rfl | rfl
  · exact (mDen_eq PG 300 (42, 39, [some (.ref 1), some (.ref 5), some (.int x2), some (.int x3), some (.int x4), none], [], SH, M, J, 0, 0)).symm.trans rfl
  · exact (mDen_eq PG 300 (42, 39, [some (.ref 1), some (.ref 6), some (.int x2), some (.int x3), some (.int x4), none], [], SH, M, J, 0, 0)).symm.trans rfl
set_option maxRecDepth 20000 in
theorem e_Text_scan_83 (g : Nat) (hg : g = 5 ∨ g = 6) (y0 : Int32) (M : mMI) (J : mMJ) : k_Text_scan_83 g y0 M J = (rI y0 M J) := by
  rcases hg with rfl | rfl
  · exact (mDen_eq PG 300 (42, 83, [none, none, none, none, none, none], [(.int y0)], SH, M, J, 0, 0)).symm.trans rfl
  · exact (mDen_eq PG 300 (42, 83, [none, none, none, none, none, none], [(.int y0)], SH, M, J, 0, 0)).symm.trans rfl
set_option maxRecDepth 20000 in
theorem e_Text_wasFound (x1 : Int32) (M : mMI) (J : mMJ) : k_Text_wasFound x1 M J = (k_Text_wasFound_2 x1 0 M J) := (mDen_eq PG 300 (43, 0, [some (.ref 1), some (.int x1), none], [], SH, M, J, 0, 0)).symm.trans rfl
set_option maxRecDepth 20000 in
theorem e_Text_wasFound_2 (x1 : Int32) (x2 : Int32) (M : mMI) (J : mMJ) : k_Text_wasFound_2 x1 x2 M J = (if ((M 1 4) : Int32) ≤ x2 then (rZ 0 M J) else (if mIn x2 6 then (if ¬ ((M 3 x2.toNatClampNeg) : Int32) = x1 then (k_Text_wasFound_2 x1 (x2 + 1) M J) else (rZ 1 M J)) else none)) := (mDen_eq PG 300 (43, 2, [some (.ref 1), some (.int x1), some (.int x2)], [], SH, M, J, 0, 0)).symm.trans rfl
set_option maxRecDepth 20000 in
theorem e_Text_scanNumber (g : Nat) (hg : g = 5 ∨ g = 6) (x2 : Int32) (x3 : Int32) (x4 : Int32) (M : mMI) (J : mMJ) : k_Text_scanNumber g x2 x3 x4 M J = (if mIn x2 (3 * g - 11) then (k_Text_scanNumber_9 g x2 x3 x4 (M (1000 + 10 * g + 2) x2.toNatClampNeg) 0 0 M J) else none) := by
  rcases hg with rfl | rfl
  · exact (mDen_eq PG 300 (44, 0, [some (.ref 1), some (.ref 5), some (.int x2), some (.int x3), some (.int x4), none, none, none, none, none, none], [], SH, M, J, 0, 0)).symm.trans rfl
  · exact (mDen_eq PG 300 (44, 0, [some (.ref 1), some (.ref 6), some (.int x2), some (.int x3), some (.int x4), none, none, none, none, none, none], [], SH, M, J, 0, 0)).symm.trans rfl
set_option maxRecDepth 20000 in
theorem e_Text_scanNumber_9 (g : Nat) (hg : g = 5 ∨ g = 6) (x2 : Int32) (x3 : Int32) (x4 : Int32) (x5 : Int32) (x6 : Int32) (x7 : Int32) (M : mMI) (J : mMJ) : k_Text_scanNumber_9 g x2 x3 x4 x5 x6 x7 M J = (if (x5 : Int32) ≤ x7 then (if mIn x4 6 then (rI (-9) (mUp M 4 x4.toNatClampNeg x6) J) else none) else (if ((x3 + x7) : Int32) < (M 1 1) then (if mIn (x3 + x7) 40 then (if (((M 2 (x3 + x7).toNatClampNeg) - 48) : Int32) < 0 then (k_Text_scanNumber_35 g (x3 + x7) M J) else (if (((M 2 (x3 + x7).toNatClampNeg) - 48) : Int32) ≤ 9 then (if (x5 : Int32) ≤ (x7 + 1) then (k_Text_scanNumber_51 g x2 x3 x4 x5 ((x6 * 10) + ((M 2 (x3 + x7).toNatClampNeg) - 48)) x7 (x3 + x7) 1 M J) else (k_Text_scanNumber_51 g x2 x3 x4 x5 ((x6 * 10) + ((M 2 (x3 + x7).toNatClampNeg) - 48)) x7 (x3 + x7) 10 M J)) else (k_Text_scanNumber_35 g (x3 + x7) M J))) else none) else (rI (M 1 1) M J))) := by
  rcases hg with rfl | rfl
  · exact (mDen_eq PG 300 (44, 9, [some (.ref 1), some (.ref 5), some (.int x2), some (.int x3), some (.int x4), some (.int x5), some (.int x6), some (.int x7), none, none, none], [], SH, M, J, 0, 0)).symm.trans rfl
  · exact (mDen_eq PG 300 (44, 9, [some (.ref 1), some (.ref 6), some (.int x2), some (.int x3), some (.int x4), some (.int x5), some (.int x6), some (.int x7), none, none, none], [], SH, M, J, 0, 0)).symm.trans rfl
set_option maxRecDepth 20000 in
theorem e_Text_scanNumber_35 (g : Nat) (hg : g = 5 ∨ g = 6) (x8 : Int32) (M : mMI) (J : mMJ) : k_Text_scanNumber_35 g x8 M J = (rI x8 M J) := by
  rcases hg with rfl | rfl
  · exact (mDen_eq PG 300 (44, 35, [none, none, none, none, none, none, none, none, some (.int x8), none, none], [], SH, M, J, 0, 0)).symm.trans rfl
  · exact (mDen_eq PG 300 (44, 35, [none, none, none, none, none, none, none, none, some (.int x8), none, none], [], SH, M, J, 0, 0)).symm.trans rfl
set_option maxRecDepth 20000 in
theorem e_Text_scanNumber_51 (g : Nat) (hg : g = 5 ∨ g = 6) (x2 : Int32) (x3 : Int32) (x4 : Int32) (x5 : Int32) (x6 : Int32) (x7 : Int32) (x8 : Int32) (y0 : Int32) (M : mMI) (J : mMJ) : k_Text_scanNumber_51 g x2 x3 x4 x5 x6 x7 x8 y0 M J = (if mIn x2 (3 * g - 11) then (if ((M (1000 + 10 * g + 4) x2.toNatClampNeg) : Int32) < (x6 * y0) then (k_Text_scanNumber_72 g x8 M J) else (if mIn x2 (3 * g - 11) then (if ((M (1000 + 10 * g + 3) x2.toNatClampNeg) : Int32) ≤ (((x6 * y0) + y0) - 1) then (k_Text_scanNumber_9 g x2 x3 x4 x5 x6 (x7 + 1) M J) else (k_Text_scanNumber_72 g x8 M J)) else none)) else none) := by
  rcases hg with rfl | rfl
  · exact (mDen_eq PG 300 (44, 51, [some (.ref 1), some (.ref 5), some (.int x2), some (.int x3), some (.int x4), some (.int x5), some (.int x6), some (.int x7), some (.int x8), none, none], [(.int y0)], SH, M, J, 0, 0)).symm.trans rfl
  · exact (mDen_eq PG 300 (44, 51, [some (.ref 1), some (.ref 6), some (.int x2), some (.int x3), some (.int x4), some (.int x5), some (.int x6), some (.int x7), some (.int x8), none, none], [(.int y0)], SH, M, J, 0, 0)).symm.trans rfl
set_option maxRecDepth 20000 in
theorem e_Text_scanNumber_72 (g : Nat) (hg : g = 5 ∨ g = 6) (x8 : Int32) (M : mMI) (J : mMJ) : k_Text_scanNumber_72 g x8 M J = (rI x8 M J) := by
  rcases hg with rfl | rfl
  · exact (mDen_eq PG 300 (44, 72, [none, none, none, none, none, none, none, none, some (.int x8), none, none], [], SH, M, J, 0, 0)).symm.trans rfl
  · exact (mDen_eq PG 300 (44, 72, [none, none, none, none, none, none, none, none, some (.int x8), none, none], [], SH, M, J, 0, 0)).symm.trans rfl
set_option maxRecDepth 20000 in
theorem e_String_indexOf (g : Nat) (hg : g = 5 ∨ g = 6) (x1 : Int32) (M : mMI) (J : mMJ) : k_String_indexOf g x1 M J = (mBI (k_String_indexFrom g x1 0 M J) (fun v1 M1 J1 => (rI v1 M1 J1))) := by
  rcases hg with rfl | rfl
  · exact (mDen_eq PG 300 (186, 0, [some (.ref (1000 + 10 * 5)), some (.int x1)], [], SH, M, J, 0, 0)).symm.trans rfl
  · exact (mDen_eq PG 300 (186, 0, [some (.ref (1000 + 10 * 6)), some (.int x1)], [], SH, M, J, 0, 0)).symm.trans rfl
set_option maxRecDepth 20000 in
theorem e_String_indexFrom (g : Nat) (hg : g = 5 ∨ g = 6) (x1 : Int32) (x2 : Int32) (M : mMI) (J : mMJ) : k_String_indexFrom g x1 x2 M J = (mBI (k_String_isLatin1 g M J) (fun v1 M1 J1 => (if (v1 : Int32) = 0 then (mBI (k_String_length g M1 J1) (fun v2 M2 J2 => none)) else (mBI (k_String_length g M1 J1) (fun v3 M3 J3 => (mBI (k_Latin_indexOf g x1 x2 v3 M3 J3) (fun v4 M4 J4 => (rI v4 M4 J4)))))))) := by
  rcases hg with rfl | rfl
  · exact (mDen_eq PG 300 (187, 0, [some (.ref (1000 + 10 * 5)), some (.int x1), some (.int x2)], [], SH, M, J, 0, 0)).symm.trans rfl
  · exact (mDen_eq PG 300 (187, 0, [some (.ref (1000 + 10 * 6)), some (.int x1), some (.int x2)], [], SH, M, J, 0, 0)).symm.trans rfl
set_option maxRecDepth 20000 in
theorem e_String_isLatin1 (g : Nat) (hg : g = 5 ∨ g = 6)  (M : mMI) (J : mMJ) : k_String_isLatin1 g M J = (if (1 : Int32) = 0 then (rZ 0 M J) else (if ¬ (0 : Int32) = 0 then (rZ 0 M J) else (rZ 1 M J))) := by
  rcases hg with rfl | rfl
  · exact (mDen_eq PG 300 (188, 0, [some (.ref (1000 + 10 * 5))], [], SH, M, J, 0, 0)).symm.trans rfl
  · exact (mDen_eq PG 300 (188, 0, [some (.ref (1000 + 10 * 6))], [], SH, M, J, 0, 0)).symm.trans rfl
set_option maxRecDepth 20000 in
theorem e_String_length (g : Nat) (hg : g = 5 ∨ g = 6)  (M : mMI) (J : mMJ) : k_String_length g M J = (mBI (k_String_coder g M J) (fun v1 M1 J1 => (rI ((Int32.ofNat (3 * g - 11)) >>> (v1 &&& 31)) M1 J1))) := by
  rcases hg with rfl | rfl
  · exact (mDen_eq PG 300 (189, 0, [some (.ref (1000 + 10 * 5))], [], SH, M, J, 0, 0)).symm.trans rfl
  · exact (mDen_eq PG 300 (189, 0, [some (.ref (1000 + 10 * 6))], [], SH, M, J, 0, 0)).symm.trans rfl
set_option maxRecDepth 20000 in
theorem e_String_coder (g : Nat) (hg : g = 5 ∨ g = 6)  (M : mMI) (J : mMJ) : k_String_coder g M J = (if (1 : Int32) = 0 then (rB 1 M J) else (rB 0 M J)) := by
  rcases hg with rfl | rfl
  · exact (mDen_eq PG 300 (190, 0, [some (.ref (1000 + 10 * 5))], [], SH, M, J, 0, 0)).symm.trans rfl
  · exact (mDen_eq PG 300 (190, 0, [some (.ref (1000 + 10 * 6))], [], SH, M, J, 0, 0)).symm.trans rfl
set_option maxRecDepth 20000 in
theorem e_Latin_canEncode (x0 : Int32) (M : mMI) (J : mMJ) : k_Latin_canEncode x0 M J = (if (x0 : Int32) < 0 then (rZ 0 M J) else (if (255 : Int32) < x0 then (rZ 0 M J) else (rZ 1 M J))) := (mDen_eq PG 300 (191, 0, [some (.int x0)], [], SH, M, J, 0, 0)).symm.trans rfl
set_option maxRecDepth 20000 in
theorem e_Latin_indexOf (g : Nat) (hg : g = 5 ∨ g = 6) (x1 : Int32) (x2 : Int32) (x3 : Int32) (M : mMI) (J : mMJ) : k_Latin_indexOf g x1 x2 x3 M J = (mBI (k_Latin_canEncode x1 M J) (fun v1 M1 J1 => (if ¬ (v1 : Int32) = 0 then (if ((mMx 0 x2 0) : Int32) < (mMx 1 x3 (Int32.ofNat (3 * g - 11))) then (mBI (k_Latin_indexOfChar g x1 (mMx 0 x2 0) (mMx 1 x3 (Int32.ofNat (3 * g - 11))) M1 J1) (fun v2 M2 J2 => (rI v2 M2 J2))) else (rI (-1) M1 J1)) else (rI (-1) M1 J1)))) := by
  rcases hg with rfl | rfl
  · exact (mDen_eq PG 300 (192, 0, [some (.ref (1000 + 10 * 5 + 1)), some (.int x1), some (.int x2), some (.int x3)], [], SH, M, J, 0, 0)).symm.trans rfl
  · exact (mDen_eq PG 300 (192, 0, [some (.ref (1000 + 10 * 6 + 1)), some (.int x1), some (.int x2), some (.int x3)], [], SH, M, J, 0, 0)).symm.trans rfl
set_option maxRecDepth 20000 in
theorem e_Latin_indexOfChar (g : Nat) (hg : g = 5 ∨ g = 6) (x1 : Int32) (x2 : Int32) (x3 : Int32) (M : mMI) (J : mMJ) : k_Latin_indexOfChar g x1 x2 x3 M J = (k_Latin_indexOfChar_5 g x3 x1.toInt8.toInt32 x2 M J) := by
  rcases hg with rfl | rfl
  · exact (mDen_eq PG 300 (193, 0, [some (.ref (1000 + 10 * 5 + 1)), some (.int x1), some (.int x2), some (.int x3), none, none], [], SH, M, J, 0, 0)).symm.trans rfl
  · exact (mDen_eq PG 300 (193, 0, [some (.ref (1000 + 10 * 6 + 1)), some (.int x1), some (.int x2), some (.int x3), none, none], [], SH, M, J, 0, 0)).symm.trans rfl
set_option maxRecDepth 20000 in
theorem e_Latin_indexOfChar_5 (g : Nat) (hg : g = 5 ∨ g = 6) (x3 : Int32) (x4 : Int32) (x5 : Int32) (M : mMI) (J : mMJ) : k_Latin_indexOfChar_5 g x3 x4 x5 M J = (if (x3 : Int32) ≤ x5 then (rI (-1) M J) else (if mIn x5 (3 * g - 11) then (if ¬ ((M (1000 + 10 * g + 1) x5.toNatClampNeg) : Int32) = x4 then (k_Latin_indexOfChar_5 g x3 x4 (x5 + 1) M J) else (rI x5 M J)) else none)) := by
  rcases hg with rfl | rfl
  · exact (mDen_eq PG 300 (193, 5, [some (.ref (1000 + 10 * 5 + 1)), none, none, some (.int x3), some (.int x4), some (.int x5)], [], SH, M, J, 0, 0)).symm.trans rfl
  · exact (mDen_eq PG 300 (193, 5, [some (.ref (1000 + 10 * 6 + 1)), none, none, some (.int x3), some (.int x4), some (.int x5)], [], SH, M, J, 0, 0)).symm.trans rfl
set_option maxRecDepth 20000 in
theorem e_Integer_bitCount (x0 : Int32) (M : mMI) (J : mMJ) : k_Integer_bitCount x0 M J = (rI ((((((((x0 - (((x0.toUInt32 >>> ((1 : Int32).toUInt32 &&& Int32.toUInt32 31)).toInt32) &&& 1431655765)) &&& 858993459) + ((((x0 - (((x0.toUInt32 >>> ((1 : Int32).toUInt32 &&& Int32.toUInt32 31)).toInt32) &&& 1431655765)).toUInt32 >>> ((2 : Int32).toUInt32 &&& Int32.toUInt32 31)).toInt32) &&& 858993459)) + (((((x0 - (((x0.toUInt32 >>> ((1 : Int32).toUInt32 &&& Int32.toUInt32 31)).toInt32) &&& 1431655765)) &&& 858993459) + ((((x0 - (((x0.toUInt32 >>> ((1 : Int32).toUInt32 &&& Int32.toUInt32 31)).toInt32) &&& 1431655765)).toUInt32 >>> ((2 : Int32).toUInt32 &&& Int32.toUInt32 31)).toInt32) &&& 858993459)).toUInt32 >>> ((4 : Int32).toUInt32 &&& Int32.toUInt32 31)).toInt32)) &&& 252645135) + (((((((x0 - (((x0.toUInt32 >>> ((1 : Int32).toUInt32 &&& Int32.toUInt32 31)).toInt32) &&& 1431655765)) &&& 858993459) + ((((x0 - (((x0.toUInt32 >>> ((1 : Int32).toUInt32 &&& Int32.toUInt32 31)).toInt32) &&& 1431655765)).toUInt32 >>> ((2 : Int32).toUInt32 &&& Int32.toUInt32 31)).toInt32) &&& 858993459)) + (((((x0 - (((x0.toUInt32 >>> ((1 : Int32).toUInt32 &&& Int32.toUInt32 31)).toInt32) &&& 1431655765)) &&& 858993459) + ((((x0 - (((x0.toUInt32 >>> ((1 : Int32).toUInt32 &&& Int32.toUInt32 31)).toInt32) &&& 1431655765)).toUInt32 >>> ((2 : Int32).toUInt32 &&& Int32.toUInt32 31)).toInt32) &&& 858993459)).toUInt32 >>> ((4 : Int32).toUInt32 &&& Int32.toUInt32 31)).toInt32)) &&& 252645135).toUInt32 >>> ((8 : Int32).toUInt32 &&& Int32.toUInt32 31)).toInt32)) + ((((((((x0 - (((x0.toUInt32 >>> ((1 : Int32).toUInt32 &&& Int32.toUInt32 31)).toInt32) &&& 1431655765)) &&& 858993459) + ((((x0 - (((x0.toUInt32 >>> ((1 : Int32).toUInt32 &&& Int32.toUInt32 31)).toInt32) &&& 1431655765)).toUInt32 >>> ((2 : Int32).toUInt32 &&& Int32.toUInt32 31)).toInt32) &&& 858993459)) + (((((x0 - (((x0.toUInt32 >>> ((1 : Int32).toUInt32 &&& Int32.toUInt32 31)).toInt32) &&& 1431655765)) &&& 858993459) + ((((x0 - (((x0.toUInt32 >>> ((1 : Int32).toUInt32 &&& Int32.toUInt32 31)).toInt32) &&& 1431655765)).toUInt32 >>> ((2 : Int32).toUInt32 &&& Int32.toUInt32 31)).toInt32) &&& 858993459)).toUInt32 >>> ((4 : Int32).toUInt32 &&& Int32.toUInt32 31)).toInt32)) &&& 252645135) + (((((((x0 - (((x0.toUInt32 >>> ((1 : Int32).toUInt32 &&& Int32.toUInt32 31)).toInt32) &&& 1431655765)) &&& 858993459) + ((((x0 - (((x0.toUInt32 >>> ((1 : Int32).toUInt32 &&& Int32.toUInt32 31)).toInt32) &&& 1431655765)).toUInt32 >>> ((2 : Int32).toUInt32 &&& Int32.toUInt32 31)).toInt32) &&& 858993459)) + (((((x0 - (((x0.toUInt32 >>> ((1 : Int32).toUInt32 &&& Int32.toUInt32 31)).toInt32) &&& 1431655765)) &&& 858993459) + ((((x0 - (((x0.toUInt32 >>> ((1 : Int32).toUInt32 &&& Int32.toUInt32 31)).toInt32) &&& 1431655765)).toUInt32 >>> ((2 : Int32).toUInt32 &&& Int32.toUInt32 31)).toInt32) &&& 858993459)).toUInt32 >>> ((4 : Int32).toUInt32 &&& Int32.toUInt32 31)).toInt32)) &&& 252645135).toUInt32 >>> ((8 : Int32).toUInt32 &&& Int32.toUInt32 31)).toInt32)).toUInt32 >>> ((16 : Int32).toUInt32 &&& Int32.toUInt32 31)).toInt32)) &&& 63) M J) := (mDen_eq PG 300 (194, 0, [some (.int x0)], [], SH, M, J, 0, 0)).symm.trans rfl
set_option maxRecDepth 20000 in
theorem e_Arrays_fill_T (s : Nat) (hs : s = 7 ∨ s = 21) (x1 : Int32) (M : mMI) (J : mMJ) : k_Arrays_fill_T s x1 M J = (k_Arrays_fill_T_5 s x1 0 (Int32.ofNat 240) M J) := by
  rcases hs with rfl | rfl
  · exact (mDen_eq PG 300 (195, 0, [some (.ref (7 + 5)), some (.int x1), none, none], [], SH, M, J, 0, 0)).symm.trans rfl
  · exact (mDen_eq PG 300 (195, 0, [some (.ref (21 + 5)), some (.int x1), none, none], [], SH, M, J, 0, 0)).symm.trans rfl
set_option maxRecDepth 20000 in
theorem e_Arrays_fill_T_5 (s : Nat) (hs : s = 7 ∨ s = 21) (x1 : Int32) (x2 : Int32) (x3 : Int32) (M : mMI) (J : mMJ) : k_Arrays_fill_T_5 s x1 x2 x3 M J = (if (x3 : Int32) ≤ x2 then (rV M J) else (if mIn x2 240 then (k_Arrays_fill_T_5 s x1 (x2 + 1) x3 (mUp M (s + 5) x2.toNatClampNeg x1) J) else none)) := by
  rcases hs with rfl | rfl
  · exact (mDen_eq PG 300 (195, 5, [some (.ref (7 + 5)), some (.int x1), some (.int x2), some (.int x3)], [], SH, M, J, 0, 0)).symm.trans rfl
  · exact (mDen_eq PG 300 (195, 5, [some (.ref (21 + 5)), some (.int x1), some (.int x2), some (.int x3)], [], SH, M, J, 0, 0)).symm.trans rfl
set_option maxRecDepth 20000 in
theorem e_Arrays_fill_O (s : Nat) (hs : s = 7 ∨ s = 21) (x1 : Int32) (M : mMI) (J : mMJ) : k_Arrays_fill_O s x1 M J = (k_Arrays_fill_O_5 s x1 0 (Int32.ofNat 6) M J) := by
  rcases hs with rfl | rfl
  · exact (mDen_eq PG 300 (195, 0, [some (.ref (7 + 6)), some (.int x1), none, none], [], SH, M, J, 0, 0)).symm.trans rfl
  · exact (mDen_eq PG 300 (195, 0, [some (.ref (21 + 6)), some (.int x1), none, none], [], SH, M, J, 0, 0)).symm.trans rfl
set_option maxRecDepth 20000 in
theorem e_Arrays_fill_O_5 (s : Nat) (hs : s = 7 ∨ s = 21) (x1 : Int32) (x2 : Int32) (x3 : Int32) (M : mMI) (J : mMJ) : k_Arrays_fill_O_5 s x1 x2 x3 M J = (if (x3 : Int32) ≤ x2 then (rV M J) else (if mIn x2 6 then (k_Arrays_fill_O_5 s x1 (x2 + 1) x3 (mUp M (s + 6) x2.toNatClampNeg x1) J) else none)) := by
  rcases hs with rfl | rfl
  · exact (mDen_eq PG 300 (195, 5, [some (.ref (7 + 6)), some (.int x1), some (.int x2), some (.int x3)], [], SH, M, J, 0, 0)).symm.trans rfl
  · exact (mDen_eq PG 300 (195, 5, [some (.ref (21 + 6)), some (.int x1), some (.int x2), some (.int x3)], [], SH, M, J, 0, 0)).symm.trans rfl
set_option maxRecDepth 20000 in
theorem e_Arrays_fill_B (x1 : Int32) (M : mMI) (J : mMJ) : k_Arrays_fill_B x1 M J = (k_Arrays_fill_B_5 x1 0 (Int32.ofNat 48) M J) := (mDen_eq PG 300 (195, 0, [some (.ref 36), some (.int x1), none, none], [], SH, M, J, 0, 0)).symm.trans rfl
set_option maxRecDepth 20000 in
theorem e_Arrays_fill_B_5 (x1 : Int32) (x2 : Int32) (x3 : Int32) (M : mMI) (J : mMJ) : k_Arrays_fill_B_5 x1 x2 x3 M J = (if (x3 : Int32) ≤ x2 then (rV M J) else (if mIn x2 48 then (k_Arrays_fill_B_5 x1 (x2 + 1) x3 (mUp M 36 x2.toNatClampNeg x1) J) else none)) := (mDen_eq PG 300 (195, 5, [some (.ref 36), some (.int x1), some (.int x2), some (.int x3)], [], SH, M, J, 0, 0)).symm.trans rfl
end
section
/-! equations of the cuts: by wip/whole/sym.py -/
set_option maxRecDepth 20000 in
theorem e_Pot_write (x1 : Int32) (x2 : Int64) (M : mMI) (J : mMJ) : k_Pot_write x1 x2 M J = (if (x1 : Int32) < 1 then (rI (-2) M J) else (if (x1 : Int32) ≤ 8 then (if (((M 1 1) + x1) : Int32) ≤ 40 then (k_Pot_write_21 x2 (x1 - 1) M J) else (rI (-4) M J)) else (rI (-2) M J))) := (mDen_eq PG 300 (46, 0, [some (.ref 0), some (.int x1), some (.long x2), none, none], [], SH, M, J, 0, 0)).symm.trans rfl
set_option maxRecDepth 20000 in
theorem e_Pot_write_21 (x2 : Int64) (x4 : Int32) (M : mMI) (J : mMJ) : k_Pot_write_21 x2 x4 M J = (if (x4 : Int32) < 0 then (rI (M 1 1) M J) else (mBR (k_Text_append (((x2 >>> ((8 * x4).toInt64 &&& 63)).toInt32) &&& 255) M J) 0 (fun M1 J1 => (k_Pot_write_21 x2 (x4 + (-1)) M1 J1)))) := (mDen_eq PG 300 (46, 21, [some (.ref 0), none, some (.long x2), none, some (.int x4)], [], SH, M, J, 0, 0)).symm.trans rfl
set_option maxRecDepth 20000 in
theorem e_Pot_wipe  (M : mMI) (J : mMJ) : k_Pot_wipe M J = (rI (M 1 1) (mUp M 1 1 0) J) := (mDen_eq PG 300 (47, 0, [some (.ref 0), none], [], SH, M, J, 0, 0)).symm.trans rfl
set_option maxRecDepth 20000 in
theorem e_Pot_fault (x1 : Int32) (M : mMI) (J : mMJ) : k_Pot_fault x1 M J = (if (x1 : Int32) = 0 then (mBI (k_Text_scan 5 M J) (fun v1 M1 J1 => (rI v1 M1 J1))) else (mBI (k_Text_scan 6 M J) (fun v2 M2 J2 => (rI v2 M2 J2)))) := (mDen_eq PG 300 (48, 0, [some (.ref 0), some (.int x1)], [], SH, M, J, 0, 0)).symm.trans rfl
set_option maxRecDepth 20000 in
theorem e_Pot_rule  (M : mMI) (J : mMJ) : k_Pot_rule M J = (mBI (k_Text_scan 5 M J) (fun v1 M1 J1 => (if (v1 : Int32) = (-9) then (mBR (k_Setup_takeRuleText M1 J1) 0 (fun M2 J2 => (rI (M2 1 4) (mUp M2 0 9 1) J2))) else (rI (-3) M1 J1)))) := (mDen_eq PG 300 (49, 0, [some (.ref 0)], [], SH, M, J, 0, 0)).symm.trans rfl
set_option maxRecDepth 20000 in
theorem e_Pot_group  (M : mMI) (J : mMJ) : k_Pot_group M J = (mBI (k_Text_scan 6 M J) (fun v1 M1 J1 => (if (v1 : Int32) = (-9) then (mBR (k_Setup_takeGroupText M1 J1) 0 (fun M2 J2 => (mBR (k_Setup_untell 7 M2 J2) 0 (fun M3 J3 => (k_Pot_group_19 0 M3 J3))))) else (rI (-3) M1 J1)))) := (mDen_eq PG 300 (50, 0, [some (.ref 0), none], [], SH, M, J, 0, 0)).symm.trans rfl
set_option maxRecDepth 20000 in
theorem e_Pot_group_19 (x1 : Int32) (M : mMI) (J : mMJ) : k_Pot_group_19 x1 M J = (if (2 : Int32) ≤ x1 then (rI (M 7 1) (mUp M 0 9 1) J) else (if x1 = nI 0 then (k_Pot_group_19 (x1 + 1) (mUp M 38 0 0) J) else (if x1 = nI 1 then (k_Pot_group_19 (x1 + 1) (mUp M 42 0 0) J) else none))) := (mDen_eq PG 300 (50, 19, [some (.ref 0), some (.int x1)], [], SH, M, J, 0, 0)).symm.trans rfl
set_option maxRecDepth 20000 in
theorem e_Pot_ruled (x1 : Int32) (M : mMI) (J : mMJ) : k_Pot_ruled x1 M J = (if (x1 : Int32) < 0 then (rI (-2) M J) else (if (x1 : Int32) < 4 then (if mIn x1 4 then (rI (M 8 x1.toNatClampNeg) M J) else none) else (rI (-2) M J))) := (mDen_eq PG 300 (51, 0, [some (.ref 0), some (.int x1)], [], SH, M, J, 0, 0)).symm.trans rfl
set_option maxRecDepth 20000 in
theorem e_Pot_person (x1 : Int32) (x2 : Int32) (M : mMI) (J : mMJ) : k_Pot_person x1 x2 M J = (mBI (k_Pot_isPerson x1 M J) (fun v1 M1 J1 => (if ¬ (v1 : Int32) = 0 then (if x2 = nI 0 then (if mIn x1 6 then (rI (M1 9 x1.toNatClampNeg) M1 J1) else none) else (if x2 = nI 1 then (if mIn x1 6 then (rI (M1 10 x1.toNatClampNeg) M1 J1) else none) else (if x2 = nI 2 then (if mIn x1 6 then (rI (M1 11 x1.toNatClampNeg) M1 J1) else none) else (rI (-2) M1 J1)))) else (rI (-1) M1 J1)))) := (mDen_eq PG 300 (52, 0, [some (.ref 0), some (.int x1), some (.int x2)], [], SH, M, J, 0, 0)).symm.trans rfl
set_option maxRecDepth 20000 in
theorem e_Pot_tell (x1 : Int32) (x2 : Int32) (x3 : Int32) (M : mMI) (J : mMJ) : k_Pot_tell x1 x2 x3 M J = (mBI (k_Pot_isPerson x1 M J) (fun v1 M1 J1 => (if (v1 : Int32) = 0 then (rI (-1) M1 J1) else (mBI (k_Pot_isRound x2 M1 J1) (fun v2 M2 J2 => (if ¬ (v2 : Int32) = 0 then (mBI (k_Pot_isCoinsOrNone x3 M2 J2) (fun v3 M3 J3 => (if ¬ (v3 : Int32) = 0 then (if mIn ((x2 * 6) + x1) 240 then (if mIn ((x2 * 6) + x1) 240 then (rI (M3 12 ((x2 * 6) + x1).toNatClampNeg) (mUp (mUp M3 12 ((x2 * 6) + x1).toNatClampNeg x3) 0 9 1) J3) else none) else none) else (rI (-2) M3 J3)))) else (rI (-1) M2 J2))))))) := (mDen_eq PG 300 (53, 0, [some (.ref 0), some (.int x1), some (.int x2), some (.int x3), none, none], [], SH, M, J, 0, 0)).symm.trans rfl
set_option maxRecDepth 20000 in
theorem e_Pot_send (x1 : Int32) (x2 : Int32) (M : mMI) (J : mMJ) : k_Pot_send x1 x2 M J = (mBI (k_Pot_isPerson x1 M J) (fun v1 M1 J1 => (if ¬ (v1 : Int32) = 0 then (if (x2 : Int32) < 0 then (rI (-2) M1 J1) else (if (x2 : Int32) ≤ 40 then (if (40 : Int32) ≤ x2 then (if mIn x1 6 then (if mIn x1 6 then (rI (M1 13 x1.toNatClampNeg) (mUp (mUp M1 13 x1.toNatClampNeg x2) 0 9 1) J1) else none) else none) else (mBI (k_Setup_canSpare 7 x1 M1 J1) (fun v2 M2 J2 => (if ¬ (v2 : Int32) = 0 then (if mIn x1 6 then (if mIn x1 6 then (rI (M2 13 x1.toNatClampNeg) (mUp (mUp M2 13 x1.toNatClampNeg x2) 0 9 1) J2) else none) else none) else (rI (-3) M2 J2))))) else (rI (-2) M1 J1))) else (rI (-1) M1 J1)))) := (mDen_eq PG 300 (54, 0, [some (.ref 0), some (.int x1), some (.int x2), none], [], SH, M, J, 0, 0)).symm.trans rfl
set_option maxRecDepth 20000 in
theorem e_Pot_fine (x1 : Int32) (M : mMI) (J : mMJ) : k_Pot_fine x1 M J = (if (x1 : Int32) < 0 then (rI (-2) M J) else (if (x1 : Int32) ≤ 9 then (if mIn 2 4 then (if mIn 2 4 then (rI (M 8 (2 : Int32).toNatClampNeg) (mUp (mUp M 8 (2 : Int32).toNatClampNeg x1) 0 9 1) J) else none) else none) else (rI (-2) M J))) := (mDen_eq PG 300 (55, 0, [some (.ref 0), some (.int x1), none], [], SH, M, J, 0, 0)).symm.trans rfl
set_option maxRecDepth 20000 in
theorem e_Pot_put (x1 : Int32) (x2 : Int32) (M : mMI) (J : mMJ) : k_Pot_put x1 x2 M J = (mBI (k_Pot_isPerson x1 M J) (fun v1 M1 J1 => (if (v1 : Int32) = 0 then (rI (-1) M1 J1) else (mBI (k_Pot_isRound x2 M1 J1) (fun v2 M2 J2 => (if ¬ (v2 : Int32) = 0 then (mBR (k_Pot_ran M2 J2) 15 (fun M3 J3 => (if mIn ((x2 * 6) + x1) 240 then (rI (M3 15 ((x2 * 6) + x1).toNatClampNeg) M3 J3) else none))) else (rI (-1) M2 J2))))))) := (mDen_eq PG 300 (56, 0, [some (.ref 0), some (.int x1), some (.int x2)], [], SH, M, J, 0, 0)).symm.trans rfl
set_option maxRecDepth 20000 in
theorem e_Pot_paid (x1 : Int32) (x2 : Int32) (x3 : Int32) (M : mMI) (J : mMJ) : k_Pot_paid x1 x2 x3 M J = (mBI (k_Pot_isPerson x1 M J) (fun v1 M1 J1 => (if (v1 : Int32) = 0 then (rI (-1) M1 J1) else (mBI (k_Pot_isPerson x2 M1 J1) (fun v2 M2 J2 => (if (v2 : Int32) = 0 then (rI (-1) M2 J2) else (mBI (k_Pot_isRound x3 M2 J2) (fun v3 M3 J3 => (if ¬ (v3 : Int32) = 0 then (if ¬ (x1 : Int32) = x2 then (mBR (k_Pot_ran M3 J3) 15 (fun M4 J4 => (if mIn ((((x3 * 6) + x1) * 6) + x2) 1440 then (rI (M4 16 ((((x3 * 6) + x1) * 6) + x2).toNatClampNeg) M4 J4) else none))) else (rI (-2) M3 J3)) else (rI (-1) M3 J3)))))))))) := (mDen_eq PG 300 (57, 0, [some (.ref 0), some (.int x1), some (.int x2), some (.int x3)], [], SH, M, J, 0, 0)).symm.trans rfl
set_option maxRecDepth 20000 in
theorem e_Pot_pot (x1 : Int32) (M : mMI) (J : mMJ) : k_Pot_pot x1 M J = (mBI (k_Pot_isRound x1 M J) (fun v1 M1 J1 => (if (v1 : Int32) = 0 then (rI (-1) M1 J1) else (mBR (k_Pot_ran M1 J1) 15 (fun M2 J2 => (if mIn x1 40 then (rI (M2 19 x1.toNatClampNeg) M2 J2) else none)))))) := (mDen_eq PG 300 (58, 0, [some (.ref 0), some (.int x1)], [], SH, M, J, 0, 0)).symm.trans rfl
set_option maxRecDepth 20000 in
theorem e_Pot_here (x1 : Int32) (M : mMI) (J : mMJ) : k_Pot_here x1 M J = (mBI (k_Pot_isRound x1 M J) (fun v1 M1 J1 => (if (v1 : Int32) = 0 then (rI (-1) M1 J1) else (mBI (k_Setup_countIn 7 x1 M1 J1) (fun v2 M2 J2 => (rI v2 M2 J2)))))) := (mDen_eq PG 300 (59, 0, [some (.ref 0), some (.int x1)], [], SH, M, J, 0, 0)).symm.trans rfl
set_option maxRecDepth 20000 in
theorem e_Pot_holds (x1 : Int32) (x2 : Int32) (M : mMI) (J : mMJ) : k_Pot_holds x1 x2 M J = (mBI (k_Pot_isPerson x1 M J) (fun v1 M1 J1 => (if (v1 : Int32) = 0 then (rJ (-1) M1 J1) else (mBI (k_Pot_isRound x2 M1 J1) (fun v2 M2 J2 => (if ¬ (v2 : Int32) = 0 then (mBR (k_Pot_ran M2 J2) 15 (fun M3 J3 => (if mIn ((x2 * 6) + x1) 240 then (rJ (1000000000 + (J3 18 ((x2 * 6) + x1).toNatClampNeg)) M3 J3) else none))) else (rJ (-1) M2 J2))))))) := (mDen_eq PG 300 (60, 0, [some (.ref 0), some (.int x1), some (.int x2)], [], SH, M, J, 0, 0)).symm.trans rfl
set_option maxRecDepth 20000 in
theorem e_Pot_all (x1 : Int32) (x2 : Int32) (M : mMI) (J : mMJ) : k_Pot_all x1 x2 M J = (mBI (k_Pot_isRound x1 M J) (fun v1 M1 J1 => (if ¬ (v1 : Int32) = 0 then (if (x2 : Int32) = 0 then (mBR (k_Pot_ran M1 J1) 15 (fun M2 J2 => (mBJ (k_Course_heldByAll 7 x1 M2 J2) (fun v3 M3 J3 => (rJ (1000000000 + v3) M3 J3))))) else (mBR (k_Pot_ranWithFine 0 M1 J1) 29 (fun M4 J4 => (mBJ (k_Course_heldByAll 21 x1 M4 J4) (fun v5 M5 J5 => (rJ (1000000000 + v5) M5 J5)))))) else (rJ (-1) M1 J1)))) := (mDen_eq PG 300 (61, 0, [some (.ref 0), some (.int x1), some (.int x2), none], [], SH, M, J, 0, 0)).symm.trans rfl
set_option maxRecDepth 20000 in
theorem e_Pot_lost (x1 : Int32) (x2 : Int32) (M : mMI) (J : mMJ) : k_Pot_lost x1 x2 M J = (mBI (k_Pot_isPerson x1 M J) (fun v1 M1 J1 => (if (v1 : Int32) = 0 then (rI (-1) M1 J1) else (mBI (k_Pot_isRound x2 M1 J1) (fun v2 M2 J2 => (if ¬ (v2 : Int32) = 0 then (mBR (k_Pot_ran M2 J2) 15 (fun M3 J3 => (if mIn ((x2 * 6) + x1) 240 then (rI (M3 17 ((x2 * 6) + x1).toNatClampNeg) M3 J3) else none))) else (rI (-1) M2 J2))))))) := (mDen_eq PG 300 (62, 0, [some (.ref 0), some (.int x1), some (.int x2)], [], SH, M, J, 0, 0)).symm.trans rfl
set_option maxRecDepth 20000 in
theorem e_Pot_fall  (M : mMI) (J : mMJ) : k_Pot_fall M J = (mBR (k_Pot_ran M J) 15 (fun M1 J1 => (if mIn 0 40 then (if ¬ ((M1 19 (0 : Int32).toNatClampNeg) : Int32) = 0 then (k_Pot_fall_12 1 M1 J1) else (rI (-9) M1 J1)) else none))) := (mDen_eq PG 300 (63, 0, [some (.ref 0), none, none], [], SH, M, J, 0, 0)).symm.trans rfl
set_option maxRecDepth 20000 in
theorem e_Pot_fall_12 (x2 : Int32) (M : mMI) (J : mMJ) : k_Pot_fall_12 x2 M J = (if (40 : Int32) ≤ x2 then (rI (-9) M J) else (if mIn x2 40 then (if mIn 0 40 then (if ((M 19 (0 : Int32).toNatClampNeg) : Int32) < (2 * (M 19 x2.toNatClampNeg)) then (k_Pot_fall_12 (x2 + 1) M J) else (rI x2 M J)) else none) else none)) := (mDen_eq PG 300 (63, 12, [none, some (.ref 14), some (.int x2)], [], SH, M, J, 0, 0)).symm.trans rfl
set_option maxRecDepth 20000 in
theorem e_Pot_pays  (M : mMI) (J : mMJ) : k_Pot_pays M J = (mBR (k_Pot_ran M J) 15 (fun M1 J1 => (mBR (k_Pot_ranWithFine 0 M1 J1) 29 (fun M2 J2 => (k_Pot_pays_11 (-9) 39 M2 J2))))) := (mDen_eq PG 300 (64, 0, [some (.ref 0), none, none, none, none], [], SH, M, J, 0, 0)).symm.trans rfl
set_option maxRecDepth 20000 in
theorem e_Pot_pays_11 (x3 : Int32) (x4 : Int32) (M : mMI) (J : mMJ) : k_Pot_pays_11 x3 x4 M J = (if (x4 : Int32) < 0 then (rI x3 M J) else (mBJ (k_Course_heldByAll 7 x4 M J) (fun v3 M3 J3 => (mBJ (k_Course_heldByAll 21 x4 M3 J3) (fun v4 M4 J4 => (if (0 : Int32) < (lg_cmp v3 v4) then (k_Pot_pays_11 x4 (x4 + (-1)) M4 J4) else (rI x3 M4 J4))))))) := (mDen_eq PG 300 (64, 11, [none, some (.ref 14), some (.ref 28), some (.int x3), some (.int x4)], [], SH, M, J, 0, 0)).symm.trans rfl
set_option maxRecDepth 20000 in
theorem e_Pot_vote (x1 : Int32) (M : mMI) (J : mMJ) : k_Pot_vote x1 M J = (mBI (k_Pot_isRound x1 M J) (fun v1 M1 J1 => (if ¬ (v1 : Int32) = 0 then (mBR (k_Pot_ran M1 J1) 15 (fun M2 J2 => (mBR (k_Pot_ranWithFine 0 M2 J2) 29 (fun M3 J3 => (k_Pot_vote_16 x1 0 0 M3 J3))))) else (rI (-1) M1 J1)))) := (mDen_eq PG 300 (65, 0, [some (.ref 0), some (.int x1), none, none, none, none, none], [], SH, M, J, 0, 0)).symm.trans rfl
set_option maxRecDepth 20000 in
theorem e_Pot_vote_16 (x1 : Int32) (x4 : Int32) (x5 : Int32) (M : mMI) (J : mMJ) : k_Pot_vote_16 x1 x4 x5 M J = (if ((M 7 1) : Int32) ≤ x5 then (rI x4 M J) else (if mIn ((x1 * 6) + x5) 240 then (if mIn ((x1 * 6) + x5) 240 then (if ((lg_cmp (J 18 ((x1 * 6) + x5).toNatClampNeg) (J 32 ((x1 * 6) + x5).toNatClampNeg)) : Int32) ≤ 0 then (k_Pot_vote_16 x1 x4 (x5 + 1) M J) else (k_Pot_vote_16 x1 (x4 ||| (1 <<< (x5 &&& 31))) (x5 + 1) M J)) else none) else none)) := (mDen_eq PG 300 (65, 16, [some (.ref 0), some (.int x1), some (.ref 14), some (.ref 28), some (.int x4), some (.int x5), none], [], SH, M, J, 0, 0)).symm.trans rfl
set_option maxRecDepth 20000 in
theorem e_Pot_least (x1 : Int32) (x2 : Int32) (M : mMI) (J : mMJ) : k_Pot_least x1 x2 M J = (mBI (k_Pot_isRound x1 M J) (fun v1 M1 J1 => (if ¬ (v1 : Int32) = 0 then (if (x2 : Int32) < 0 then (rI (-2) M1 J1) else (if (x2 : Int32) ≤ 20 then (mBI (k_Setup_countIn 7 x1 M1 J1) (fun v2 M2 J2 => (k_Pot_least_21 x1 (x2 * v2) 0 M2 J2))) else (rI (-2) M1 J1))) else (rI (-1) M1 J1)))) := (mDen_eq PG 300 (66, 0, [some (.ref 0), some (.int x1), some (.int x2), none, none], [], SH, M, J, 0, 0)).symm.trans rfl
set_option maxRecDepth 20000 in
theorem e_Pot_least_21 (x1 : Int32) (x3 : Int32) (x4 : Int32) (M : mMI) (J : mMJ) : k_Pot_least_21 x1 x3 x4 M J = (if (9 : Int32) < x4 then (rI (-9) M J) else (mBR (k_Pot_ranWithFine x4 M J) 29 (fun M3 J3 => (if mIn x1 40 then (if ((M3 33 x1.toNatClampNeg) : Int32) < x3 then (k_Pot_least_21 x1 x3 (x4 + 1) M3 J3) else (rI x4 M3 J3)) else none)))) := (mDen_eq PG 300 (66, 21, [some (.ref 0), some (.int x1), none, some (.int x3), some (.int x4)], [], SH, M, J, 0, 0)).symm.trans rfl
set_option maxRecDepth 20000 in
theorem e_Pot_leader  (M : mMI) (J : mMJ) : k_Pot_leader M J = (k_Pot_leader_6 0 0 0 M J) := (mDen_eq PG 300 (67, 0, [some (.ref 0), none, none, none, none, none, none], [], SH, M, J, 0, 0)).symm.trans rfl
set_option maxRecDepth 20000 in
theorem e_Pot_leader_6 (x1 : Int32) (x2 : Int64) (x4 : Int32) (M : mMI) (J : mMJ) : k_Pot_leader_6 x1 x2 x4 M J = (if ((M 7 1) : Int32) ≤ x4 then (rI x1 M J) else (mBJ (k_Pot_heldIfLedBy x4 M J) (fun v1 M1 J1 => (if (x4 : Int32) = 0 then (k_Pot_leader_6 x4 v1 (x4 + 1) M1 J1) else (if ((lg_cmp v1 x2) : Int32) ≤ 0 then (k_Pot_leader_6 x1 x2 (x4 + 1) M1 J1) else (k_Pot_leader_6 x4 v1 (x4 + 1) M1 J1)))))) := (mDen_eq PG 300 (67, 6, [some (.ref 0), some (.int x1), some (.long x2), none, some (.int x4), none, none], [], SH, M, J, 0, 0)).symm.trans rfl
set_option maxRecDepth 20000 in
theorem e_Pot_led  (M : mMI) (J : mMJ) : k_Pot_led M J = (mBJ (k_Pot_heldIfLedBy 0 M J) (fun v1 M1 J1 => (k_Pot_led_6 v1 1 M1 J1))) := (mDen_eq PG 300 (68, 0, [some (.ref 0), none, none, none], [], SH, M, J, 0, 0)).symm.trans rfl
set_option maxRecDepth 20000 in
theorem e_Pot_led_6 (x1 : Int64) (x3 : Int32) (M : mMI) (J : mMJ) : k_Pot_led_6 x1 x3 M J = (if ((M 7 1) : Int32) ≤ x3 then (rJ (1000000000 + x1) M J) else (mBJ (k_Pot_heldIfLedBy x3 M J) (fun v2 M2 J2 => (k_Pot_led_6 (mMxJ x1 v2) (x3 + 1) M2 J2)))) := (mDen_eq PG 300 (68, 6, [some (.ref 0), some (.long x1), none, some (.int x3)], [], SH, M, J, 0, 0)).symm.trans rfl
set_option maxRecDepth 20000 in
theorem e_Pot_whom  (M : mMI) (J : mMJ) : k_Pot_whom M J = (k_Pot_whom_6 (-3) 0 0 M J) := (mDen_eq PG 300 (69, 0, [some (.ref 0), none, none, none, none, none, none], [], SH, M, J, 0, 0)).symm.trans rfl
set_option maxRecDepth 20000 in
theorem e_Pot_whom_6 (x1 : Int32) (x2 : Int64) (x4 : Int32) (M : mMI) (J : mMJ) : k_Pot_whom_6 x1 x2 x4 M J = (if ((M 7 1) : Int32) ≤ x4 then (rI x1 M J) else (mBI (k_Setup_canSpare 7 x4 M J) (fun v1 M1 J1 => (if (v1 : Int32) = 0 then (k_Pot_whom_6 x1 x2 (x4 + 1) M1 J1) else (mBJ (k_Pot_heldIfOut x4 M1 J1) (fun v2 M2 J2 => (if (x1 : Int32) = (-3) then (k_Pot_whom_6 x4 v2 (x4 + 1) M2 J2) else (if ((lg_cmp v2 x2) : Int32) ≤ 0 then (k_Pot_whom_6 x1 x2 (x4 + 1) M2 J2) else (k_Pot_whom_6 x4 v2 (x4 + 1) M2 J2))))))))) := (mDen_eq PG 300 (69, 6, [some (.ref 0), some (.int x1), some (.long x2), none, some (.int x4), none, none], [], SH, M, J, 0, 0)).symm.trans rfl
set_option maxRecDepth 20000 in
theorem e_Pot_without (x1 : Int32) (M : mMI) (J : mMJ) : k_Pot_without x1 M J = (mBI (k_Pot_isPerson x1 M J) (fun v1 M1 J1 => (if ¬ (v1 : Int32) = 0 then (mBI (k_Setup_canSpare 7 x1 M1 J1) (fun v2 M2 J2 => (if (v2 : Int32) = 0 then (rJ (-3) M2 J2) else (mBJ (k_Pot_heldIfOut x1 M2 J2) (fun v3 M3 J3 => (rJ (1000000000 + v3) M3 J3)))))) else (rJ (-1) M1 J1)))) := (mDen_eq PG 300 (70, 0, [some (.ref 0), some (.int x1)], [], SH, M, J, 0, 0)).symm.trans rfl
set_option maxRecDepth 20000 in
theorem e_Pot_part  (M : mMI) (J : mMJ) : k_Pot_part M J = (k_Pot_part_6 (-3) 0 1 M J) := (mDen_eq PG 300 (71, 0, [some (.ref 0), none, none, none, none, none, none], [], SH, M, J, 0, 0)).symm.trans rfl
set_option maxRecDepth 20000 in
theorem e_Pot_part_6 (x1 : Int32) (x2 : Int64) (x4 : Int32) (M : mMI) (J : mMJ) : k_Pot_part_6 x1 x2 x4 M J = (mBI (k_Pot_canBeHalved M J) (fun v1 M1 J1 => (if (v1 : Int32) = 0 then (rI x1 M1 J1) else (if ((1 <<< ((M1 7 1) &&& 31)) : Int32) ≤ x4 then (rI x1 M1 J1) else (mBI (k_Pot_isHalf x4 M1 J1) (fun v2 M2 J2 => (if (v2 : Int32) = 0 then (k_Pot_part_6 x1 x2 (x4 + 2) M2 J2) else (mBJ (k_Pot_heldByHalves x4 M2 J2) (fun v3 M3 J3 => (if (x1 : Int32) = (-3) then (k_Pot_part_6 x4 v3 (x4 + 2) M3 J3) else (if ((lg_cmp v3 x2) : Int32) ≤ 0 then (k_Pot_part_6 x1 x2 (x4 + 2) M3 J3) else (k_Pot_part_6 x4 v3 (x4 + 2) M3 J3)))))))))))) := (mDen_eq PG 300 (71, 6, [some (.ref 0), some (.int x1), some (.long x2), none, some (.int x4), none, none], [], SH, M, J, 0, 0)).symm.trans rfl
set_option maxRecDepth 20000 in
theorem e_Pot_parted  (M : mMI) (J : mMJ) : k_Pot_parted M J = (mBI (k_Pot_canBeHalved M J) (fun v1 M1 J1 => (if ¬ (v1 : Int32) = 0 then (k_Pot_parted_9 (-9223372036854775808) 1 M1 J1) else (rJ (-3) M1 J1)))) := (mDen_eq PG 300 (72, 0, [some (.ref 0), none, none, none], [], SH, M, J, 0, 0)).symm.trans rfl
set_option maxRecDepth 20000 in
theorem e_Pot_parted_9 (x1 : Int64) (x3 : Int32) (M : mMI) (J : mMJ) : k_Pot_parted_9 x1 x3 M J = (if ((1 <<< ((M 7 1) &&& 31)) : Int32) ≤ x3 then (rJ (1000000000 + x1) M J) else (mBI (k_Pot_isHalf x3 M J) (fun v2 M2 J2 => (if (v2 : Int32) = 0 then (k_Pot_parted_9 x1 (x3 + 2) M2 J2) else (mBJ (k_Pot_heldByHalves x3 M2 J2) (fun v3 M3 J3 => (k_Pot_parted_9 (mMxJ x1 v3) (x3 + 2) M3 J3))))))) := (mDen_eq PG 300 (72, 9, [some (.ref 0), some (.long x1), none, some (.int x3)], [], SH, M, J, 0, 0)).symm.trans rfl
set_option maxRecDepth 20000 in
theorem e_Pot_reply (x1 : Int32) (x2 : Int32) (M : mMI) (J : mMJ) : k_Pot_reply x1 x2 M J = (mBI (k_Pot_isPerson x1 M J) (fun v1 M1 J1 => (if (v1 : Int32) = 0 then (rI (-1) M1 J1) else (mBI (k_Pot_isRound x2 M1 J1) (fun v2 M2 J2 => (if ¬ (v2 : Int32) = 0 then (mBI (k_Setup_isIn 7 x1 x2 M2 J2) (fun v3 M3 J3 => (if (v3 : Int32) = 0 then (rI (-3) M3 J3) else (mBR (k_Pot_ran M3 J3) 15 (fun M4 J4 => (mBI (k_Course_bestPut 7 x1 x2 M4 J4) (fun v5 M5 J5 => (rI v5 M5 J5)))))))) else (rI (-1) M2 J2))))))) := (mDen_eq PG 300 (73, 0, [some (.ref 0), some (.int x1), some (.int x2)], [], SH, M, J, 0, 0)).symm.trans rfl
set_option maxRecDepth 20000 in
theorem e_Pot_gain (x1 : Int32) (x2 : Int32) (x3 : Int32) (M : mMI) (J : mMJ) : k_Pot_gain x1 x2 x3 M J = (mBI (k_Pot_isPerson x1 M J) (fun v1 M1 J1 => (if (v1 : Int32) = 0 then (rJ (-1) M1 J1) else (mBI (k_Pot_isRound x2 M1 J1) (fun v2 M2 J2 => (if ¬ (v2 : Int32) = 0 then (if (x3 : Int32) < 0 then (rJ (-2) M2 J2) else (if mIn 0 4 then (if (x3 : Int32) ≤ (M2 8 (0 : Int32).toNatClampNeg) then (mBI (k_Setup_isIn 7 x1 x2 M2 J2) (fun v3 M3 J3 => (if (v3 : Int32) = 0 then (rJ (-3) M3 J3) else (mBR (k_Pot_ran M3 J3) 15 (fun M4 J4 => (mBJ (k_Course_gotBy 7 x1 x2 x3 M4 J4) (fun v5 M5 J5 => (rJ (1000000000 + v5) M5 J5)))))))) else (rJ (-2) M2 J2)) else none)) else (rJ (-1) M2 J2))))))) := (mDen_eq PG 300 (74, 0, [some (.ref 0), some (.int x1), some (.int x2), some (.int x3)], [], SH, M, J, 0, 0)).symm.trans rfl
set_option maxRecDepth 20000 in
theorem e_Pot_rest (x1 : Int32) (M : mMI) (J : mMJ) : k_Pot_rest x1 M J = (mBI (k_Pot_isRound x1 M J) (fun v1 M1 J1 => (if ¬ (v1 : Int32) = 0 then (mBR (k_Pot_ran M1 J1) 15 (fun M2 J2 => (mBI (k_Course_isAtRest 7 x1 M2 J2) (fun v3 M3 J3 => (if (v3 : Int32) = 0 then (rI 0 M3 J3) else (rI 1 M3 J3)))))) else (rI (-1) M1 J1)))) := (mDen_eq PG 300 (75, 0, [some (.ref 0), some (.int x1)], [], SH, M, J, 0, 0)).symm.trans rfl
set_option maxRecDepth 20000 in
theorem e_Pot_note (x1 : Int32) (x2 : Int32) (x3 : Int32) (M : mMI) (J : mMJ) : k_Pot_note x1 x2 x3 M J = (mBI (k_Pot_isBookPerson x1 M J) (fun v1 M1 J1 => (if (v1 : Int32) = 0 then (rI (-1) M1 J1) else (mBI (k_Pot_isBookRound x2 M1 J1) (fun v2 M2 J2 => (if ¬ (v2 : Int32) = 0 then (mBI (k_Pot_isCoinsOrNone x3 M2 J2) (fun v3 M3 J3 => (if ¬ (v3 : Int32) = 0 then (if mIn ((x1 * 8) + x2) 48 then (if mIn ((x1 * 8) + x2) 48 then (rI (M3 36 ((x1 * 8) + x2).toNatClampNeg) (mUp M3 36 ((x1 * 8) + x2).toNatClampNeg x3) J3) else none) else none) else (rI (-2) M3 J3)))) else (rI (-1) M2 J2))))))) := (mDen_eq PG 300 (76, 0, [some (.ref 0), some (.int x1), some (.int x2), some (.int x3), none, none], [], SH, M, J, 0, 0)).symm.trans rfl
set_option maxRecDepth 20000 in
theorem e_Pot_would (x1 : Int32) (x2 : Int32) (x3 : Int32) (M : mMI) (J : mMJ) : k_Pot_would x1 x2 x3 M J = (mBI (k_Pot_isBookPerson x2 M J) (fun v1 M1 J1 => (if (v1 : Int32) = 0 then (rI (-1) M1 J1) else (mBI (k_Pot_isBookRound x3 M1 J1) (fun v2 M2 J2 => (if ¬ (v2 : Int32) = 0 then (mBI (k_Pot_isSort x1 M2 J2) (fun v3 M3 J3 => (if (v3 : Int32) = 0 then (rI (-2) M3 J3) else (mBI (k_Book_toldBy x1 x2 x3 M3 J3) (fun v4 M4 J4 => (rI v4 M4 J4)))))) else (rI (-1) M2 J2))))))) := (mDen_eq PG 300 (77, 0, [some (.ref 0), some (.int x1), some (.int x2), some (.int x3)], [], SH, M, J, 0, 0)).symm.trans rfl
set_option maxRecDepth 20000 in
theorem e_Pot_slips (x1 : Int32) (x2 : Int32) (M : mMI) (J : mMJ) : k_Pot_slips x1 x2 M J = (mBI (k_Pot_isBookPerson x2 M J) (fun v1 M1 J1 => (if ¬ (v1 : Int32) = 0 then (mBI (k_Pot_isSort x1 M1 J1) (fun v2 M2 J2 => (if (v2 : Int32) = 0 then (rI (-2) M2 J2) else (mBI (k_Book_countSlips x1 x2 M2 J2) (fun v3 M3 J3 => (rI v3 M3 J3)))))) else (rI (-1) M1 J1)))) := (mDen_eq PG 300 (78, 0, [some (.ref 0), some (.int x1), some (.int x2)], [], SH, M, J, 0, 0)).symm.trans rfl
set_option maxRecDepth 20000 in
theorem e_Pot_sort (x1 : Int32) (M : mMI) (J : mMJ) : k_Pot_sort x1 M J = (mBI (k_Pot_isBookPerson x1 M J) (fun v1 M1 J1 => (if (v1 : Int32) = 0 then (rI (-1) M1 J1) else (mBI (k_Book_bestSort x1 M1 J1) (fun v2 M2 J2 => (rI v2 M2 J2)))))) := (mDen_eq PG 300 (79, 0, [some (.ref 0), some (.int x1)], [], SH, M, J, 0, 0)).symm.trans rfl
set_option maxRecDepth 20000 in
theorem e_Pot_sorts (x1 : Int32) (x2 : Int32) (M : mMI) (J : mMJ) : k_Pot_sorts x1 x2 M J = (mBI (k_Pot_isBookPerson x1 M J) (fun v1 M1 J1 => (if ¬ (v1 : Int32) = 0 then (if (x2 : Int32) < 0 then (rI (-2) M1 J1) else (if (x2 : Int32) ≤ 8 then (mBI (k_Book_countSorts x1 x2 M1 J1) (fun v2 M2 J2 => (rI v2 M2 J2))) else (rI (-2) M1 J1))) else (rI (-1) M1 J1)))) := (mDen_eq PG 300 (80, 0, [some (.ref 0), some (.int x1), some (.int x2)], [], SH, M, J, 0, 0)).symm.trans rfl
set_option maxRecDepth 20000 in
theorem e_Pot_copy  (M : mMI) (J : mMJ) : k_Pot_copy M J = (mBR (k_Pot_ran M J) 15 (fun M1 J1 => (mBR (k_Arrays_fill_B (-9) M1 J1) 0 (fun M2 J2 => (k_Pot_copy_10 0 M2 J2))))) := (mDen_eq PG 300 (81, 0, [some (.ref 0), none, none, none], [], SH, M, J, 0, 0)).symm.trans rfl
set_option maxRecDepth 20000 in
theorem e_Pot_copy_10 (x2 : Int32) (M : mMI) (J : mMJ) : k_Pot_copy_10 x2 M J = (if ((M 7 1) : Int32) ≤ x2 then (mBI (k_Pot_countTold_B M J) (fun v3 M3 J3 => (rI v3 M3 J3))) else (k_Pot_copy_17 x2 0 M J)) := (mDen_eq PG 300 (81, 10, [some (.ref 0), some (.ref 14), some (.int x2), none], [], SH, M, J, 0, 0)).symm.trans rfl
set_option maxRecDepth 20000 in
theorem e_Pot_copy_17 (x2 : Int32) (x3 : Int32) (M : mMI) (J : mMJ) : k_Pot_copy_17 x2 x3 M J = (if (8 : Int32) ≤ x3 then (k_Pot_copy_10 (x2 + 1) M J) else (if mIn ((x3 * 6) + x2) 240 then (if mIn ((x2 * 8) + x3) 48 then (k_Pot_copy_17 x2 (x3 + 1) (mUp M 36 ((x2 * 8) + x3).toNatClampNeg (M 15 ((x3 * 6) + x2).toNatClampNeg)) J) else none) else none)) := (mDen_eq PG 300 (81, 17, [some (.ref 0), some (.ref 14), some (.int x2), some (.int x3)], [], SH, M, J, 0, 0)).symm.trans rfl
set_option maxRecDepth 20000 in
theorem e_Pot_keep (x1 : Int32) (M : mMI) (J : mMJ) : k_Pot_keep x1 M J = (mBI (k_Pot_isSlot x1 M J) (fun v1 M1 J1 => (if ¬ (v1 : Int32) = 0 then (if x1 = nI 0 then (mBR (k_Kept_fillFrom 38 M1 J1) 0 (fun M4 J4 => (mBI (k_Pot_countTold_T M4 J4) (fun v5 M5 J5 => (rI v5 M5 J5))))) else (if x1 = nI 1 then (mBR (k_Kept_fillFrom 42 M1 J1) 0 (fun M2 J2 => (mBI (k_Pot_countTold_T M2 J2) (fun v3 M3 J3 => (rI v3 M3 J3))))) else none)) else (rI (-1) M1 J1)))) := (mDen_eq PG 300 (82, 0, [some (.ref 0), some (.int x1)], [], SH, M, J, 0, 0)).symm.trans rfl
set_option maxRecDepth 20000 in
theorem e_Pot_again (x1 : Int32) (M : mMI) (J : mMJ) : k_Pot_again x1 M J = (mBI (k_Pot_isSlot x1 M J) (fun v1 M1 J1 => (if ¬ (v1 : Int32) = 0 then (if x1 = nI 0 then (if ¬ ((M1 38 0) : Int32) = 0 then (if x1 = nI 0 then (mBR (k_Kept_giveBack 38 M1 J1) 0 (fun M8 J8 => (mBI (k_Pot_countTold_T (mUp M8 0 9 1) J8) (fun v9 M9 J9 => (rI v9 M9 J9))))) else (if x1 = nI 1 then (mBR (k_Kept_giveBack 42 M1 J1) 0 (fun M6 J6 => (mBI (k_Pot_countTold_T (mUp M6 0 9 1) J6) (fun v7 M7 J7 => (rI v7 M7 J7))))) else none)) else (rI (-3) M1 J1)) else (if x1 = nI 1 then (if ¬ ((M1 42 0) : Int32) = 0 then (if x1 = nI 0 then (mBR (k_Kept_giveBack 38 M1 J1) 0 (fun M4 J4 => (mBI (k_Pot_countTold_T (mUp M4 0 9 1) J4) (fun v5 M5 J5 => (rI v5 M5 J5))))) else (if x1 = nI 1 then (mBR (k_Kept_giveBack 42 M1 J1) 0 (fun M2 J2 => (mBI (k_Pot_countTold_T (mUp M2 0 9 1) J2) (fun v3 M3 J3 => (rI v3 M3 J3))))) else none)) else (rI (-3) M1 J1)) else none)) else (rI (-1) M1 J1)))) := (mDen_eq PG 300 (83, 0, [some (.ref 0), some (.int x1)], [], SH, M, J, 0, 0)).symm.trans rfl
set_option maxRecDepth 20000 in
theorem e_Pot_count (x1 : Int32) (M : mMI) (J : mMJ) : k_Pot_count x1 M J = (if x1 = nI 0 then (rI (M 7 1) M J) else (if x1 = nI 1 then (mBI (k_Pot_countTold_T M J) (fun v3 M3 J3 => (rI v3 M3 J3))) else (if x1 = nI 2 then (mBI (k_Setup_countIn 7 39 M J) (fun v2 M2 J2 => (rI ((M 7 1) - v2) M2 J2))) else (if x1 = nI 3 then (mBI (k_Pot_countTold_B M J) (fun v1 M1 J1 => (rI v1 M1 J1))) else (if x1 = nI 4 then (rI (M 1 1) M J) else (rI (-2) M J)))))) := (mDen_eq PG 300 (84, 0, [some (.ref 0), some (.int x1)], [], SH, M, J, 0, 0)).symm.trans rfl
set_option maxRecDepth 20000 in
theorem e_Pot_isPerson (x1 : Int32) (M : mMI) (J : mMJ) : k_Pot_isPerson x1 M J = (if (x1 : Int32) < 0 then (rZ 0 M J) else (if ((M 7 1) : Int32) ≤ x1 then (rZ 0 M J) else (rZ 1 M J))) := (mDen_eq PG 300 (85, 0, [some (.ref 0), some (.int x1)], [], SH, M, J, 0, 0)).symm.trans rfl
set_option maxRecDepth 20000 in
theorem e_Pot_isRound (x0 : Int32) (M : mMI) (J : mMJ) : k_Pot_isRound x0 M J = (if (x0 : Int32) < 0 then (rZ 0 M J) else (if (40 : Int32) ≤ x0 then (rZ 0 M J) else (rZ 1 M J))) := (mDen_eq PG 300 (86, 0, [some (.int x0)], [], SH, M, J, 0, 0)).symm.trans rfl
set_option maxRecDepth 20000 in
theorem e_Pot_isSlot (x0 : Int32) (M : mMI) (J : mMJ) : k_Pot_isSlot x0 M J = (if (x0 : Int32) < 0 then (rZ 0 M J) else (if (2 : Int32) ≤ x0 then (rZ 0 M J) else (rZ 1 M J))) := (mDen_eq PG 300 (87, 0, [some (.int x0)], [], SH, M, J, 0, 0)).symm.trans rfl
set_option maxRecDepth 20000 in
theorem e_Pot_isCoinsOrNone (x0 : Int32) (M : mMI) (J : mMJ) : k_Pot_isCoinsOrNone x0 M J = (if (x0 : Int32) = (-9) then (rZ 1 M J) else (if (x0 : Int32) < 0 then (rZ 0 M J) else (if (20 : Int32) < x0 then (rZ 0 M J) else (rZ 1 M J)))) := (mDen_eq PG 300 (88, 0, [some (.int x0)], [], SH, M, J, 0, 0)).symm.trans rfl
set_option maxRecDepth 20000 in
theorem e_Pot_isBookPerson (x0 : Int32) (M : mMI) (J : mMJ) : k_Pot_isBookPerson x0 M J = (if (x0 : Int32) < 0 then (rZ 0 M J) else (if (6 : Int32) ≤ x0 then (rZ 0 M J) else (rZ 1 M J))) := (mDen_eq PG 300 (89, 0, [some (.int x0)], [], SH, M, J, 0, 0)).symm.trans rfl
set_option maxRecDepth 20000 in
theorem e_Pot_isBookRound (x0 : Int32) (M : mMI) (J : mMJ) : k_Pot_isBookRound x0 M J = (if (x0 : Int32) < 0 then (rZ 0 M J) else (if (8 : Int32) ≤ x0 then (rZ 0 M J) else (rZ 1 M J))) := (mDen_eq PG 300 (90, 0, [some (.int x0)], [], SH, M, J, 0, 0)).symm.trans rfl
set_option maxRecDepth 20000 in
theorem e_Pot_isSort (x0 : Int32) (M : mMI) (J : mMJ) : k_Pot_isSort x0 M J = (if (x0 : Int32) = 0 then (k_Pot_isSort_20 M J) else (if (x0 : Int32) < 100 then (k_Pot_isSort_8 x0 M J) else (if (x0 : Int32) ≤ 120 then (k_Pot_isSort_20 M J) else (k_Pot_isSort_8 x0 M J)))) := (mDen_eq PG 300 (91, 0, [some (.int x0)], [], SH, M, J, 0, 0)).symm.trans rfl
set_option maxRecDepth 20000 in
theorem e_Pot_isSort_20  (M : mMI) (J : mMJ) : k_Pot_isSort_20 M J = (k_Pot_isSort_23 1 M J) := (mDen_eq PG 300 (91, 20, [none], [], SH, M, J, 0, 0)).symm.trans rfl
set_option maxRecDepth 20000 in
theorem e_Pot_isSort_8 (x0 : Int32) (M : mMI) (J : mMJ) : k_Pot_isSort_8 x0 M J = (if (x0 : Int32) < 200 then (k_Pot_isSort_14 x0 M J) else (if (x0 : Int32) ≤ 209 then (k_Pot_isSort_20 M J) else (k_Pot_isSort_14 x0 M J))) := (mDen_eq PG 300 (91, 8, [some (.int x0)], [], SH, M, J, 0, 0)).symm.trans rfl
set_option maxRecDepth 20000 in
theorem e_Pot_isSort_23 (y0 : Int32) (M : mMI) (J : mMJ) : k_Pot_isSort_23 y0 M J = (rZ y0 M J) := (mDen_eq PG 300 (91, 23, [none], [(.int y0)], SH, M, J, 0, 0)).symm.trans rfl
set_option maxRecDepth 20000 in
theorem e_Pot_isSort_14 (x0 : Int32) (M : mMI) (J : mMJ) : k_Pot_isSort_14 x0 M J = (if (x0 : Int32) < 300 then (k_Pot_isSort_22 M J) else (if (309 : Int32) < x0 then (k_Pot_isSort_22 M J) else (k_Pot_isSort_20 M J))) := (mDen_eq PG 300 (91, 14, [some (.int x0)], [], SH, M, J, 0, 0)).symm.trans rfl
set_option maxRecDepth 20000 in
theorem e_Pot_isSort_22  (M : mMI) (J : mMJ) : k_Pot_isSort_22 M J = (k_Pot_isSort_23 0 M J) := (mDen_eq PG 300 (91, 22, [none], [], SH, M, J, 0, 0)).symm.trans rfl
set_option maxRecDepth 20000 in
theorem e_Pot_placeOf (x0 : Int32) (x1 : Int32) (M : mMI) (J : mMJ) : k_Pot_placeOf x0 x1 M J = (rI ((x1 * 6) + x0) M J) := (mDen_eq PG 300 (92, 0, [some (.int x0), some (.int x1)], [], SH, M, J, 0, 0)).symm.trans rfl
set_option maxRecDepth 20000 in
theorem e_Pot_paymentOf (x0 : Int32) (x1 : Int32) (x2 : Int32) (M : mMI) (J : mMJ) : k_Pot_paymentOf x0 x1 x2 M J = (rI ((((x2 * 6) + x0) * 6) + x1) M J) := (mDen_eq PG 300 (93, 0, [some (.int x0), some (.int x1), some (.int x2)], [], SH, M, J, 0, 0)).symm.trans rfl
set_option maxRecDepth 20000 in
theorem e_Pot_bookPlaceOf (x0 : Int32) (x1 : Int32) (M : mMI) (J : mMJ) : k_Pot_bookPlaceOf x0 x1 M J = (rI ((x0 * 8) + x1) M J) := (mDen_eq PG 300 (94, 0, [some (.int x0), some (.int x1)], [], SH, M, J, 0, 0)).symm.trans rfl
set_option maxRecDepth 20000 in
theorem e_Pot_countTold_T  (M : mMI) (J : mMJ) : k_Pot_countTold_T M J = (k_Pot_countTold_T_4 0 0 M J) := (mDen_eq PG 300 (95, 0, [some (.ref 12), none, none], [], SH, M, J, 0, 0)).symm.trans rfl
set_option maxRecDepth 20000 in
theorem e_Pot_countTold_T_4 (x1 : Int32) (x2 : Int32) (M : mMI) (J : mMJ) : k_Pot_countTold_T_4 x1 x2 M J = (if ((Int32.ofNat 240) : Int32) ≤ x2 then (rI x1 M J) else (if mIn x2 240 then (if ((M 12 x2.toNatClampNeg) : Int32) = (-9) then (k_Pot_countTold_T_4 x1 (x2 + 1) M J) else (k_Pot_countTold_T_4 (x1 + 1) (x2 + 1) M J)) else none)) := (mDen_eq PG 300 (95, 4, [some (.ref 12), some (.int x1), some (.int x2)], [], SH, M, J, 0, 0)).symm.trans rfl
set_option maxRecDepth 20000 in
theorem e_Pot_countTold_B  (M : mMI) (J : mMJ) : k_Pot_countTold_B M J = (k_Pot_countTold_B_4 0 0 M J) := (mDen_eq PG 300 (95, 0, [some (.ref 36), none, none], [], SH, M, J, 0, 0)).symm.trans rfl
set_option maxRecDepth 20000 in
theorem e_Pot_countTold_B_4 (x1 : Int32) (x2 : Int32) (M : mMI) (J : mMJ) : k_Pot_countTold_B_4 x1 x2 M J = (if ((Int32.ofNat 48) : Int32) ≤ x2 then (rI x1 M J) else (if mIn x2 48 then (if ((M 36 x2.toNatClampNeg) : Int32) = (-9) then (k_Pot_countTold_B_4 x1 (x2 + 1) M J) else (k_Pot_countTold_B_4 (x1 + 1) (x2 + 1) M J)) else none)) := (mDen_eq PG 300 (95, 4, [some (.ref 36), some (.int x1), some (.int x2)], [], SH, M, J, 0, 0)).symm.trans rfl
set_option maxRecDepth 20000 in
theorem e_Pot_meanOf (x0 : Int32) (x1 : Int32) (M : mMI) (J : mMJ) : k_Pot_meanOf x0 x1 M J = (if (x1 : Int32) ≤ 0 then (rI 0 M J) else (if ¬ (x1 : Int32) = 0 then (rI (x0 / x1) M J) else none)) := (mDen_eq PG 300 (96, 0, [some (.int x0), some (.int x1)], [], SH, M, J, 0, 0)).symm.trans rfl
set_option maxRecDepth 20000 in
theorem e_Pot_ran  (M : mMI) (J : mMJ) : k_Pot_ran M J = (if ((M 0 9) : Int32) = 0 then (rR 14 M J) else (mBR (k_Course_runAll 7 M J) 0 (fun M1 J1 => (rR 14 (mUp M1 0 9 0) J1)))) := (mDen_eq PG 300 (97, 0, [some (.ref 0)], [], SH, M, J, 0, 0)).symm.trans rfl
set_option maxRecDepth 20000 in
theorem e_Pot_ranWithFine (x1 : Int32) (M : mMI) (J : mMJ) : k_Pot_ranWithFine x1 M J = (mBR (k_Setup_takeFrom M J) 0 (fun M1 J1 => (if mIn 2 4 then (mBR (k_Course_runAll 21 (mUp M1 22 (2 : Int32).toNatClampNeg x1) J1) 0 (fun M2 J2 => (rR 28 M2 J2))) else none))) := (mDen_eq PG 300 (98, 0, [some (.ref 0), some (.int x1)], [], SH, M, J, 0, 0)).symm.trans rfl
set_option maxRecDepth 20000 in
theorem e_Pot_heldIfLedBy (x1 : Int32) (M : mMI) (J : mMJ) : k_Pot_heldIfLedBy x1 M J = (mBR (k_Setup_takeFrom M J) 0 (fun M1 J1 => (if mIn 0 4 then (if mIn ((0 * 6) + x1) 240 then (mBR (k_Course_runAll 21 (mUp M1 26 ((0 * 6) + x1).toNatClampNeg (M1 8 (0 : Int32).toNatClampNeg)) J1) 0 (fun M2 J2 => (mBJ (k_Course_heldByAll 21 39 M2 J2) (fun v3 M3 J3 => (rJ v3 M3 J3))))) else none) else none))) := (mDen_eq PG 300 (99, 0, [some (.ref 0), some (.int x1)], [], SH, M, J, 0, 0)).symm.trans rfl
set_option maxRecDepth 20000 in
theorem e_Pot_heldIfOut (x1 : Int32) (M : mMI) (J : mMJ) : k_Pot_heldIfOut x1 M J = (mBR (k_Setup_takeFrom M J) 0 (fun M1 J1 => (if mIn x1 6 then (mBR (k_Course_runAll 21 (mUp M1 27 x1.toNatClampNeg 0) J1) 0 (fun M2 J2 => (mBJ (k_Course_heldByAll 21 39 M2 J2) (fun v3 M3 J3 => (rJ v3 M3 J3))))) else none))) := (mDen_eq PG 300 (100, 0, [some (.ref 0), some (.int x1)], [], SH, M, J, 0, 0)).symm.trans rfl
set_option maxRecDepth 20000 in
theorem e_Pot_canBeHalved  (M : mMI) (J : mMJ) : k_Pot_canBeHalved M J = (if ((M 7 1) : Int32) = 4 then (rZ 1 M J) else (if ¬ ((M 7 1) : Int32) = 6 then (rZ 0 M J) else (rZ 1 M J))) := (mDen_eq PG 300 (101, 0, [some (.ref 0)], [], SH, M, J, 0, 0)).symm.trans rfl
set_option maxRecDepth 20000 in
theorem e_Pot_isHalf (x1 : Int32) (M : mMI) (J : mMJ) : k_Pot_isHalf x1 M J = (mBI (k_Integer_bitCount x1 M J) (fun v1 M1 J1 => (if ¬ ((2 * v1) : Int32) = (M1 7 1) then (rZ 0 M1 J1) else (rZ 1 M1 J1)))) := (mDen_eq PG 300 (102, 0, [some (.ref 0), some (.int x1)], [], SH, M, J, 0, 0)).symm.trans rfl
set_option maxRecDepth 20000 in
theorem e_Pot_heldByHalves (x1 : Int32) (M : mMI) (J : mMJ) : k_Pot_heldByHalves x1 M J = (mBR (k_Setup_takeSome x1 M J) 0 (fun M1 J1 => (mBR (k_Course_runAll 21 M1 J1) 0 (fun M2 J2 => (mBJ (k_Course_heldByAll 21 39 M2 J2) (fun v3 M3 J3 => (mBR (k_Setup_takeSome (x1 ^^^ (-1)) M3 J3) 0 (fun M4 J4 => (mBR (k_Course_runAll 21 M4 J4) 0 (fun M5 J5 => (mBJ (k_Course_heldByAll 21 39 M5 J5) (fun v6 M6 J6 => (rJ (v3 + v6) M6 J6))))))))))))) := (mDen_eq PG 300 (103, 0, [some (.ref 0), some (.int x1), none, none], [], SH, M, J, 0, 0)).symm.trans rfl
end
section
/-! equations of the cuts: by wip/whole/sym.py -/
set_option maxRecDepth 20000 in
theorem e_Model_in (x0 : Int64) (x2 : Int64) (x4 : Int64) (M : mMI) (J : mMJ) : k_Model_in x0 x2 x4 M J = (if ((lg_cmp x0 x2) : Int32) < 0 then (rZ 0 M J) else (if (0 : Int32) < (lg_cmp x0 x4) then (rZ 0 M J) else (rZ 1 M J))) := (mDen_eq PG 300 (105, 0, [some (.long x0), none, some (.long x2), none, some (.long x4), none], [], SH, M, J, 0, 0)).symm.trans rfl
set_option maxRecDepth 20000 in
theorem e_Model_clear  (M : mMI) (J : mMJ) : k_Model_clear M J = (k_Model_clear_2 0 M J) := (mDen_eq PG 300 (106, 0, [some (.ref 46), none], [], SH, M, J, 0, 0)).symm.trans rfl
set_option maxRecDepth 20000 in
theorem e_Model_clear_2 (x1 : Int32) (M : mMI) (J : mMJ) : k_Model_clear_2 x1 M J = (if (240 : Int32) ≤ x1 then (k_Model_clear_14 0 M J) else (if mIn x1 240 then (k_Model_clear_2 (x1 + 1) (mUp M 56 x1.toNatClampNeg (-9)) J) else none)) := (mDen_eq PG 300 (106, 2, [some (.ref 46), some (.int x1)], [], SH, M, J, 0, 0)).symm.trans rfl
set_option maxRecDepth 20000 in
theorem e_Model_clear_14 (x1 : Int32) (M : mMI) (J : mMJ) : k_Model_clear_14 x1 M J = (if (6 : Int32) ≤ x1 then (if mIn 0 2 then (if mIn 1 2 then (rV (mUp (mUp M 61 (0 : Int32).toNatClampNeg 0) 61 (1 : Int32).toNatClampNeg 0) J) else none) else none) else (if mIn x1 6 then (k_Model_clear_14 (x1 + 1) (mUp M 57 x1.toNatClampNeg 40) J) else none)) := (mDen_eq PG 300 (106, 14, [some (.ref 46), some (.int x1)], [], SH, M, J, 0, 0)).symm.trans rfl
set_option maxRecDepth 20000 in
theorem e_Model_noPerson (x1 : Int32) (M : mMI) (J : mMJ) : k_Model_noPerson x1 M J = (mBI (k_Model_in x1.toInt64 0 (((M 46 7) - 1).toInt64) M J) (fun v1 M1 J1 => (if ¬ (v1 : Int32) = 0 then (rZ 0 M1 J1) else (rZ 1 M1 J1)))) := (mDen_eq PG 300 (107, 0, [some (.ref 46), some (.int x1)], [], SH, M, J, 0, 0)).symm.trans rfl
set_option maxRecDepth 20000 in
theorem e_Model_noRound (x0 : Int32) (M : mMI) (J : mMJ) : k_Model_noRound x0 M J = (mBI (k_Model_in x0.toInt64 0 39 M J) (fun v1 M1 J1 => (if ¬ (v1 : Int32) = 0 then (rZ 0 M1 J1) else (rZ 1 M1 J1)))) := (mDen_eq PG 300 (108, 0, [some (.int x0)], [], SH, M, J, 0, 0)).symm.trans rfl
set_option maxRecDepth 20000 in
theorem e_Model_write (x1 : Int32) (x2 : Int64) (M : mMI) (J : mMJ) : k_Model_write x1 x2 M J = (mBI (k_Model_in x1.toInt64 1 8 (mUp M 46 0 0) J) (fun v1 M1 J1 => (if ¬ (v1 : Int32) = 0 then (if (((M1 46 2) + x1) : Int32) ≤ 40 then (k_Model_write_23 x2 (x1 - 1) M1 J1) else (rI (-4) M1 J1)) else (rI (-2) M1 J1)))) := (mDen_eq PG 300 (109, 0, [some (.ref 46), some (.int x1), some (.long x2), none, none], [], SH, M, J, 0, 0)).symm.trans rfl
set_option maxRecDepth 20000 in
theorem e_Model_write_23 (x2 : Int64) (x4 : Int32) (M : mMI) (J : mMJ) : k_Model_write_23 x2 x4 M J = (if (x4 : Int32) < 0 then (rI (M 46 2) M J) else (if mIn (M 46 2) 40 then (k_Model_write_23 x2 (x4 + (-1)) (mUp (mUp M 47 (M 46 2).toNatClampNeg (((x2 >>> ((8 * x4).toInt64 &&& 63)).toInt32) &&& 255)) 46 2 ((M 46 2) + 1)) J) else none)) := (mDen_eq PG 300 (109, 23, [some (.ref 46), none, some (.long x2), none, some (.int x4)], [], SH, M, J, 0, 0)).symm.trans rfl
set_option maxRecDepth 20000 in
theorem e_Model_wipe  (M : mMI) (J : mMJ) : k_Model_wipe M J = (rI (M 46 2) (mUp (mUp M 46 0 0) 46 2 0) J) := (mDen_eq PG 300 (110, 0, [some (.ref 46), none], [], SH, M, J, 0, 0)).symm.trans rfl
set_option maxRecDepth 20000 in
theorem e_Model_figure (x1 : Int32) (x2 : Int32) (M : mMI) (J : mMJ) : k_Model_figure x1 x2 M J = (if ((M 46 3) : Int32) = (M 46 2) then (rI (-9) M J) else (if mIn (M 46 3) 40 then (mBI (k_Model_in (((M 47 (M 46 3).toNatClampNeg) - 48).toInt64) x1.toInt64 x2.toInt64 M J) (fun v1 M1 J1 => (if ¬ (v1 : Int32) = 0 then (if mIn (((M1 46 3) + 1) - 1) 40 then (rI ((M1 47 (((M1 46 3) + 1) - 1).toNatClampNeg) - 48) (mUp M1 46 3 ((M1 46 3) + 1)) J1) else none) else (rI (-9) M1 J1)))) else none)) := (mDen_eq PG 300 (111, 0, [some (.ref 46), some (.int x1), some (.int x2)], [], SH, M, J, 0, 0)).symm.trans rfl
set_option maxRecDepth 20000 in
theorem e_Model_two (x1 : Int32) (x2 : Int32) (M : mMI) (J : mMJ) : k_Model_two x1 x2 M J = (if ¬ (10 : Int32) = 0 then (mBI (k_Model_figure 0 (x2 / 10) M J) (fun v1 M1 J1 => (if ¬ (v1 : Int32) = (-9) then (if ¬ (v1 : Int32) = 0 then (if ¬ (10 : Int32) = 0 then (if ¬ (v1 : Int32) = (x2 / 10) then (k_Model_two_26 v1 0 9 M1 J1) else (k_Model_two_26 v1 0 0 M1 J1)) else none) else (if ¬ (10 : Int32) = 0 then (if ¬ (v1 : Int32) = (x2 / 10) then (k_Model_two_26 v1 x1 9 M1 J1) else (k_Model_two_26 v1 x1 0 M1 J1)) else none)) else (rI (-9) M1 J1)))) else none) := (mDen_eq PG 300 (112, 0, [some (.ref 46), some (.int x1), some (.int x2), none, none], [], SH, M, J, 0, 0)).symm.trans rfl
set_option maxRecDepth 20000 in
theorem e_Model_two_26 (x3 : Int32) (y1 : Int32) (y2 : Int32) (M : mMI) (J : mMJ) : k_Model_two_26 x3 y1 y2 M J = (mBI (k_Model_figure y1 y2 M J) (fun v2 M2 J2 => (if ¬ (v2 : Int32) = (-9) then (k_Model_two_38 ((10 * x3) + v2) M2 J2) else (k_Model_two_38 (-9) M2 J2)))) := (mDen_eq PG 300 (112, 26, [none, none, none, some (.int x3), none], [(.int y2), (.int y1), (.ref 46)], SH, M, J, 0, 0)).symm.trans rfl
set_option maxRecDepth 20000 in
theorem e_Model_two_38 (y0 : Int32) (M : mMI) (J : mMJ) : k_Model_two_38 y0 M J = (rI y0 M J) := (mDen_eq PG 300 (112, 38, [none, none, none, none, none], [(.int y0)], SH, M, J, 0, 0)).symm.trans rfl
set_option maxRecDepth 20000 in
theorem e_Model_readRule  (M : mMI) (J : mMJ) : k_Model_readRule M J = (if mIn 0 4 then (if mIn 1 4 then (if mIn 2 4 then (if mIn 3 4 then (k_Model_readRule_28 0 (mUp (mUp (mUp (mUp (mUp (mUp M 46 3 0) 46 6 0) 49 (0 : Int32).toNatClampNeg 20) 49 (1 : Int32).toNatClampNeg 16) 49 (2 : Int32).toNatClampNeg 0) 49 (3 : Int32).toNatClampNeg 1) J) else none) else none) else none) else none) := (mDen_eq PG 300 (113, 0, [some (.ref 46), none, none, none, none], [], SH, M, J, 0, 0)).symm.trans rfl
set_option maxRecDepth 20000 in
theorem e_Model_readRule_28 (x1 : Int32) (M : mMI) (J : mMJ) : k_Model_readRule_28 x1 M J = (if ((M 46 2) : Int32) ≤ (M 46 3) then (rI (-9) M J) else (if mIn (M 46 3) 40 then (if ¬ ((M 47 (M 46 3).toNatClampNeg) : Int32) = 69 then (if ¬ ((M 47 (M 46 3).toNatClampNeg) : Int32) = 77 then (if ¬ ((M 47 (M 46 3).toNatClampNeg) : Int32) = 70 then (if ¬ ((M 47 (M 46 3).toNatClampNeg) : Int32) = 67 then (k_Model_readRule_60 x1 (-9) M J) else (k_Model_readRule_60 x1 3 M J)) else (k_Model_readRule_60 x1 2 M J)) else (k_Model_readRule_60 x1 1 M J)) else (k_Model_readRule_60 x1 0 M J)) else none)) := (mDen_eq PG 300 (113, 28, [some (.ref 46), some (.int x1), none, none, none], [], SH, M, J, 0, 0)).symm.trans rfl
set_option maxRecDepth 20000 in
theorem e_Model_readRule_60 (x1 : Int32) (y0 : Int32) (M : mMI) (J : mMJ) : k_Model_readRule_60 x1 y0 M J = (if (y0 : Int32) = (-9) then (k_Model_readRule_71 M J) else (if ¬ (((x1 >>> (y0 &&& 31)) &&& 1) : Int32) = 1 then (if ¬ (y0 : Int32) = 0 then (if ¬ (y0 : Int32) = 1 then (if ¬ (y0 : Int32) = 3 then (k_Model_readRule_102 x1 y0 0 (mUp M 46 3 ((M 46 3) + 1)) J) else (k_Model_readRule_102 x1 y0 1 (mUp M 46 3 ((M 46 3) + 1)) J)) else (mBI (k_Model_two 0 60 (mUp M 46 3 ((M 46 3) + 1)) J) (fun v1 M1 J1 => (k_Model_readRule_104 x1 y0 v1 M1 J1)))) else (mBI (k_Model_two 1 20 (mUp M 46 3 ((M 46 3) + 1)) J) (fun v2 M2 J2 => (k_Model_readRule_104 x1 y0 v2 M2 J2)))) else (k_Model_readRule_71 M J))) := (mDen_eq PG 300 (113, 60, [some (.ref 46), some (.int x1), none, none, none], [(.int y0)], SH, M, J, 0, 0)).symm.trans rfl
set_option maxRecDepth 20000 in
theorem e_Model_readRule_71  (M : mMI) (J : mMJ) : k_Model_readRule_71 M J = (rI (M 46 3) M J) := (mDen_eq PG 300 (113, 71, [some (.ref 46), none, none, none, none], [], SH, M, J, 0, 0)).symm.trans rfl
set_option maxRecDepth 20000 in
theorem e_Model_readRule_102 (x1 : Int32) (x3 : Int32) (y1 : Int32) (M : mMI) (J : mMJ) : k_Model_readRule_102 x1 x3 y1 M J = (mBI (k_Model_figure y1 9 M J) (fun v3 M3 J3 => (k_Model_readRule_104 x1 x3 v3 M3 J3))) := (mDen_eq PG 300 (113, 102, [some (.ref 46), some (.int x1), none, some (.int x3), none], [(.int y1), (.ref 46)], SH, M, J, 0, 0)).symm.trans rfl
set_option maxRecDepth 20000 in
theorem e_Model_readRule_104 (x1 : Int32) (x3 : Int32) (y0 : Int32) (M : mMI) (J : mMJ) : k_Model_readRule_104 x1 x3 y0 M J = (if ¬ (y0 : Int32) = (-9) then (if mIn x3 4 then (k_Model_readRule_28 (x1 ||| (1 <<< (x3 &&& 31))) (mUp (mUp M 49 x3.toNatClampNeg y0) 46 6 ((M 46 6) + 1)) J) else none) else (rI (M 46 3) M J)) := (mDen_eq PG 300 (113, 104, [some (.ref 46), some (.int x1), none, some (.int x3), none], [(.int y0)], SH, M, J, 0, 0)).symm.trans rfl
set_option maxRecDepth 20000 in
theorem e_Model_kind (x0 : Int32) (M : mMI) (J : mMJ) : k_Model_kind x0 M J = (if ¬ (x0 : Int32) = 80 then (if ¬ (x0 : Int32) = 90 then (if ¬ (x0 : Int32) = 77 then (if ¬ (x0 : Int32) = 71 then (if ¬ (x0 : Int32) = 83 then (if ¬ (x0 : Int32) = 86 then (if ¬ (x0 : Int32) = 76 then (k_Model_kind_36 (-9) M J) else (k_Model_kind_36 6 M J)) else (k_Model_kind_36 5 M J)) else (k_Model_kind_36 4 M J)) else (k_Model_kind_36 3 M J)) else (k_Model_kind_36 2 M J)) else (k_Model_kind_36 1 M J)) else (k_Model_kind_36 0 M J)) := (mDen_eq PG 300 (114, 0, [some (.int x0)], [], SH, M, J, 0, 0)).symm.trans rfl
set_option maxRecDepth 20000 in
theorem e_Model_kind_36 (y0 : Int32) (M : mMI) (J : mMJ) : k_Model_kind_36 y0 M J = (rI y0 M J) := (mDen_eq PG 300 (114, 36, [none], [(.int y0)], SH, M, J, 0, 0)).symm.trans rfl
set_option maxRecDepth 20000 in
theorem e_Model_readGroup  (M : mMI) (J : mMJ) : k_Model_readGroup M J = (k_Model_readGroup_6 (mUp (mUp M 46 3 0) 46 11 0) J) := (mDen_eq PG 300 (115, 0, [some (.ref 46), none, none, none], [], SH, M, J, 0, 0)).symm.trans rfl
set_option maxRecDepth 20000 in
theorem e_Model_readGroup_6  (M : mMI) (J : mMJ) : k_Model_readGroup_6 M J = (if ((M 46 2) : Int32) ≤ (M 46 3) then (if (2 : Int32) ≤ (M 46 11) then (k_Model_readGroup_108 (-9) M J) else (k_Model_readGroup_108 (M 46 3) M J)) else (if mIn (M 46 3) 40 then (mBI (k_Model_kind (M 47 (M 46 3).toNatClampNeg) M J) (fun v1 M1 J1 => (if (v1 : Int32) = (-9) then (k_Model_readGroup_25 M1 J1) else (if ¬ ((M1 46 11) : Int32) = 6 then (if ¬ (v1 : Int32) = 0 then (if ¬ (v1 : Int32) = 1 then (mBI (k_Model_figure 0 9 (mUp M1 46 3 ((M1 46 3) + 1)) J1) (fun v2 M2 J2 => (k_Model_readGroup_50 v1 v2 M2 J2))) else (k_Model_readGroup_50 v1 0 (mUp M1 46 3 ((M1 46 3) + 1)) J1)) else (mBI (k_Model_two 0 20 (mUp M1 46 3 ((M1 46 3) + 1)) J1) (fun v3 M3 J3 => (k_Model_readGroup_50 v1 v3 M3 J3)))) else (k_Model_readGroup_25 M1 J1))))) else none)) := (mDen_eq PG 300 (115, 6, [some (.ref 46), none, none, none], [], SH, M, J, 0, 0)).symm.trans rfl
set_option maxRecDepth 20000 in
theorem e_Model_readGroup_108 (y0 : Int32) (M : mMI) (J : mMJ) : k_Model_readGroup_108 y0 M J = (rI y0 M J) := (mDen_eq PG 300 (115, 108, [none, none, none, none], [(.int y0)], SH, M, J, 0, 0)).symm.trans rfl
set_option maxRecDepth 20000 in
theorem e_Model_readGroup_25  (M : mMI) (J : mMJ) : k_Model_readGroup_25 M J = (rI (M 46 3) M J) := (mDen_eq PG 300 (115, 25, [some (.ref 46), none, none, none], [], SH, M, J, 0, 0)).symm.trans rfl
set_option maxRecDepth 20000 in
theorem e_Model_readGroup_50 (x1 : Int32) (y0 : Int32) (M : mMI) (J : mMJ) : k_Model_readGroup_50 x1 y0 M J = (if ¬ (y0 : Int32) = (-9) then (mBI (k_Model_in x1.toInt64 3 5 M J) (fun v4 M4 J4 => (if (v4 : Int32) = 0 then (k_Model_readGroup_68 x1 y0 0 M4 J4) else (mBI (k_Model_figure 0 9 M4 J4) (fun v5 M5 J5 => (k_Model_readGroup_68 x1 y0 v5 M5 J5)))))) else (k_Model_readGroup_68 x1 y0 (-9) M J)) := (mDen_eq PG 300 (115, 50, [some (.ref 46), some (.int x1), none, none], [(.int y0)], SH, M, J, 0, 0)).symm.trans rfl
set_option maxRecDepth 20000 in
theorem e_Model_readGroup_68 (x1 : Int32) (x2 : Int32) (y0 : Int32) (M : mMI) (J : mMJ) : k_Model_readGroup_68 x1 x2 y0 M J = (if ¬ (y0 : Int32) = (-9) then (if mIn (M 46 11) 6 then (if mIn (M 46 11) 6 then (if mIn (M 46 11) 6 then (k_Model_readGroup_6 (mUp (mUp (mUp (mUp M 53 (M 46 11).toNatClampNeg x1) 54 (M 46 11).toNatClampNeg x2) 55 (M 46 11).toNatClampNeg y0) 46 11 ((M 46 11) + 1)) J) else none) else none) else none) else (rI (M 46 3) M J)) := (mDen_eq PG 300 (115, 68, [some (.ref 46), some (.int x1), some (.int x2), none], [(.int y0)], SH, M, J, 0, 0)).symm.trans rfl
set_option maxRecDepth 20000 in
theorem e_Model_fault (x1 : Int32) (M : mMI) (J : mMJ) : k_Model_fault x1 M J = (if (x1 : Int32) = 0 then (mBI (k_Model_readRule (mUp M 46 0 0) J) (fun v1 M1 J1 => (rI v1 M1 J1))) else (mBI (k_Model_readGroup (mUp M 46 0 0) J) (fun v2 M2 J2 => (rI v2 M2 J2)))) := (mDen_eq PG 300 (116, 0, [some (.ref 46), some (.int x1)], [], SH, M, J, 0, 0)).symm.trans rfl
set_option maxRecDepth 20000 in
theorem e_Model_rule  (M : mMI) (J : mMJ) : k_Model_rule M J = (mBI (k_Model_readRule (mUp M 46 0 0) J) (fun v1 M1 J1 => (if (v1 : Int32) = (-9) then (k_Model_rule_11 0 M1 J1) else (rI (-3) M1 J1)))) := (mDen_eq PG 300 (117, 0, [some (.ref 46), none], [], SH, M, J, 0, 0)).symm.trans rfl
set_option maxRecDepth 20000 in
theorem e_Model_rule_11 (x1 : Int32) (M : mMI) (J : mMJ) : k_Model_rule_11 x1 M J = (if (4 : Int32) ≤ x1 then (rI (M 46 6) M J) else (if mIn x1 4 then (if mIn x1 4 then (k_Model_rule_11 (x1 + 1) (mUp M 48 x1.toNatClampNeg (M 49 x1.toNatClampNeg)) J) else none) else none)) := (mDen_eq PG 300 (117, 11, [some (.ref 46), some (.int x1)], [], SH, M, J, 0, 0)).symm.trans rfl
set_option maxRecDepth 20000 in
theorem e_Model_group  (M : mMI) (J : mMJ) : k_Model_group M J = (mBI (k_Model_readGroup (mUp M 46 0 0) J) (fun v1 M1 J1 => (if (v1 : Int32) = (-9) then (k_Model_group_15 0 (mUp M1 46 7 (M1 46 11)) J1) else (rI (-3) M1 J1)))) := (mDen_eq PG 300 (118, 0, [some (.ref 46), none], [], SH, M, J, 0, 0)).symm.trans rfl
set_option maxRecDepth 20000 in
theorem e_Model_group_15 (x1 : Int32) (M : mMI) (J : mMJ) : k_Model_group_15 x1 M J = (if (6 : Int32) ≤ x1 then (mBR (k_Model_clear M J) 0 (fun M2 J2 => (rI (M2 46 7) M2 J2))) else (if mIn x1 6 then (if mIn x1 6 then (if mIn x1 6 then (if mIn x1 6 then (if mIn x1 6 then (if mIn x1 6 then (k_Model_group_15 (x1 + 1) (mUp (mUp (mUp M 50 x1.toNatClampNeg (M 53 x1.toNatClampNeg)) 51 x1.toNatClampNeg (M 54 x1.toNatClampNeg)) 52 x1.toNatClampNeg (M 55 x1.toNatClampNeg)) J) else none) else none) else none) else none) else none) else none)) := (mDen_eq PG 300 (118, 15, [some (.ref 46), some (.int x1)], [], SH, M, J, 0, 0)).symm.trans rfl
set_option maxRecDepth 20000 in
theorem e_Model_ruled (x1 : Int32) (M : mMI) (J : mMJ) : k_Model_ruled x1 M J = (mBI (k_Model_in x1.toInt64 0 3 (mUp M 46 0 0) J) (fun v1 M1 J1 => (if (v1 : Int32) = 0 then (rI (-2) M1 J1) else (if mIn x1 4 then (rI (M1 48 x1.toNatClampNeg) M1 J1) else none)))) := (mDen_eq PG 300 (119, 0, [some (.ref 46), some (.int x1)], [], SH, M, J, 0, 0)).symm.trans rfl
set_option maxRecDepth 20000 in
theorem e_Model_person (x1 : Int32) (x2 : Int32) (M : mMI) (J : mMJ) : k_Model_person x1 x2 M J = (mBI (k_Model_noPerson x1 (mUp M 46 0 0) J) (fun v1 M1 J1 => (if (v1 : Int32) = 0 then (if ¬ (x2 : Int32) = 0 then (if ¬ (x2 : Int32) = 1 then (if ¬ (x2 : Int32) = 2 then (rI (-2) M1 J1) else (if mIn x1 6 then (rI (M1 52 x1.toNatClampNeg) M1 J1) else none)) else (if mIn x1 6 then (rI (M1 51 x1.toNatClampNeg) M1 J1) else none)) else (if mIn x1 6 then (rI (M1 50 x1.toNatClampNeg) M1 J1) else none)) else (rI (-1) M1 J1)))) := (mDen_eq PG 300 (120, 0, [some (.ref 46), some (.int x1), some (.int x2)], [], SH, M, J, 0, 0)).symm.trans rfl
set_option maxRecDepth 20000 in
theorem e_Model_tell (x1 : Int32) (x2 : Int32) (x3 : Int32) (M : mMI) (J : mMJ) : k_Model_tell x1 x2 x3 M J = (mBI (k_Model_noPerson x1 (mUp M 46 0 0) J) (fun v1 M1 J1 => (if ¬ (v1 : Int32) = 0 then (rI (-1) M1 J1) else (mBI (k_Model_noRound x2 M1 J1) (fun v2 M2 J2 => (if (v2 : Int32) = 0 then (mBI (k_Model_in x3.toInt64 0 20 M2 J2) (fun v3 M3 J3 => (if ¬ (v3 : Int32) = 0 then (if mIn ((40 * x1) + x2) 240 then (if mIn ((40 * x1) + x2) 240 then (rI (M3 56 ((40 * x1) + x2).toNatClampNeg) (mUp M3 56 ((40 * x1) + x2).toNatClampNeg x3) J3) else none) else none) else (if (x3 : Int32) = (-9) then (if mIn ((40 * x1) + x2) 240 then (if mIn ((40 * x1) + x2) 240 then (rI (M3 56 ((40 * x1) + x2).toNatClampNeg) (mUp M3 56 ((40 * x1) + x2).toNatClampNeg x3) J3) else none) else none) else (rI (-2) M3 J3))))) else (rI (-1) M2 J2))))))) := (mDen_eq PG 300 (121, 0, [some (.ref 46), some (.int x1), some (.int x2), some (.int x3), none], [], SH, M, J, 0, 0)).symm.trans rfl
set_option maxRecDepth 20000 in
theorem e_Model_staying  (M : mMI) (J : mMJ) : k_Model_staying M J = (k_Model_staying_4 0 0 M J) := (mDen_eq PG 300 (122, 0, [some (.ref 46), none, none], [], SH, M, J, 0, 0)).symm.trans rfl
set_option maxRecDepth 20000 in
theorem e_Model_staying_4 (x1 : Int32) (x2 : Int32) (M : mMI) (J : mMJ) : k_Model_staying_4 x1 x2 M J = (if ((M 46 7) : Int32) ≤ x2 then (rI x1 M J) else (if mIn x2 6 then (if ¬ ((M 57 x2.toNatClampNeg) : Int32) = 40 then (k_Model_staying_4 (x1 + 0) (x2 + 1) M J) else (k_Model_staying_4 (x1 + 1) (x2 + 1) M J)) else none)) := (mDen_eq PG 300 (122, 4, [some (.ref 46), some (.int x1), some (.int x2)], [], SH, M, J, 0, 0)).symm.trans rfl
set_option maxRecDepth 20000 in
theorem e_Model_send (x1 : Int32) (x2 : Int32) (M : mMI) (J : mMJ) : k_Model_send x1 x2 M J = (mBI (k_Model_noPerson x1 (mUp M 46 0 0) J) (fun v1 M1 J1 => (if (v1 : Int32) = 0 then (mBI (k_Model_in x2.toInt64 0 40 M1 J1) (fun v2 M2 J2 => (if ¬ (v2 : Int32) = 0 then (if mIn x1 6 then (if mIn x1 6 then (mBI (k_Model_staying (mUp M2 57 x1.toNatClampNeg x2) J2) (fun v3 M3 J3 => (if (2 : Int32) ≤ v3 then (rI (M2 57 x1.toNatClampNeg) M3 J3) else (if mIn x1 6 then (rI (-3) (mUp M3 57 x1.toNatClampNeg (M2 57 x1.toNatClampNeg)) J3) else none)))) else none) else none) else (rI (-2) M2 J2)))) else (rI (-1) M1 J1)))) := (mDen_eq PG 300 (123, 0, [some (.ref 46), some (.int x1), some (.int x2), none], [], SH, M, J, 0, 0)).symm.trans rfl
set_option maxRecDepth 20000 in
theorem e_Model_fine (x1 : Int32) (M : mMI) (J : mMJ) : k_Model_fine x1 M J = (mBI (k_Model_in x1.toInt64 0 9 (mUp M 46 0 0) J) (fun v1 M1 J1 => (if ¬ (v1 : Int32) = 0 then (if mIn 2 4 then (if mIn 2 4 then (rI (M1 48 (2 : Int32).toNatClampNeg) (mUp M1 48 (2 : Int32).toNatClampNeg x1) J1) else none) else none) else (rI (-2) M1 J1)))) := (mDen_eq PG 300 (124, 0, [some (.ref 46), some (.int x1), none], [], SH, M, J, 0, 0)).symm.trans rfl
set_option maxRecDepth 20000 in
theorem e_Model_isIn (x1 : Int32) (x2 : Int32) (M : mMI) (J : mMJ) : k_Model_isIn x1 x2 M J = (if ¬ ((M 46 24) : Int32) = 0 then (rZ 1 M J) else (if mIn x1 6 then (if mIn (M 63 x1.toNatClampNeg) 6 then (if ((M 57 (M 63 x1.toNatClampNeg).toNatClampNeg) : Int32) ≤ x2 then (rZ 0 M J) else (rZ 1 M J)) else none) else none)) := (mDen_eq PG 300 (125, 0, [some (.ref 46), some (.int x1), some (.int x2)], [], SH, M, J, 0, 0)).symm.trans rfl
set_option maxRecDepth 20000 in
theorem e_Model_inMany (x1 : Int32) (M : mMI) (J : mMJ) : k_Model_inMany x1 M J = (k_Model_inMany_4 x1 0 0 M J) := (mDen_eq PG 300 (126, 0, [some (.ref 46), some (.int x1), none, none], [], SH, M, J, 0, 0)).symm.trans rfl
set_option maxRecDepth 20000 in
theorem e_Model_inMany_4 (x1 : Int32) (x2 : Int32) (x3 : Int32) (M : mMI) (J : mMJ) : k_Model_inMany_4 x1 x2 x3 M J = (if ((M 46 23) : Int32) ≤ x3 then (rI x2 M J) else (mBI (k_Model_isIn x3 x1 M J) (fun v1 M1 J1 => (if (v1 : Int32) = 0 then (k_Model_inMany_4 x1 (x2 + 0) (x3 + 1) M1 J1) else (k_Model_inMany_4 x1 (x2 + 1) (x3 + 1) M1 J1))))) := (mDen_eq PG 300 (126, 4, [some (.ref 46), some (.int x1), some (.int x2), some (.int x3)], [], SH, M, J, 0, 0)).symm.trans rfl
set_option maxRecDepth 20000 in
theorem e_Model_bound (x1 : Int32) (M : mMI) (J : mMJ) : k_Model_bound x1 M J = (if (0 : Int32) ≤ x1 then (if mIn 0 4 then (if (x1 : Int32) ≤ (M 48 (0 : Int32).toNatClampNeg) then (rI x1 M J) else (if mIn 0 4 then (rI (M 48 (0 : Int32).toNatClampNeg) M J) else none)) else none) else (rI 0 M J)) := (mDen_eq PG 300 (127, 0, [some (.ref 46), some (.int x1)], [], SH, M, J, 0, 0)).symm.trans rfl
set_option maxRecDepth 20000 in
theorem e_Model_meanOf (x1 : Int32) (x2 : Int32) (M : mMI) (J : mMJ) : k_Model_meanOf x1 x2 M J = (k_Model_meanOf_6 x1 x2 0 0 0 M J) := (mDen_eq PG 300 (128, 0, [some (.ref 46), some (.int x1), some (.int x2), none, none, none], [], SH, M, J, 0, 0)).symm.trans rfl
set_option maxRecDepth 20000 in
theorem e_Model_meanOf_6 (x1 : Int32) (x2 : Int32) (x3 : Int32) (x4 : Int32) (x5 : Int32) (M : mMI) (J : mMJ) : k_Model_meanOf_6 x1 x2 x3 x4 x5 M J = (if ((M 46 23) : Int32) ≤ x5 then (if ¬ (x4 : Int32) = 0 then (rI (x3 / x4) M J) else none) else (if (x5 : Int32) = x1 then (k_Model_meanOf_6 x1 x2 x3 x4 (x5 + 1) M J) else (mBI (k_Model_isIn x5 x2 M J) (fun v1 M1 J1 => (if (v1 : Int32) = 0 then (k_Model_meanOf_6 x1 x2 x3 x4 (x5 + 1) M1 J1) else (if mIn ((6 * (x2 - 1)) + x5) 240 then (k_Model_meanOf_6 x1 x2 (x3 + (M1 64 ((6 * (x2 - 1)) + x5).toNatClampNeg)) (x4 + 1) (x5 + 1) M1 J1) else none)))))) := (mDen_eq PG 300 (128, 6, [some (.ref 46), some (.int x1), some (.int x2), some (.int x3), some (.int x4), some (.int x5)], [], SH, M, J, 0, 0)).symm.trans rfl
set_option maxRecDepth 20000 in
theorem e_Model_taken (x1 : Int32) (x2 : Int32) (M : mMI) (J : mMJ) : k_Model_taken x1 x2 M J = (k_Model_taken_4 x1 x2 0 0 M J) := (mDen_eq PG 300 (129, 0, [some (.ref 46), some (.int x1), some (.int x2), none, none], [], SH, M, J, 0, 0)).symm.trans rfl
set_option maxRecDepth 20000 in
theorem e_Model_taken_4 (x1 : Int32) (x2 : Int32) (x3 : Int32) (x4 : Int32) (M : mMI) (J : mMJ) : k_Model_taken_4 x1 x2 x3 x4 M J = (if ((M 46 23) : Int32) ≤ x4 then (rI x3 M J) else (if mIn (((36 * x2) + (6 * x4)) + x1) 1440 then (k_Model_taken_4 x1 x2 (x3 + (M 65 (((36 * x2) + (6 * x4)) + x1).toNatClampNeg)) (x4 + 1) M J) else none)) := (mDen_eq PG 300 (129, 4, [some (.ref 46), some (.int x1), some (.int x2), some (.int x3), some (.int x4)], [], SH, M, J, 0, 0)).symm.trans rfl
set_option maxRecDepth 20000 in
theorem e_Model_putOf (x1 : Int32) (x2 : Int32) (M : mMI) (J : mMJ) : k_Model_putOf x1 x2 M J = (if mIn x1 6 then (if ¬ ((M 46 24) : Int32) = 0 then (k_Model_putOf_29 x1 x2 (M 63 x1.toNatClampNeg) M J) else (if mIn ((40 * (M 63 x1.toNatClampNeg)) + x2) 240 then (if ((M 56 ((40 * (M 63 x1.toNatClampNeg)) + x2).toNatClampNeg) : Int32) = (-9) then (k_Model_putOf_29 x1 x2 (M 63 x1.toNatClampNeg) M J) else (if mIn ((40 * (M 63 x1.toNatClampNeg)) + x2) 240 then (mBI (k_Model_bound (M 56 ((40 * (M 63 x1.toNatClampNeg)) + x2).toNatClampNeg) M J) (fun v1 M1 J1 => (rI v1 M1 J1))) else none)) else none)) else none) := (mDen_eq PG 300 (130, 0, [some (.ref 46), some (.int x1), some (.int x2), none, none], [], SH, M, J, 0, 0)).symm.trans rfl
set_option maxRecDepth 20000 in
theorem e_Model_putOf_29 (x1 : Int32) (x2 : Int32) (x3 : Int32) (M : mMI) (J : mMJ) : k_Model_putOf_29 x1 x2 x3 M J = (if mIn x3 6 then (if (2 : Int32) ≤ (M 50 x3.toNatClampNeg) then (if ¬ (x2 : Int32) = 0 then (if mIn x3 6 then (if (6 : Int32) ≤ (M 50 x3.toNatClampNeg) then (mBI (k_Model_taken x1 (x2 - 1) M J) (fun v2 M2 J2 => (if mIn ((6 * (x2 - 1)) + x1) 240 then (if (v2 : Int32) ≤ 0 then (if mIn x3 6 then (k_Model_putOf_108 (M2 64 ((6 * (x2 - 1)) + x1).toNatClampNeg) (-(M2 51 x3.toNatClampNeg)) M2 J2) else none) else (if mIn 2 4 then (k_Model_putOf_108 (M2 64 ((6 * (x2 - 1)) + x1).toNatClampNeg) ((M2 48 (2 : Int32).toNatClampNeg) * v2) M2 J2) else none)) else none))) else (mBI (k_Model_meanOf x1 x2 M J) (fun v3 M3 J3 => (if mIn x3 6 then (mBI (k_Model_bound (v3 - (M3 51 x3.toNatClampNeg)) M3 J3) (fun v4 M4 J4 => (rI v4 M4 J4))) else none)))) else none) else (if mIn 0 4 then (if ¬ (2 : Int32) = 0 then (rI ((M 48 (0 : Int32).toNatClampNeg) / 2) M J) else none) else none)) else (if mIn x3 6 then (if ¬ ((M 50 x3.toNatClampNeg) : Int32) = 0 then (k_Model_putOf_47 0 M J) else (if mIn x3 6 then (k_Model_putOf_47 (M 51 x3.toNatClampNeg) M J) else none)) else none)) else none) := (mDen_eq PG 300 (130, 29, [some (.ref 46), some (.int x1), some (.int x2), some (.int x3), none], [], SH, M, J, 0, 0)).symm.trans rfl
set_option maxRecDepth 20000 in
theorem e_Model_putOf_108 (y1 : Int32) (y2 : Int32) (M : mMI) (J : mMJ) : k_Model_putOf_108 y1 y2 M J = (mBI (k_Model_bound (y1 + y2) M J) (fun v5 M5 J5 => (rI v5 M5 J5))) := (mDen_eq PG 300 (130, 108, [none, none, none, none, none], [(.int y2), (.int y1), (.ref 46)], SH, M, J, 0, 0)).symm.trans rfl
set_option maxRecDepth 20000 in
theorem e_Model_putOf_47 (y1 : Int32) (M : mMI) (J : mMJ) : k_Model_putOf_47 y1 M J = (mBI (k_Model_bound y1 M J) (fun v6 M6 J6 => (rI v6 M6 J6))) := (mDen_eq PG 300 (130, 47, [none, none, none, none, none], [(.int y1), (.ref 46)], SH, M, J, 0, 0)).symm.trans rfl
set_option maxRecDepth 20000 in
theorem e_Model_layFines (x1 : Int32) (M : mMI) (J : mMJ) : k_Model_layFines x1 M J = (k_Model_layFines_6 x1 0 0 0 M J) := (mDen_eq PG 300 (131, 0, [some (.ref 46), some (.int x1), none, none, none, none], [], SH, M, J, 0, 0)).symm.trans rfl
set_option maxRecDepth 20000 in
theorem e_Model_layFines_6 (x1 : Int32) (x2 : Int32) (x3 : Int32) (x4 : Int32) (M : mMI) (J : mMJ) : k_Model_layFines_6 x1 x2 x3 x4 M J = (if (36 : Int32) ≤ x4 then (k_Model_layFines_18 x1 x2 x3 0 M J) else (if mIn x4 36 then (k_Model_layFines_6 x1 x2 x3 (x4 + 1) (mUp M 69 x4.toNatClampNeg 0) J) else none)) := (mDen_eq PG 300 (131, 6, [some (.ref 46), some (.int x1), some (.int x2), some (.int x3), some (.int x4), none], [], SH, M, J, 0, 0)).symm.trans rfl
set_option maxRecDepth 20000 in
theorem e_Model_layFines_18 (x1 : Int32) (x2 : Int32) (x3 : Int32) (x4 : Int32) (M : mMI) (J : mMJ) : k_Model_layFines_18 x1 x2 x3 x4 M J = (if ((M 46 23) : Int32) ≤ x4 then (if ¬ (x3 : Int32) = 0 then (k_Model_layFines_43 x1 (x2 / x3) 0 M J) else none) else (mBI (k_Model_isIn x4 x1 M J) (fun v1 M1 J1 => (if (v1 : Int32) = 0 then (k_Model_layFines_18 x1 x2 x3 (x4 + 1) M1 J1) else (if mIn x4 6 then (k_Model_layFines_18 x1 (x2 + (M1 68 x4.toNatClampNeg)) (x3 + 1) (x4 + 1) M1 J1) else none))))) := (mDen_eq PG 300 (131, 18, [some (.ref 46), some (.int x1), some (.int x2), some (.int x3), some (.int x4), none], [], SH, M, J, 0, 0)).symm.trans rfl
set_option maxRecDepth 20000 in
theorem e_Model_layFines_43 (x1 : Int32) (x4 : Int32) (x5 : Int32) (M : mMI) (J : mMJ) : k_Model_layFines_43 x1 x4 x5 M J = (if ((M 46 23) : Int32) ≤ x5 then (rV M J) else (if mIn 2 4 then (if ((M 48 (2 : Int32).toNatClampNeg) : Int32) ≤ 0 then (rV M J) else (mBI (k_Model_isIn x5 x1 M J) (fun v2 M2 J2 => (if (v2 : Int32) = 0 then (k_Model_layFines_43 x1 x4 (x5 + 1) M2 J2) else (mBR (k_Model_layBy x5 x1 x4 M2 J2) 0 (fun M3 J3 => (k_Model_layFines_43 x1 x4 (x5 + 1) M3 J3))))))) else none)) := (mDen_eq PG 300 (131, 43, [some (.ref 46), some (.int x1), none, none, some (.int x4), some (.int x5)], [], SH, M, J, 0, 0)).symm.trans rfl
set_option maxRecDepth 20000 in
theorem e_Model_nine (x0 : Int32) (M : mMI) (J : mMJ) : k_Model_nine x0 M J = (if (x0 : Int32) ≤ 9 then (rI x0 M J) else (rI 9 M J)) := (mDen_eq PG 300 (132, 0, [some (.int x0)], [], SH, M, J, 0, 0)).symm.trans rfl
set_option maxRecDepth 20000 in
theorem e_Model_layBy (x1 : Int32) (x2 : Int32) (x3 : Int32) (M : mMI) (J : mMJ) : k_Model_layBy x1 x2 x3 M J = (if mIn x1 6 then (if mIn (M 63 x1.toNatClampNeg) 6 then (if mIn x1 6 then (if mIn (M 63 x1.toNatClampNeg) 6 then (if ¬ ((M 50 (M 63 x1.toNatClampNeg).toNatClampNeg) : Int32) = 4 then (if ((M 50 (M 63 x1.toNatClampNeg).toNatClampNeg) : Int32) = 3 then (k_Model_layBy_85 x1 x2 x3 (M 50 (M 63 x1.toNatClampNeg).toNatClampNeg) (M 52 (M 63 x1.toNatClampNeg).toNatClampNeg) 0 M J) else (if ¬ ((M 50 (M 63 x1.toNatClampNeg).toNatClampNeg) : Int32) = 5 then (rV M J) else (k_Model_layBy_85 x1 x2 x3 (M 50 (M 63 x1.toNatClampNeg).toNatClampNeg) (M 52 (M 63 x1.toNatClampNeg).toNatClampNeg) 0 M J))) else (k_Model_layBy_23 x1 x2 x3 (M 52 (M 63 x1.toNatClampNeg).toNatClampNeg) (-9) 0 M J)) else none) else none) else none) else none) := (mDen_eq PG 300 (133, 0, [some (.ref 46), some (.int x1), some (.int x2), some (.int x3), none, none, none, none, none], [], SH, M, J, 0, 0)).symm.trans rfl
set_option maxRecDepth 20000 in
theorem e_Model_layBy_85 (x1 : Int32) (x2 : Int32) (x3 : Int32) (x4 : Int32) (x5 : Int32) (x6 : Int32) (M : mMI) (J : mMJ) : k_Model_layBy_85 x1 x2 x3 x4 x5 x6 M J = (if ((M 46 23) : Int32) ≤ x6 then (rV M J) else (if (x6 : Int32) = x1 then (k_Model_layBy_151 x1 x2 x3 x4 x5 x6 M J) else (mBI (k_Model_isIn x6 x2 M J) (fun v1 M1 J1 => (if (v1 : Int32) = 0 then (k_Model_layBy_151 x1 x2 x3 x4 x5 x6 M1 J1) else (if mIn x6 6 then (if (x3 : Int32) ≤ (M1 68 x6.toNatClampNeg) then (k_Model_layBy_116 x1 x2 x3 x4 x5 x6 0 M1 J1) else (if mIn x6 6 then (if ¬ (9 : Int32) = 0 then (mBI (k_Model_nine (((x3 - (M1 68 x6.toNatClampNeg)) * x5) / 9) M1 J1) (fun v2 M2 J2 => (k_Model_layBy_116 x1 x2 x3 x4 x5 x6 v2 M2 J2))) else none) else none)) else none)))))) := (mDen_eq PG 300 (133, 85, [some (.ref 46), some (.int x1), some (.int x2), some (.int x3), some (.int x4), some (.int x5), some (.int x6), none, none], [], SH, M, J, 0, 0)).symm.trans rfl
set_option maxRecDepth 20000 in
theorem e_Model_layBy_23 (x1 : Int32) (x2 : Int32) (x3 : Int32) (x5 : Int32) (x6 : Int32) (x7 : Int32) (M : mMI) (J : mMJ) : k_Model_layBy_23 x1 x2 x3 x5 x6 x7 M J = (if ((M 46 23) : Int32) ≤ x7 then (if mIn x6 6 then (if ((M 68 x6.toNatClampNeg) : Int32) ≤ x3 then (k_Model_layBy_76 M J) else (if mIn x6 6 then (if ¬ (9 : Int32) = 0 then (mBI (k_Model_nine ((((M 68 x6.toNatClampNeg) - x3) * x5) / 9) M J) (fun v3 M3 J3 => (if mIn ((6 * x1) + x6) 36 then (k_Model_layBy_76 (mUp M3 69 ((6 * x1) + x6).toNatClampNeg v3) J3) else none))) else none) else none)) else none) else (if (x7 : Int32) = x1 then (k_Model_layBy_49 x1 x2 x3 x5 x6 x7 M J) else (mBI (k_Model_isIn x7 x2 M J) (fun v4 M4 J4 => (if (v4 : Int32) = 0 then (k_Model_layBy_49 x1 x2 x3 x5 x6 x7 M4 J4) else (if (x6 : Int32) = (-9) then (k_Model_layBy_47 x1 x2 x3 x5 x7 M4 J4) else (if mIn x7 6 then (if mIn x6 6 then (if ((M4 68 x7.toNatClampNeg) : Int32) ≤ (M4 68 x6.toNatClampNeg) then (k_Model_layBy_49 x1 x2 x3 x5 x6 x7 M4 J4) else (k_Model_layBy_47 x1 x2 x3 x5 x7 M4 J4)) else none) else none))))))) := (mDen_eq PG 300 (133, 23, [some (.ref 46), some (.int x1), some (.int x2), some (.int x3), none, some (.int x5), some (.int x6), some (.int x7), none], [], SH, M, J, 0, 0)).symm.trans rfl
set_option maxRecDepth 20000 in
theorem e_Model_layBy_151 (x1 : Int32) (x2 : Int32) (x3 : Int32) (x4 : Int32) (x5 : Int32) (x6 : Int32) (M : mMI) (J : mMJ) : k_Model_layBy_151 x1 x2 x3 x4 x5 x6 M J = (k_Model_layBy_85 x1 x2 x3 x4 x5 (x6 + 1) M J) := (mDen_eq PG 300 (133, 151, [some (.ref 46), some (.int x1), some (.int x2), some (.int x3), some (.int x4), some (.int x5), some (.int x6), none, none], [], SH, M, J, 0, 0)).symm.trans rfl
set_option maxRecDepth 20000 in
theorem e_Model_layBy_116 (x1 : Int32) (x2 : Int32) (x3 : Int32) (x4 : Int32) (x5 : Int32) (x6 : Int32) (y0 : Int32) (M : mMI) (J : mMJ) : k_Model_layBy_116 x1 x2 x3 x4 x5 x6 y0 M J = (if ¬ (x4 : Int32) = 5 then (k_Model_layBy_137 x1 x2 x3 x4 x5 x6 y0 M J) else (if (x2 : Int32) ≤ 0 then (k_Model_layBy_137 x1 x2 x3 x4 x5 x6 y0 M J) else (if mIn (((36 * (x2 - 1)) + (6 * x6)) + x1) 1440 then (k_Model_layBy_138 x1 x2 x3 x4 x5 x6 y0 (M 65 (((36 * (x2 - 1)) + (6 * x6)) + x1).toNatClampNeg) M J) else none))) := (mDen_eq PG 300 (133, 116, [some (.ref 46), some (.int x1), some (.int x2), some (.int x3), some (.int x4), some (.int x5), some (.int x6), none, none], [(.int y0)], SH, M, J, 0, 0)).symm.trans rfl
set_option maxRecDepth 20000 in
theorem e_Model_layBy_76  (M : mMI) (J : mMJ) : k_Model_layBy_76 M J = (rV M J) := (mDen_eq PG 300 (133, 76, [none, none, none, none, none, none, none, none, none], [], SH, M, J, 0, 0)).symm.trans rfl
set_option maxRecDepth 20000 in
theorem e_Model_layBy_49 (x1 : Int32) (x2 : Int32) (x3 : Int32) (x5 : Int32) (x6 : Int32) (x7 : Int32) (M : mMI) (J : mMJ) : k_Model_layBy_49 x1 x2 x3 x5 x6 x7 M J = (k_Model_layBy_23 x1 x2 x3 x5 x6 (x7 + 1) M J) := (mDen_eq PG 300 (133, 49, [some (.ref 46), some (.int x1), some (.int x2), some (.int x3), none, some (.int x5), some (.int x6), some (.int x7), none], [], SH, M, J, 0, 0)).symm.trans rfl
set_option maxRecDepth 20000 in
theorem e_Model_layBy_47 (x1 : Int32) (x2 : Int32) (x3 : Int32) (x5 : Int32) (x7 : Int32) (M : mMI) (J : mMJ) : k_Model_layBy_47 x1 x2 x3 x5 x7 M J = (k_Model_layBy_49 x1 x2 x3 x5 x7 x7 M J) := (mDen_eq PG 300 (133, 47, [some (.ref 46), some (.int x1), some (.int x2), some (.int x3), none, some (.int x5), none, some (.int x7), none], [], SH, M, J, 0, 0)).symm.trans rfl
set_option maxRecDepth 20000 in
theorem e_Model_layBy_137 (x1 : Int32) (x2 : Int32) (x3 : Int32) (x4 : Int32) (x5 : Int32) (x6 : Int32) (x7 : Int32) (M : mMI) (J : mMJ) : k_Model_layBy_137 x1 x2 x3 x4 x5 x6 x7 M J = (k_Model_layBy_138 x1 x2 x3 x4 x5 x6 x7 0 M J) := (mDen_eq PG 300 (133, 137, [some (.ref 46), some (.int x1), some (.int x2), some (.int x3), some (.int x4), some (.int x5), some (.int x6), some (.int x7), none], [], SH, M, J, 0, 0)).symm.trans rfl
set_option maxRecDepth 20000 in
theorem e_Model_layBy_138 (x1 : Int32) (x2 : Int32) (x3 : Int32) (x4 : Int32) (x5 : Int32) (x6 : Int32) (x7 : Int32) (y0 : Int32) (M : mMI) (J : mMJ) : k_Model_layBy_138 x1 x2 x3 x4 x5 x6 x7 y0 M J = (mBI (k_Model_nine (x7 + y0) M J) (fun v5 M5 J5 => (if mIn ((6 * x1) + x6) 36 then (k_Model_layBy_151 x1 x2 x3 x4 x5 x6 (mUp M5 69 ((6 * x1) + x6).toNatClampNeg v5) J5) else none))) := (mDen_eq PG 300 (133, 138, [some (.ref 46), some (.int x1), some (.int x2), some (.int x3), some (.int x4), some (.int x5), some (.int x6), some (.int x7), none], [(.int y0)], SH, M, J, 0, 0)).symm.trans rfl
set_option maxRecDepth 20000 in
theorem e_Model_gets (x1 : Int32) (x2 : Int32) (M : mMI) (J : mMJ) : k_Model_gets x1 x2 M J = (k_Model_gets_8 x1 x2 0 0 0 0 M J) := (mDen_eq PG 300 (134, 0, [some (.ref 46), some (.int x1), some (.int x2), none, none, none, none, none, none], [], SH, M, J, 0, 0)).symm.trans rfl
set_option maxRecDepth 20000 in
theorem e_Model_gets_8 (x1 : Int32) (x2 : Int32) (x3 : Int64) (x5 : Int32) (x6 : Int32) (x7 : Int32) (M : mMI) (J : mMJ) : k_Model_gets_8 x1 x2 x3 x5 x6 x7 M J = (if ((M 46 23) : Int32) ≤ x7 then (if mIn 1 4 then (mBI (k_Model_inMany x2 M J) (fun v1 M1 J1 => (if ¬ (v1.toInt64 : Int64) = 0 then (if mIn 0 4 then (if mIn x1 6 then (if mIn 3 4 then (if mIn 2 4 then (rJ ((((600 * (((M1 48 (0 : Int32).toNatClampNeg) - (M1 68 x1.toNatClampNeg)).toInt64)) + (((60 * x3) * ((M 48 (1 : Int32).toNatClampNeg).toInt64)) / v1.toInt64)) - ((600 * ((M1 48 (3 : Int32).toNatClampNeg).toInt64)) * x5.toInt64)) - ((600 * ((M1 48 (2 : Int32).toNatClampNeg).toInt64)) * x6.toInt64)) M1 J1) else none) else none) else none) else none) else none))) else none) else (mBI (k_Model_isIn x7 x2 M J) (fun v2 M2 J2 => (if (v2 : Int32) = 0 then (if mIn ((6 * x1) + x7) 36 then (if mIn ((6 * x7) + x1) 36 then (k_Model_gets_8 x1 x2 (x3 + 0) (x5 + (M2 69 ((6 * x1) + x7).toNatClampNeg)) (x6 + (M2 69 ((6 * x7) + x1).toNatClampNeg)) (x7 + 1) M2 J2) else none) else none) else (if mIn x7 6 then (if mIn ((6 * x1) + x7) 36 then (if mIn ((6 * x7) + x1) 36 then (k_Model_gets_8 x1 x2 (x3 + ((M2 68 x7.toNatClampNeg).toInt64)) (x5 + (M2 69 ((6 * x1) + x7).toNatClampNeg)) (x6 + (M2 69 ((6 * x7) + x1).toNatClampNeg)) (x7 + 1) M2 J2) else none) else none) else none))))) := (mDen_eq PG 300 (134, 8, [some (.ref 46), some (.int x1), some (.int x2), some (.long x3), none, some (.int x5), some (.int x6), some (.int x7), none], [], SH, M, J, 0, 0)).symm.trans rfl
set_option maxRecDepth 20000 in
theorem e_Model_run  (M : mMI) (J : mMJ) : k_Model_run M J = (k_Model_run_2 0 M J) := (mDen_eq PG 300 (135, 0, [some (.ref 46), none, none, none, none], [], SH, M, J, 0, 0)).symm.trans rfl
set_option maxRecDepth 20000 in
theorem e_Model_run_2 (x1 : Int32) (M : mMI) (J : mMJ) : k_Model_run_2 x1 M J = (if (40 : Int32) ≤ x1 then (rV M J) else (k_Model_run_7 x1 0 M J)) := (mDen_eq PG 300 (135, 2, [some (.ref 46), some (.int x1), none, none, none], [], SH, M, J, 0, 0)).symm.trans rfl
set_option maxRecDepth 20000 in
theorem e_Model_run_7 (x1 : Int32) (x2 : Int32) (M : mMI) (J : mMJ) : k_Model_run_7 x1 x2 M J = (if ((M 46 23) : Int32) ≤ x2 then (mBR (k_Model_layFines x1 M J) 0 (fun M1 J1 => (k_Model_run_33 x1 0 M1 J1))) else (mBI (k_Model_isIn x2 x1 M J) (fun v2 M2 J2 => (if (v2 : Int32) = 0 then (if mIn x2 6 then (k_Model_run_7 x1 (x2 + 1) (mUp M2 68 x2.toNatClampNeg 0) J2) else none) else (mBI (k_Model_putOf x2 x1 M2 J2) (fun v3 M3 J3 => (if mIn x2 6 then (k_Model_run_7 x1 (x2 + 1) (mUp M3 68 x2.toNatClampNeg v3) J3) else none))))))) := (mDen_eq PG 300 (135, 7, [some (.ref 46), some (.int x1), some (.int x2), none, none], [], SH, M, J, 0, 0)).symm.trans rfl
set_option maxRecDepth 20000 in
theorem e_Model_run_33 (x1 : Int32) (x2 : Int32) (M : mMI) (J : mMJ) : k_Model_run_33 x1 x2 M J = (if ((M 46 23) : Int32) ≤ x2 then (k_Model_run_89 x1 0 M J) else (if ¬ (x1 : Int32) = 0 then (if mIn ((6 * (x1 - 1)) + x2) 240 then (mBI (k_Model_isIn x2 x1 M J) (fun v4 M4 J4 => (if (v4 : Int32) = 0 then (if mIn ((6 * x1) + x2) 240 then (if mIn x2 6 then (if mIn ((6 * x1) + x2) 240 then (k_Model_run_33 x1 (x2 + 1) (mUp M4 64 ((6 * x1) + x2).toNatClampNeg (M4 68 x2.toNatClampNeg)) (mUpJ J4 66 ((6 * x1) + x2).toNatClampNeg ((J 66 ((6 * (x1 - 1)) + x2).toNatClampNeg) + 0))) else none) else none) else none) else (mBJ (k_Model_gets x2 x1 M4 J4) (fun v5 M5 J5 => (if mIn ((6 * x1) + x2) 240 then (if mIn x2 6 then (if mIn ((6 * x1) + x2) 240 then (k_Model_run_33 x1 (x2 + 1) (mUp M5 64 ((6 * x1) + x2).toNatClampNeg (M5 68 x2.toNatClampNeg)) (mUpJ J5 66 ((6 * x1) + x2).toNatClampNeg ((J 66 ((6 * (x1 - 1)) + x2).toNatClampNeg) + v5))) else none) else none) else none)))))) else none) else (mBI (k_Model_isIn x2 x1 M J) (fun v6 M6 J6 => (if (v6 : Int32) = 0 then (if mIn ((6 * x1) + x2) 240 then (if mIn x2 6 then (if mIn ((6 * x1) + x2) 240 then (k_Model_run_33 x1 (x2 + 1) (mUp M6 64 ((6 * x1) + x2).toNatClampNeg (M6 68 x2.toNatClampNeg)) (mUpJ J6 66 ((6 * x1) + x2).toNatClampNeg (0 + 0))) else none) else none) else none) else (mBJ (k_Model_gets x2 x1 M6 J6) (fun v7 M7 J7 => (if mIn ((6 * x1) + x2) 240 then (if mIn x2 6 then (if mIn ((6 * x1) + x2) 240 then (k_Model_run_33 x1 (x2 + 1) (mUp M7 64 ((6 * x1) + x2).toNatClampNeg (M7 68 x2.toNatClampNeg)) (mUpJ J7 66 ((6 * x1) + x2).toNatClampNeg (0 + v7))) else none) else none) else none)))))))) := (mDen_eq PG 300 (135, 33, [some (.ref 46), some (.int x1), some (.int x2), none, none], [], SH, M, J, 0, 0)).symm.trans rfl
set_option maxRecDepth 20000 in
theorem e_Model_run_89 (x1 : Int32) (x2 : Int32) (M : mMI) (J : mMJ) : k_Model_run_89 x1 x2 M J = (if (36 : Int32) ≤ x2 then (k_Model_run_2 (x1 + 1) M J) else (if mIn x2 36 then (if mIn ((36 * x1) + x2) 1440 then (k_Model_run_89 x1 (x2 + 1) (mUp M 65 ((36 * x1) + x2).toNatClampNeg (M 69 x2.toNatClampNeg)) J) else none) else none)) := (mDen_eq PG 300 (135, 89, [some (.ref 46), some (.int x1), some (.int x2), none, none], [], SH, M, J, 0, 0)).symm.trans rfl
set_option maxRecDepth 20000 in
theorem e_Model_runAll  (M : mMI) (J : mMJ) : k_Model_runAll M J = (k_Model_runAll_8 0 (mUp (mUp M 46 23 (M 46 7)) 46 24 0) J) := (mDen_eq PG 300 (136, 0, [some (.ref 46), none], [], SH, M, J, 0, 0)).symm.trans rfl
set_option maxRecDepth 20000 in
theorem e_Model_runAll_8 (x1 : Int32) (M : mMI) (J : mMJ) : k_Model_runAll_8 x1 M J = (if ((M 46 7) : Int32) ≤ x1 then (mBR (k_Model_run M J) 0 (fun M1 J1 => (rV M1 J1))) else (if mIn x1 6 then (k_Model_runAll_8 (x1 + 1) (mUp M 63 x1.toNatClampNeg x1) J) else none)) := (mDen_eq PG 300 (136, 8, [some (.ref 46), some (.int x1)], [], SH, M, J, 0, 0)).symm.trans rfl
set_option maxRecDepth 20000 in
theorem e_Model_sumAt (x1 : Int32) (M : mMI) (J : mMJ) : k_Model_sumAt x1 M J = (k_Model_sumAt_4 x1 0 0 M J) := (mDen_eq PG 300 (137, 0, [some (.ref 46), some (.int x1), none, none, none], [], SH, M, J, 0, 0)).symm.trans rfl
set_option maxRecDepth 20000 in
theorem e_Model_sumAt_4 (x1 : Int32) (x2 : Int64) (x4 : Int32) (M : mMI) (J : mMJ) : k_Model_sumAt_4 x1 x2 x4 M J = (if ((M 46 23) : Int32) ≤ x4 then (rJ x2 M J) else (if mIn ((6 * x1) + x4) 240 then (k_Model_sumAt_4 x1 (x2 + (J 66 ((6 * x1) + x4).toNatClampNeg)) (x4 + 1) M J) else none)) := (mDen_eq PG 300 (137, 4, [some (.ref 46), some (.int x1), some (.long x2), none, some (.int x4)], [], SH, M, J, 0, 0)).symm.trans rfl
set_option maxRecDepth 20000 in
theorem e_Model_runBoth  (M : mMI) (J : mMJ) : k_Model_runBoth M J = (if mIn 2 4 then (if mIn 2 4 then (mBR (k_Model_runAll (mUp M 48 (2 : Int32).toNatClampNeg 0) J) 0 (fun M1 J1 => (if mIn 2 4 then (k_Model_runBoth_19 0 (mUp M1 48 (2 : Int32).toNatClampNeg (M 48 (2 : Int32).toNatClampNeg)) J1) else none))) else none) else none) := (mDen_eq PG 300 (138, 0, [some (.ref 46), none, none], [], SH, M, J, 0, 0)).symm.trans rfl
set_option maxRecDepth 20000 in
theorem e_Model_runBoth_19 (x2 : Int32) (M : mMI) (J : mMJ) : k_Model_runBoth_19 x2 M J = (if (240 : Int32) ≤ x2 then (mBR (k_Model_runAll M J) 0 (fun M2 J2 => (rV M2 J2))) else (if mIn x2 240 then (if mIn x2 240 then (k_Model_runBoth_19 (x2 + 1) M (mUpJ J 67 x2.toNatClampNeg (J 66 x2.toNatClampNeg))) else none) else none)) := (mDen_eq PG 300 (138, 19, [some (.ref 46), none, some (.int x2)], [], SH, M, J, 0, 0)).symm.trans rfl
set_option maxRecDepth 20000 in
theorem e_Model_otherAt (x1 : Int32) (M : mMI) (J : mMJ) : k_Model_otherAt x1 M J = (k_Model_otherAt_4 x1 0 0 M J) := (mDen_eq PG 300 (139, 0, [some (.ref 46), some (.int x1), none, none, none], [], SH, M, J, 0, 0)).symm.trans rfl
set_option maxRecDepth 20000 in
theorem e_Model_otherAt_4 (x1 : Int32) (x2 : Int64) (x4 : Int32) (M : mMI) (J : mMJ) : k_Model_otherAt_4 x1 x2 x4 M J = (if ((M 46 23) : Int32) ≤ x4 then (rJ x2 M J) else (if mIn ((6 * x1) + x4) 240 then (k_Model_otherAt_4 x1 (x2 + (J 67 ((6 * x1) + x4).toNatClampNeg)) (x4 + 1) M J) else none)) := (mDen_eq PG 300 (139, 4, [some (.ref 46), some (.int x1), some (.long x2), none, some (.int x4)], [], SH, M, J, 0, 0)).symm.trans rfl
set_option maxRecDepth 20000 in
theorem e_Model_put (x1 : Int32) (x2 : Int32) (M : mMI) (J : mMJ) : k_Model_put x1 x2 M J = (mBI (k_Model_noPerson x1 (mUp M 46 0 0) J) (fun v1 M1 J1 => (if ¬ (v1 : Int32) = 0 then (rI (-1) M1 J1) else (mBI (k_Model_noRound x2 M1 J1) (fun v2 M2 J2 => (if (v2 : Int32) = 0 then (mBR (k_Model_runAll M2 J2) 0 (fun M3 J3 => (mBI (k_Model_isIn x1 x2 M3 J3) (fun v4 M4 J4 => (if (v4 : Int32) = 0 then (rI (-9) M4 J4) else (if mIn ((6 * x2) + x1) 240 then (rI (M4 64 ((6 * x2) + x1).toNatClampNeg) M4 J4) else none)))))) else (rI (-1) M2 J2))))))) := (mDen_eq PG 300 (140, 0, [some (.ref 46), some (.int x1), some (.int x2)], [], SH, M, J, 0, 0)).symm.trans rfl
set_option maxRecDepth 20000 in
theorem e_Model_paid (x1 : Int32) (x2 : Int32) (x3 : Int32) (M : mMI) (J : mMJ) : k_Model_paid x1 x2 x3 M J = (mBI (k_Model_noPerson x1 (mUp M 46 0 0) J) (fun v1 M1 J1 => (if ¬ (v1 : Int32) = 0 then (rI (-1) M1 J1) else (mBI (k_Model_noPerson x2 M1 J1) (fun v2 M2 J2 => (if ¬ (v2 : Int32) = 0 then (rI (-1) M2 J2) else (mBI (k_Model_noRound x3 M2 J2) (fun v3 M3 J3 => (if (v3 : Int32) = 0 then (if ¬ (x1 : Int32) = x2 then (mBR (k_Model_runAll M3 J3) 0 (fun M4 J4 => (if mIn (((36 * x3) + (6 * x1)) + x2) 1440 then (rI (M4 65 (((36 * x3) + (6 * x1)) + x2).toNatClampNeg) M4 J4) else none))) else (rI (-2) M3 J3)) else (rI (-1) M3 J3)))))))))) := (mDen_eq PG 300 (141, 0, [some (.ref 46), some (.int x1), some (.int x2), some (.int x3)], [], SH, M, J, 0, 0)).symm.trans rfl
set_option maxRecDepth 20000 in
theorem e_Model_potOf (x1 : Int32) (M : mMI) (J : mMJ) : k_Model_potOf x1 M J = (k_Model_potOf_4 x1 0 0 M J) := (mDen_eq PG 300 (142, 0, [some (.ref 46), some (.int x1), none, none], [], SH, M, J, 0, 0)).symm.trans rfl
set_option maxRecDepth 20000 in
theorem e_Model_potOf_4 (x1 : Int32) (x2 : Int32) (x3 : Int32) (M : mMI) (J : mMJ) : k_Model_potOf_4 x1 x2 x3 M J = (if ((M 46 23) : Int32) ≤ x3 then (rI x2 M J) else (if mIn ((6 * x1) + x3) 240 then (k_Model_potOf_4 x1 (x2 + (M 64 ((6 * x1) + x3).toNatClampNeg)) (x3 + 1) M J) else none)) := (mDen_eq PG 300 (142, 4, [some (.ref 46), some (.int x1), some (.int x2), some (.int x3)], [], SH, M, J, 0, 0)).symm.trans rfl
set_option maxRecDepth 20000 in
theorem e_Model_pot (x1 : Int32) (M : mMI) (J : mMJ) : k_Model_pot x1 M J = (mBI (k_Model_noRound x1 (mUp M 46 0 0) J) (fun v1 M1 J1 => (if (v1 : Int32) = 0 then (mBR (k_Model_runAll M1 J1) 0 (fun M2 J2 => (mBI (k_Model_potOf x1 M2 J2) (fun v3 M3 J3 => (rI v3 M3 J3))))) else (rI (-1) M1 J1)))) := (mDen_eq PG 300 (143, 0, [some (.ref 46), some (.int x1)], [], SH, M, J, 0, 0)).symm.trans rfl
set_option maxRecDepth 20000 in
theorem e_Model_here (x1 : Int32) (M : mMI) (J : mMJ) : k_Model_here x1 M J = (mBI (k_Model_noRound x1 (mUp M 46 0 0) J) (fun v1 M1 J1 => (if (v1 : Int32) = 0 then (mBR (k_Model_runAll M1 J1) 0 (fun M2 J2 => (mBI (k_Model_inMany x1 M2 J2) (fun v3 M3 J3 => (rI v3 M3 J3))))) else (rI (-1) M1 J1)))) := (mDen_eq PG 300 (144, 0, [some (.ref 46), some (.int x1)], [], SH, M, J, 0, 0)).symm.trans rfl
set_option maxRecDepth 20000 in
theorem e_Model_holds (x1 : Int32) (x2 : Int32) (M : mMI) (J : mMJ) : k_Model_holds x1 x2 M J = (mBI (k_Model_noPerson x1 (mUp M 46 0 0) J) (fun v1 M1 J1 => (if ¬ (v1 : Int32) = 0 then (rJ (-1) M1 J1) else (mBI (k_Model_noRound x2 M1 J1) (fun v2 M2 J2 => (if (v2 : Int32) = 0 then (mBR (k_Model_runAll M2 J2) 0 (fun M3 J3 => (if mIn ((6 * x2) + x1) 240 then (rJ (1000000000 + (J3 66 ((6 * x2) + x1).toNatClampNeg)) M3 J3) else none))) else (rJ (-1) M2 J2))))))) := (mDen_eq PG 300 (145, 0, [some (.ref 46), some (.int x1), some (.int x2)], [], SH, M, J, 0, 0)).symm.trans rfl
set_option maxRecDepth 20000 in
theorem e_Model_all (x1 : Int32) (x2 : Int32) (M : mMI) (J : mMJ) : k_Model_all x1 x2 M J = (mBI (k_Model_noRound x1 (mUp M 46 0 0) J) (fun v1 M1 J1 => (if (v1 : Int32) = 0 then (mBR (k_Model_runBoth M1 J1) 0 (fun M2 J2 => (if (x2 : Int32) = 0 then (mBJ (k_Model_sumAt x1 M2 J2) (fun v3 M3 J3 => (rJ (1000000000 + v3) M3 J3))) else (mBJ (k_Model_otherAt x1 M2 J2) (fun v4 M4 J4 => (rJ (1000000000 + v4) M4 J4)))))) else (rJ (-1) M1 J1)))) := (mDen_eq PG 300 (146, 0, [some (.ref 46), some (.int x1), some (.int x2)], [], SH, M, J, 0, 0)).symm.trans rfl
set_option maxRecDepth 20000 in
theorem e_Model_lost (x1 : Int32) (x2 : Int32) (M : mMI) (J : mMJ) : k_Model_lost x1 x2 M J = (mBI (k_Model_noPerson x1 (mUp M 46 0 0) J) (fun v1 M1 J1 => (if ¬ (v1 : Int32) = 0 then (rI (-1) M1 J1) else (mBI (k_Model_noRound x2 M1 J1) (fun v2 M2 J2 => (if (v2 : Int32) = 0 then (mBR (k_Model_runAll M2 J2) 0 (fun M3 J3 => (k_Model_lost_18 x1 x2 0 0 M3 J3))) else (rI (-1) M2 J2))))))) := (mDen_eq PG 300 (147, 0, [some (.ref 46), some (.int x1), some (.int x2), none, none, none], [], SH, M, J, 0, 0)).symm.trans rfl
set_option maxRecDepth 20000 in
theorem e_Model_lost_18 (x1 : Int32) (x2 : Int32) (x3 : Int32) (x4 : Int32) (M : mMI) (J : mMJ) : k_Model_lost_18 x1 x2 x3 x4 M J = (if (x2 : Int32) < x4 then (rI x3 M J) else (k_Model_lost_23 x1 x2 x3 x4 0 M J)) := (mDen_eq PG 300 (147, 18, [some (.ref 46), some (.int x1), some (.int x2), some (.int x3), some (.int x4), none], [], SH, M, J, 0, 0)).symm.trans rfl
set_option maxRecDepth 20000 in
theorem e_Model_lost_23 (x1 : Int32) (x2 : Int32) (x3 : Int32) (x4 : Int32) (x5 : Int32) (M : mMI) (J : mMJ) : k_Model_lost_23 x1 x2 x3 x4 x5 M J = (if ((M 46 23) : Int32) ≤ x5 then (k_Model_lost_18 x1 x2 x3 (x4 + 1) M J) else (if mIn 3 4 then (if mIn (((36 * x4) + (6 * x1)) + x5) 1440 then (if mIn 2 4 then (if mIn (((36 * x4) + (6 * x5)) + x1) 1440 then (k_Model_lost_23 x1 x2 (x3 + (((M 48 (3 : Int32).toNatClampNeg) * (M 65 (((36 * x4) + (6 * x1)) + x5).toNatClampNeg)) + ((M 48 (2 : Int32).toNatClampNeg) * (M 65 (((36 * x4) + (6 * x5)) + x1).toNatClampNeg)))) x4 (x5 + 1) M J) else none) else none) else none) else none)) := (mDen_eq PG 300 (147, 23, [some (.ref 46), some (.int x1), some (.int x2), some (.int x3), some (.int x4), some (.int x5)], [], SH, M, J, 0, 0)).symm.trans rfl
set_option maxRecDepth 20000 in
theorem e_Model_fall  (M : mMI) (J : mMJ) : k_Model_fall M J = (mBR (k_Model_runAll (mUp M 46 0 0) J) 0 (fun M1 J1 => (mBI (k_Model_potOf 0 M1 J1) (fun v2 M2 J2 => (k_Model_fall_11 v2 1 M2 J2))))) := (mDen_eq PG 300 (148, 0, [some (.ref 46), none, none], [], SH, M, J, 0, 0)).symm.trans rfl
set_option maxRecDepth 20000 in
theorem e_Model_fall_11 (x1 : Int32) (x2 : Int32) (M : mMI) (J : mMJ) : k_Model_fall_11 x1 x2 M J = (if (40 : Int32) ≤ x2 then (rI (-9) M J) else (if (x1 : Int32) ≤ 0 then (rI (-9) M J) else (mBI (k_Model_potOf x2 M J) (fun v3 M3 J3 => (if (x1 : Int32) < (2 * v3) then (k_Model_fall_11 x1 (x2 + 1) M3 J3) else (rI x2 M3 J3)))))) := (mDen_eq PG 300 (148, 11, [some (.ref 46), some (.int x1), some (.int x2)], [], SH, M, J, 0, 0)).symm.trans rfl
set_option maxRecDepth 20000 in
theorem e_Model_pays  (M : mMI) (J : mMJ) : k_Model_pays M J = (mBR (k_Model_runBoth (mUp M 46 0 0) J) 0 (fun M1 J1 => (k_Model_pays_9 (-9) 39 M1 J1))) := (mDen_eq PG 300 (149, 0, [some (.ref 46), none, none], [], SH, M, J, 0, 0)).symm.trans rfl
set_option maxRecDepth 20000 in
theorem e_Model_pays_9 (x1 : Int32) (x2 : Int32) (M : mMI) (J : mMJ) : k_Model_pays_9 x1 x2 M J = (if (x2 : Int32) < 0 then (rI x1 M J) else (mBJ (k_Model_sumAt x2 M J) (fun v2 M2 J2 => (mBJ (k_Model_otherAt x2 M2 J2) (fun v3 M3 J3 => (if ((lg_cmp v2 v3) : Int32) ≤ 0 then (rI x1 M3 J3) else (k_Model_pays_9 x2 (x2 + (-1)) M3 J3))))))) := (mDen_eq PG 300 (149, 9, [some (.ref 46), some (.int x1), some (.int x2)], [], SH, M, J, 0, 0)).symm.trans rfl
set_option maxRecDepth 20000 in
theorem e_Model_vote (x1 : Int32) (M : mMI) (J : mMJ) : k_Model_vote x1 M J = (mBI (k_Model_noRound x1 (mUp M 46 0 0) J) (fun v1 M1 J1 => (if (v1 : Int32) = 0 then (mBR (k_Model_runBoth M1 J1) 0 (fun M2 J2 => (k_Model_vote_14 x1 0 0 M2 J2))) else (rI (-1) M1 J1)))) := (mDen_eq PG 300 (150, 0, [some (.ref 46), some (.int x1), none, none], [], SH, M, J, 0, 0)).symm.trans rfl
set_option maxRecDepth 20000 in
theorem e_Model_vote_14 (x1 : Int32) (x2 : Int32) (x3 : Int32) (M : mMI) (J : mMJ) : k_Model_vote_14 x1 x2 x3 M J = (if ((M 46 7) : Int32) ≤ x3 then (rI x2 M J) else (if mIn ((6 * x1) + x3) 240 then (if mIn ((6 * x1) + x3) 240 then (if ((lg_cmp (J 66 ((6 * x1) + x3).toNatClampNeg) (J 67 ((6 * x1) + x3).toNatClampNeg)) : Int32) ≤ 0 then (k_Model_vote_14 x1 (x2 ||| 0) (x3 + 1) M J) else (k_Model_vote_14 x1 (x2 ||| (1 <<< (x3 &&& 31))) (x3 + 1) M J)) else none) else none)) := (mDen_eq PG 300 (150, 14, [some (.ref 46), some (.int x1), some (.int x2), some (.int x3)], [], SH, M, J, 0, 0)).symm.trans rfl
set_option maxRecDepth 20000 in
theorem e_Model_least (x1 : Int32) (x2 : Int32) (M : mMI) (J : mMJ) : k_Model_least x1 x2 M J = (mBI (k_Model_noRound x1 (mUp M 46 0 0) J) (fun v1 M1 J1 => (if (v1 : Int32) = 0 then (mBI (k_Model_in x2.toInt64 0 20 M1 J1) (fun v2 M2 J2 => (if ¬ (v2 : Int32) = 0 then (if mIn 2 4 then (k_Model_least_25 x1 x2 (M2 48 (2 : Int32).toNatClampNeg) (-9) 9 M2 J2) else none) else (rI (-2) M2 J2)))) else (rI (-1) M1 J1)))) := (mDen_eq PG 300 (151, 0, [some (.ref 46), some (.int x1), some (.int x2), none, none, none], [], SH, M, J, 0, 0)).symm.trans rfl
set_option maxRecDepth 20000 in
theorem e_Model_least_25 (x1 : Int32) (x2 : Int32) (x3 : Int32) (x4 : Int32) (x5 : Int32) (M : mMI) (J : mMJ) : k_Model_least_25 x1 x2 x3 x4 x5 M J = (if (x5 : Int32) < 0 then (if mIn 2 4 then (rI x4 (mUp M 48 (2 : Int32).toNatClampNeg x3) J) else none) else (if mIn 2 4 then (mBR (k_Model_runAll (mUp M 48 (2 : Int32).toNatClampNeg x5) J) 0 (fun M3 J3 => (mBI (k_Model_potOf x1 M3 J3) (fun v4 M4 J4 => (mBI (k_Model_inMany x1 M4 J4) (fun v5 M5 J5 => (if (v4 : Int32) < (x2 * v5) then (k_Model_least_25 x1 x2 x3 x4 (x5 + (-1)) M5 J5) else (k_Model_least_25 x1 x2 x3 x5 (x5 + (-1)) M5 J5)))))))) else none)) := (mDen_eq PG 300 (151, 25, [some (.ref 46), some (.int x1), some (.int x2), some (.int x3), some (.int x4), some (.int x5)], [], SH, M, J, 0, 0)).symm.trans rfl
set_option maxRecDepth 20000 in
theorem e_Model_leadBy (x1 : Int32) (M : mMI) (J : mMJ) : k_Model_leadBy x1 M J = (if mIn (40 * x1) 240 then (if mIn (40 * x1) 240 then (mBR (k_Model_runAll (mUp M 56 (40 * x1).toNatClampNeg 20) J) 0 (fun M1 J1 => (if mIn (40 * x1) 240 then (mBJ (k_Model_sumAt 39 (mUp M1 56 (40 * x1).toNatClampNeg (M 56 (40 * x1).toNatClampNeg)) J1) (fun v2 M2 J2 => (rJ v2 M2 J2))) else none))) else none) else none) := (mDen_eq PG 300 (152, 0, [some (.ref 46), some (.int x1), none], [], SH, M, J, 0, 0)).symm.trans rfl
set_option maxRecDepth 20000 in
theorem e_Model_findLeader  (M : mMI) (J : mMJ) : k_Model_findLeader M J = (k_Model_findLeader_6 0 0 0 M J) := (mDen_eq PG 300 (153, 0, [some (.ref 46), none, none, none, none, none, none], [], SH, M, J, 0, 0)).symm.trans rfl
set_option maxRecDepth 20000 in
theorem e_Model_findLeader_6 (x1 : Int32) (x2 : Int64) (x4 : Int32) (M : mMI) (J : mMJ) : k_Model_findLeader_6 x1 x2 x4 M J = (if ((M 46 7) : Int32) ≤ x4 then (rI x1 M J) else (mBJ (k_Model_leadBy x4 M J) (fun v1 M1 J1 => (if (x4 : Int32) = 0 then (k_Model_findLeader_6 x4 v1 (x4 + 1) M1 J1) else (if ((lg_cmp v1 x2) : Int32) ≤ 0 then (k_Model_findLeader_6 x1 x2 (x4 + 1) M1 J1) else (k_Model_findLeader_6 x4 v1 (x4 + 1) M1 J1)))))) := (mDen_eq PG 300 (153, 6, [some (.ref 46), some (.int x1), some (.long x2), none, some (.int x4), none, none], [], SH, M, J, 0, 0)).symm.trans rfl
set_option maxRecDepth 20000 in
theorem e_Model_leader  (M : mMI) (J : mMJ) : k_Model_leader M J = (mBI (k_Model_findLeader (mUp M 46 0 0) J) (fun v1 M1 J1 => (rI v1 M1 J1))) := (mDen_eq PG 300 (154, 0, [some (.ref 46)], [], SH, M, J, 0, 0)).symm.trans rfl
set_option maxRecDepth 20000 in
theorem e_Model_led  (M : mMI) (J : mMJ) : k_Model_led M J = (mBI (k_Model_findLeader (mUp M 46 0 0) J) (fun v1 M1 J1 => (mBJ (k_Model_leadBy v1 M1 J1) (fun v2 M2 J2 => (rJ (1000000000 + v2) M2 J2))))) := (mDen_eq PG 300 (155, 0, [some (.ref 46)], [], SH, M, J, 0, 0)).symm.trans rfl
set_option maxRecDepth 20000 in
theorem e_Model_isFew (x1 : Int32) (M : mMI) (J : mMJ) : k_Model_isFew x1 M J = (if mIn x1 6 then (if mIn x1 6 then (mBI (k_Model_staying (mUp M 57 x1.toNatClampNeg 0) J) (fun v1 M1 J1 => (if (2 : Int32) ≤ v1 then (if mIn x1 6 then (rZ 0 (mUp M1 57 x1.toNatClampNeg (M 57 x1.toNatClampNeg)) J1) else none) else (if mIn x1 6 then (rZ 1 (mUp M1 57 x1.toNatClampNeg (M 57 x1.toNatClampNeg)) J1) else none)))) else none) else none) := (mDen_eq PG 300 (156, 0, [some (.ref 46), some (.int x1), none, none], [], SH, M, J, 0, 0)).symm.trans rfl
set_option maxRecDepth 20000 in
theorem e_Model_withoutOne (x1 : Int32) (M : mMI) (J : mMJ) : k_Model_withoutOne x1 M J = (if mIn x1 6 then (if mIn x1 6 then (mBR (k_Model_runAll (mUp M 57 x1.toNatClampNeg 0) J) 0 (fun M1 J1 => (if mIn x1 6 then (mBJ (k_Model_sumAt 39 (mUp M1 57 x1.toNatClampNeg (M 57 x1.toNatClampNeg)) J1) (fun v2 M2 J2 => (if mIn (234 + x1) 240 then (rJ (v2 - (J2 66 (234 + x1).toNatClampNeg)) M2 J2) else none))) else none))) else none) else none) := (mDen_eq PG 300 (157, 0, [some (.ref 46), some (.int x1), none], [], SH, M, J, 0, 0)).symm.trans rfl
set_option maxRecDepth 20000 in
theorem e_Model_whom  (M : mMI) (J : mMJ) : k_Model_whom M J = (k_Model_whom_9 (-3) 0 0 (mUp M 46 0 0) J) := (mDen_eq PG 300 (158, 0, [some (.ref 46), none, none, none, none, none, none], [], SH, M, J, 0, 0)).symm.trans rfl
set_option maxRecDepth 20000 in
theorem e_Model_whom_9 (x1 : Int32) (x2 : Int64) (x4 : Int32) (M : mMI) (J : mMJ) : k_Model_whom_9 x1 x2 x4 M J = (if ((M 46 7) : Int32) ≤ x4 then (rI x1 M J) else (mBI (k_Model_isFew x4 M J) (fun v1 M1 J1 => (if (v1 : Int32) = 0 then (mBJ (k_Model_withoutOne x4 M1 J1) (fun v2 M2 J2 => (k_Model_whom_22 x1 x2 x4 v2 M2 J2))) else (k_Model_whom_22 x1 x2 x4 0 M1 J1))))) := (mDen_eq PG 300 (158, 9, [some (.ref 46), some (.int x1), some (.long x2), none, some (.int x4), none, none], [], SH, M, J, 0, 0)).symm.trans rfl
set_option maxRecDepth 20000 in
theorem e_Model_whom_22 (x1 : Int32) (x2 : Int64) (x4 : Int32) (y0 : Int64) (M : mMI) (J : mMJ) : k_Model_whom_22 x1 x2 x4 y0 M J = (mBI (k_Model_isFew x4 M J) (fun v3 M3 J3 => (if ¬ (v3 : Int32) = 0 then (k_Model_whom_38 x1 x2 x4 M3 J3) else (if (x1 : Int32) = (-3) then (k_Model_whom_34 x4 y0 M3 J3) else (if ((lg_cmp y0 x2) : Int32) ≤ 0 then (k_Model_whom_38 x1 x2 x4 M3 J3) else (k_Model_whom_34 x4 y0 M3 J3)))))) := (mDen_eq PG 300 (158, 22, [some (.ref 46), some (.int x1), some (.long x2), none, some (.int x4), none, none], [(.long y0)], SH, M, J, 0, 0)).symm.trans rfl
set_option maxRecDepth 20000 in
theorem e_Model_whom_38 (x1 : Int32) (x2 : Int64) (x4 : Int32) (M : mMI) (J : mMJ) : k_Model_whom_38 x1 x2 x4 M J = (k_Model_whom_9 x1 x2 (x4 + 1) M J) := (mDen_eq PG 300 (158, 38, [some (.ref 46), some (.int x1), some (.long x2), none, some (.int x4), none, none], [], SH, M, J, 0, 0)).symm.trans rfl
set_option maxRecDepth 20000 in
theorem e_Model_whom_34 (x4 : Int32) (x5 : Int64) (M : mMI) (J : mMJ) : k_Model_whom_34 x4 x5 M J = (k_Model_whom_38 x4 x5 x4 M J) := (mDen_eq PG 300 (158, 34, [some (.ref 46), none, none, none, some (.int x4), some (.long x5), none], [], SH, M, J, 0, 0)).symm.trans rfl
set_option maxRecDepth 20000 in
theorem e_Model_without (x1 : Int32) (M : mMI) (J : mMJ) : k_Model_without x1 M J = (mBI (k_Model_noPerson x1 (mUp M 46 0 0) J) (fun v1 M1 J1 => (if (v1 : Int32) = 0 then (mBI (k_Model_isFew x1 M1 J1) (fun v2 M2 J2 => (if (v2 : Int32) = 0 then (mBJ (k_Model_withoutOne x1 M2 J2) (fun v3 M3 J3 => (rJ (1000000000 + v3) M3 J3))) else (rJ (-3) M2 J2)))) else (rJ (-1) M1 J1)))) := (mDen_eq PG 300 (159, 0, [some (.ref 46), some (.int x1)], [], SH, M, J, 0, 0)).symm.trans rfl
set_option maxRecDepth 20000 in
theorem e_Model_halfBy (x1 : Int32) (M : mMI) (J : mMJ) : k_Model_halfBy x1 M J = (k_Model_halfBy_7 x1 0 (mUp (mUp M 46 23 0) 46 24 1) J) := (mDen_eq PG 300 (160, 0, [some (.ref 46), some (.int x1), none], [], SH, M, J, 0, 0)).symm.trans rfl
set_option maxRecDepth 20000 in
theorem e_Model_halfBy_7 (x1 : Int32) (x2 : Int32) (M : mMI) (J : mMJ) : k_Model_halfBy_7 x1 x2 M J = (if ((M 46 7) : Int32) ≤ x2 then (mBR (k_Model_run M J) 0 (fun M1 J1 => (mBJ (k_Model_sumAt 39 M1 J1) (fun v2 M2 J2 => (rJ v2 M2 J2))))) else (if ¬ (((x1 >>> (x2 &&& 31)) &&& 1) : Int32) = 1 then (k_Model_halfBy_7 x1 (x2 + 1) M J) else (if mIn (M 46 23) 6 then (k_Model_halfBy_7 x1 (x2 + 1) (mUp (mUp M 63 (M 46 23).toNatClampNeg x2) 46 23 ((M 46 23) + 1)) J) else none))) := (mDen_eq PG 300 (160, 7, [some (.ref 46), some (.int x1), some (.int x2)], [], SH, M, J, 0, 0)).symm.trans rfl
set_option maxRecDepth 20000 in
theorem e_Model_bits (x0 : Int32) (M : mMI) (J : mMJ) : k_Model_bits x0 M J = (k_Model_bits_4 x0 0 0 M J) := (mDen_eq PG 300 (161, 0, [some (.int x0), none, none], [], SH, M, J, 0, 0)).symm.trans rfl
set_option maxRecDepth 20000 in
theorem e_Model_bits_4 (x0 : Int32) (x1 : Int32) (x2 : Int32) (M : mMI) (J : mMJ) : k_Model_bits_4 x0 x1 x2 M J = (if (6 : Int32) ≤ x2 then (rI x1 M J) else (k_Model_bits_4 x0 (x1 + ((x0 >>> (x2 &&& 31)) &&& 1)) (x2 + 1) M J)) := (mDen_eq PG 300 (161, 4, [some (.int x0), some (.int x1), some (.int x2)], [], SH, M, J, 0, 0)).symm.trans rfl
set_option maxRecDepth 20000 in
theorem e_Model_partBy (x1 : Int32) (M : mMI) (J : mMJ) : k_Model_partBy x1 M J = (mBJ (k_Model_halfBy x1 M J) (fun v1 M1 J1 => (mBJ (k_Model_halfBy (((1 <<< ((M1 46 7) &&& 31)) - 1) &&& (x1 ^^^ (-1))) M1 J1) (fun v2 M2 J2 => (rJ (v1 + v2) M2 J2))))) := (mDen_eq PG 300 (162, 0, [some (.ref 46), some (.int x1)], [], SH, M, J, 0, 0)).symm.trans rfl
set_option maxRecDepth 20000 in
theorem e_Model_findPart  (M : mMI) (J : mMJ) : k_Model_findPart M J = (k_Model_findPart_6 0 0 1 M J) := (mDen_eq PG 300 (163, 0, [some (.ref 46), none, none, none, none, none, none], [], SH, M, J, 0, 0)).symm.trans rfl
set_option maxRecDepth 20000 in
theorem e_Model_findPart_6 (x1 : Int32) (x2 : Int64) (x4 : Int32) (M : mMI) (J : mMJ) : k_Model_findPart_6 x1 x2 x4 M J = (if ((1 <<< ((M 46 7) &&& 31)) : Int32) ≤ x4 then (rI x1 M J) else (mBI (k_Model_bits x4 M J) (fun v1 M1 J1 => (if ¬ ((v1 * 2) : Int32) = (M1 46 7) then (k_Model_findPart_6 x1 x2 (x4 + 2) M1 J1) else (mBJ (k_Model_partBy x4 M1 J1) (fun v2 M2 J2 => (if (x1 : Int32) = 0 then (k_Model_findPart_6 x4 v2 (x4 + 2) M2 J2) else (if ((lg_cmp v2 x2) : Int32) ≤ 0 then (k_Model_findPart_6 x1 x2 (x4 + 2) M2 J2) else (k_Model_findPart_6 x4 v2 (x4 + 2) M2 J2))))))))) := (mDen_eq PG 300 (163, 6, [some (.ref 46), some (.int x1), some (.long x2), none, some (.int x4), none, none], [], SH, M, J, 0, 0)).symm.trans rfl
set_option maxRecDepth 20000 in
theorem e_Model_noHalves  (M : mMI) (J : mMJ) : k_Model_noHalves M J = (if ((M 46 7) : Int32) = 4 then (rZ 0 M J) else (if ((M 46 7) : Int32) = 6 then (rZ 0 M J) else (rZ 1 M J))) := (mDen_eq PG 300 (164, 0, [some (.ref 46)], [], SH, M, J, 0, 0)).symm.trans rfl
set_option maxRecDepth 20000 in
theorem e_Model_part  (M : mMI) (J : mMJ) : k_Model_part M J = (mBI (k_Model_noHalves (mUp M 46 0 0) J) (fun v1 M1 J1 => (if (v1 : Int32) = 0 then (mBI (k_Model_findPart M1 J1) (fun v2 M2 J2 => (rI v2 M2 J2))) else (rI (-3) M1 J1)))) := (mDen_eq PG 300 (165, 0, [some (.ref 46)], [], SH, M, J, 0, 0)).symm.trans rfl
set_option maxRecDepth 20000 in
theorem e_Model_parted  (M : mMI) (J : mMJ) : k_Model_parted M J = (mBI (k_Model_noHalves (mUp M 46 0 0) J) (fun v1 M1 J1 => (if (v1 : Int32) = 0 then (mBI (k_Model_findPart M1 J1) (fun v2 M2 J2 => (mBJ (k_Model_partBy v2 M2 J2) (fun v3 M3 J3 => (rJ (1000000000 + v3) M3 J3))))) else (rJ (-3) M1 J1)))) := (mDen_eq PG 300 (166, 0, [some (.ref 46)], [], SH, M, J, 0, 0)).symm.trans rfl
set_option maxRecDepth 20000 in
theorem e_Model_gainBy (x1 : Int32) (x2 : Int32) (x3 : Int32) (M : mMI) (J : mMJ) : k_Model_gainBy x1 x2 x3 M J = (k_Model_gainBy_2 x1 x2 x3 0 M J) := (mDen_eq PG 300 (167, 0, [some (.ref 46), some (.int x1), some (.int x2), some (.int x3), none], [], SH, M, J, 0, 0)).symm.trans rfl
set_option maxRecDepth 20000 in
theorem e_Model_gainBy_2 (x1 : Int32) (x2 : Int32) (x3 : Int32) (x4 : Int32) (M : mMI) (J : mMJ) : k_Model_gainBy_2 x1 x2 x3 x4 M J = (if ((M 46 23) : Int32) ≤ x4 then (if mIn x1 6 then (mBR (k_Model_layFines x2 (mUp M 68 x1.toNatClampNeg x3) J) 0 (fun M1 J1 => (mBJ (k_Model_gets x1 x2 M1 J1) (fun v2 M2 J2 => (rJ v2 M2 J2))))) else none) else (if mIn ((6 * x2) + x4) 240 then (if mIn x4 6 then (k_Model_gainBy_2 x1 x2 x3 (x4 + 1) (mUp M 68 x4.toNatClampNeg (M 64 ((6 * x2) + x4).toNatClampNeg)) J) else none) else none)) := (mDen_eq PG 300 (167, 2, [some (.ref 46), some (.int x1), some (.int x2), some (.int x3), some (.int x4)], [], SH, M, J, 0, 0)).symm.trans rfl
set_option maxRecDepth 20000 in
theorem e_Model_replyOf (x1 : Int32) (x2 : Int32) (M : mMI) (J : mMJ) : k_Model_replyOf x1 x2 M J = (mBJ (k_Model_gainBy x1 x2 0 M J) (fun v1 M1 J1 => (k_Model_replyOf_10 x1 x2 0 v1 1 M1 J1))) := (mDen_eq PG 300 (168, 0, [some (.ref 46), some (.int x1), some (.int x2), none, none, none, none, none, none], [], SH, M, J, 0, 0)).symm.trans rfl
set_option maxRecDepth 20000 in
theorem e_Model_replyOf_10 (x1 : Int32) (x2 : Int32) (x3 : Int32) (x4 : Int64) (x6 : Int32) (M : mMI) (J : mMJ) : k_Model_replyOf_10 x1 x2 x3 x4 x6 M J = (if mIn 0 4 then (if ((M 48 (0 : Int32).toNatClampNeg) : Int32) < x6 then (rI x3 M J) else (mBJ (k_Model_gainBy x1 x2 x6 M J) (fun v2 M2 J2 => (if ((lg_cmp v2 x4) : Int32) ≤ 0 then (k_Model_replyOf_10 x1 x2 x3 x4 (x6 + 1) M2 J2) else (k_Model_replyOf_10 x1 x2 x6 v2 (x6 + 1) M2 J2))))) else none) := (mDen_eq PG 300 (168, 10, [some (.ref 46), some (.int x1), some (.int x2), some (.int x3), some (.long x4), none, some (.int x6), none, none], [], SH, M, J, 0, 0)).symm.trans rfl
set_option maxRecDepth 20000 in
theorem e_Model_reply (x1 : Int32) (x2 : Int32) (M : mMI) (J : mMJ) : k_Model_reply x1 x2 M J = (mBI (k_Model_noPerson x1 (mUp M 46 0 0) J) (fun v1 M1 J1 => (if ¬ (v1 : Int32) = 0 then (rI (-1) M1 J1) else (mBI (k_Model_noRound x2 M1 J1) (fun v2 M2 J2 => (if (v2 : Int32) = 0 then (mBR (k_Model_runAll M2 J2) 0 (fun M3 J3 => (mBI (k_Model_isIn x1 x2 M3 J3) (fun v4 M4 J4 => (if (v4 : Int32) = 0 then (rI (-3) M4 J4) else (mBI (k_Model_replyOf x1 x2 M4 J4) (fun v5 M5 J5 => (rI v5 M5 J5)))))))) else (rI (-1) M2 J2))))))) := (mDen_eq PG 300 (169, 0, [some (.ref 46), some (.int x1), some (.int x2)], [], SH, M, J, 0, 0)).symm.trans rfl
set_option maxRecDepth 20000 in
theorem e_Model_gain (x1 : Int32) (x2 : Int32) (x3 : Int32) (M : mMI) (J : mMJ) : k_Model_gain x1 x2 x3 M J = (mBI (k_Model_noPerson x1 (mUp M 46 0 0) J) (fun v1 M1 J1 => (if ¬ (v1 : Int32) = 0 then (rJ (-1) M1 J1) else (mBI (k_Model_noRound x2 M1 J1) (fun v2 M2 J2 => (if (v2 : Int32) = 0 then (if mIn 0 4 then (mBI (k_Model_in x3.toInt64 0 ((M2 48 (0 : Int32).toNatClampNeg).toInt64) M2 J2) (fun v3 M3 J3 => (if ¬ (v3 : Int32) = 0 then (mBR (k_Model_runAll M3 J3) 0 (fun M4 J4 => (mBI (k_Model_isIn x1 x2 M4 J4) (fun v5 M5 J5 => (if (v5 : Int32) = 0 then (rJ (-3) M5 J5) else (mBJ (k_Model_gainBy x1 x2 x3 M5 J5) (fun v6 M6 J6 => (rJ (1000000000 + v6) M6 J6)))))))) else (rJ (-2) M3 J3)))) else none) else (rJ (-1) M2 J2))))))) := (mDen_eq PG 300 (170, 0, [some (.ref 46), some (.int x1), some (.int x2), some (.int x3)], [], SH, M, J, 0, 0)).symm.trans rfl
set_option maxRecDepth 20000 in
theorem e_Model_rest (x1 : Int32) (M : mMI) (J : mMJ) : k_Model_rest x1 M J = (mBI (k_Model_noRound x1 (mUp M 46 0 0) J) (fun v1 M1 J1 => (if (v1 : Int32) = 0 then (mBR (k_Model_runAll M1 J1) 0 (fun M2 J2 => (k_Model_rest_14 x1 1 0 M2 J2))) else (rI (-1) M1 J1)))) := (mDen_eq PG 300 (171, 0, [some (.ref 46), some (.int x1), none, none], [], SH, M, J, 0, 0)).symm.trans rfl
set_option maxRecDepth 20000 in
theorem e_Model_rest_14 (x1 : Int32) (x2 : Int32) (x3 : Int32) (M : mMI) (J : mMJ) : k_Model_rest_14 x1 x2 x3 M J = (if ((M 46 7) : Int32) ≤ x3 then (if (x2 : Int32) = 0 then (rI 0 M J) else (rI 1 M J)) else (mBI (k_Model_isIn x3 x1 M J) (fun v3 M3 J3 => (if (v3 : Int32) = 0 then (k_Model_rest_14 x1 x2 (x3 + 1) M3 J3) else (if (x2 : Int32) = 0 then (k_Model_rest_14 x1 0 (x3 + 1) M3 J3) else (if mIn ((6 * x1) + x3) 240 then (mBJ (k_Model_gainBy x3 x1 (M3 64 ((6 * x1) + x3).toNatClampNeg) M3 J3) (fun v4 M4 J4 => (mBI (k_Model_replyOf x3 x1 M4 J4) (fun v5 M5 J5 => (mBJ (k_Model_gainBy x3 x1 v5 M5 J5) (fun v6 M6 J6 => (if ((lg_cmp v4 v6) : Int32) < 0 then (k_Model_rest_14 x1 0 (x3 + 1) M6 J6) else (k_Model_rest_14 x1 1 (x3 + 1) M6 J6)))))))) else none)))))) := (mDen_eq PG 300 (171, 14, [some (.ref 46), some (.int x1), some (.int x2), some (.int x3)], [], SH, M, J, 0, 0)).symm.trans rfl
set_option maxRecDepth 20000 in
theorem e_Model_noPlace (x0 : Int32) (x1 : Int32) (M : mMI) (J : mMJ) : k_Model_noPlace x0 x1 M J = (mBI (k_Model_in x0.toInt64 0 5 M J) (fun v1 M1 J1 => (if (v1 : Int32) = 0 then (rZ 1 M1 J1) else (mBI (k_Model_in x1.toInt64 0 7 M1 J1) (fun v2 M2 J2 => (if ¬ (v2 : Int32) = 0 then (rZ 0 M2 J2) else (rZ 1 M2 J2))))))) := (mDen_eq PG 300 (172, 0, [some (.int x0), some (.int x1)], [], SH, M, J, 0, 0)).symm.trans rfl
set_option maxRecDepth 20000 in
theorem e_Model_note (x1 : Int32) (x2 : Int32) (x3 : Int32) (M : mMI) (J : mMJ) : k_Model_note x1 x2 x3 M J = (mBI (k_Model_noPlace x1 x2 (mUp M 46 0 0) J) (fun v1 M1 J1 => (if (v1 : Int32) = 0 then (mBI (k_Model_in x3.toInt64 0 20 M1 J1) (fun v2 M2 J2 => (if ¬ (v2 : Int32) = 0 then (if mIn ((8 * x1) + x2) 48 then (if mIn ((8 * x1) + x2) 48 then (rI (M2 62 ((8 * x1) + x2).toNatClampNeg) (mUp M2 62 ((8 * x1) + x2).toNatClampNeg x3) J2) else none) else none) else (if (x3 : Int32) = (-9) then (if mIn ((8 * x1) + x2) 48 then (if mIn ((8 * x1) + x2) 48 then (rI (M2 62 ((8 * x1) + x2).toNatClampNeg) (mUp M2 62 ((8 * x1) + x2).toNatClampNeg x3) J2) else none) else none) else (rI (-2) M2 J2))))) else (rI (-1) M1 J1)))) := (mDen_eq PG 300 (173, 0, [some (.ref 46), some (.int x1), some (.int x2), some (.int x3), none], [], SH, M, J, 0, 0)).symm.trans rfl
set_option maxRecDepth 20000 in
theorem e_Model_noSort (x0 : Int32) (M : mMI) (J : mMJ) : k_Model_noSort x0 M J = (if (x0 : Int32) = 0 then (rZ 0 M J) else (mBI (k_Model_in x0.toInt64 100 120 M J) (fun v1 M1 J1 => (if ¬ (v1 : Int32) = 0 then (rZ 0 M1 J1) else (mBI (k_Model_in x0.toInt64 200 209 M1 J1) (fun v2 M2 J2 => (if ¬ (v2 : Int32) = 0 then (rZ 0 M2 J2) else (mBI (k_Model_in x0.toInt64 300 309 M2 J2) (fun v3 M3 J3 => (if ¬ (v3 : Int32) = 0 then (rZ 0 M3 J3) else (rZ 1 M3 J3))))))))))) := (mDen_eq PG 300 (174, 0, [some (.int x0)], [], SH, M, J, 0, 0)).symm.trans rfl
set_option maxRecDepth 20000 in
theorem e_Model_wouldBe (x1 : Int32) (x2 : Int32) (x3 : Int32) (M : mMI) (J : mMJ) : k_Model_wouldBe x1 x2 x3 M J = (if (200 : Int32) ≤ x1 then (if ¬ (x3 : Int32) = 0 then (k_Model_wouldBe_21 x1 x2 x3 0 0 0 M J) else (rI (-9) M J)) else (if ¬ (x1 : Int32) = 0 then (rI (x1 - 100) M J) else (rI 0 M J))) := (mDen_eq PG 300 (175, 0, [some (.ref 46), some (.int x1), some (.int x2), some (.int x3), none, none, none, none], [], SH, M, J, 0, 0)).symm.trans rfl
set_option maxRecDepth 20000 in
theorem e_Model_wouldBe_21 (x1 : Int32) (x2 : Int32) (x3 : Int32) (x4 : Int32) (x5 : Int32) (x6 : Int32) (M : mMI) (J : mMJ) : k_Model_wouldBe_21 x1 x2 x3 x4 x5 x6 M J = (if (6 : Int32) ≤ x6 then (if ¬ (x5 : Int32) = 0 then (if ¬ (x5 : Int32) = 0 then (if ¬ (100 : Int32) = 0 then (if (0 : Int32) ≤ ((x4 / x5) - (x1 - x1 / 100 * 100)) then (rI ((x4 / x5) - (x1 - x1 / 100 * 100)) M J) else (rI 0 M J)) else none) else none) else (rI (-9) M J)) else (if mIn (((8 * x6) + x3) - 1) 48 then (if ((M 62 (((8 * x6) + x3) - 1).toNatClampNeg) : Int32) = (-9) then (k_Model_wouldBe_56 x1 x2 x3 x4 x5 x6 M J) else (if (300 : Int32) ≤ x1 then (k_Model_wouldBe_44 x1 x2 x3 x4 x5 x6 (M 62 (((8 * x6) + x3) - 1).toNatClampNeg) 0 M J) else (k_Model_wouldBe_44 x1 x2 x3 x4 x5 x6 (M 62 (((8 * x6) + x3) - 1).toNatClampNeg) 1 M J))) else none)) := (mDen_eq PG 300 (175, 21, [some (.ref 46), some (.int x1), some (.int x2), some (.int x3), some (.int x4), some (.int x5), some (.int x6), none], [], SH, M, J, 0, 0)).symm.trans rfl
set_option maxRecDepth 20000 in
theorem e_Model_wouldBe_56 (x1 : Int32) (x2 : Int32) (x3 : Int32) (x4 : Int32) (x5 : Int32) (x6 : Int32) (M : mMI) (J : mMJ) : k_Model_wouldBe_56 x1 x2 x3 x4 x5 x6 M J = (k_Model_wouldBe_21 x1 x2 x3 x4 x5 (x6 + 1) M J) := (mDen_eq PG 300 (175, 56, [some (.ref 46), some (.int x1), some (.int x2), some (.int x3), some (.int x4), some (.int x5), some (.int x6), none], [], SH, M, J, 0, 0)).symm.trans rfl
set_option maxRecDepth 20000 in
theorem e_Model_wouldBe_44 (x1 : Int32) (x2 : Int32) (x3 : Int32) (x4 : Int32) (x5 : Int32) (x6 : Int32) (x7 : Int32) (y0 : Int32) (M : mMI) (J : mMJ) : k_Model_wouldBe_44 x1 x2 x3 x4 x5 x6 x7 y0 M J = (if (x6 : Int32) = x2 then (k_Model_wouldBe_50 x1 x2 x3 x4 x5 x6 x7 y0 0 M J) else (k_Model_wouldBe_50 x1 x2 x3 x4 x5 x6 x7 y0 1 M J)) := (mDen_eq PG 300 (175, 44, [some (.ref 46), some (.int x1), some (.int x2), some (.int x3), some (.int x4), some (.int x5), some (.int x6), some (.int x7)], [(.int y0)], SH, M, J, 0, 0)).symm.trans rfl
set_option maxRecDepth 20000 in
theorem e_Model_wouldBe_50 (x1 : Int32) (x2 : Int32) (x3 : Int32) (x4 : Int32) (x5 : Int32) (x6 : Int32) (x7 : Int32) (y0 : Int32) (y1 : Int32) (M : mMI) (J : mMJ) : k_Model_wouldBe_50 x1 x2 x3 x4 x5 x6 x7 y0 y1 M J = (if ¬ (y0 : Int32) = y1 then (k_Model_wouldBe_56 x1 x2 x3 x4 x5 x6 M J) else (k_Model_wouldBe_56 x1 x2 x3 (x4 + x7) (x5 + 1) x6 M J)) := (mDen_eq PG 300 (175, 50, [some (.ref 46), some (.int x1), some (.int x2), some (.int x3), some (.int x4), some (.int x5), some (.int x6), some (.int x7)], [(.int y1), (.int y0)], SH, M, J, 0, 0)).symm.trans rfl
set_option maxRecDepth 20000 in
theorem e_Model_would (x1 : Int32) (x2 : Int32) (x3 : Int32) (M : mMI) (J : mMJ) : k_Model_would x1 x2 x3 M J = (mBI (k_Model_noPlace x2 x3 (mUp M 46 0 0) J) (fun v1 M1 J1 => (if (v1 : Int32) = 0 then (mBI (k_Model_noSort x1 M1 J1) (fun v2 M2 J2 => (if (v2 : Int32) = 0 then (mBI (k_Model_wouldBe x1 x2 x3 M2 J2) (fun v3 M3 J3 => (rI v3 M3 J3))) else (rI (-2) M2 J2)))) else (rI (-1) M1 J1)))) := (mDen_eq PG 300 (176, 0, [some (.ref 46), some (.int x1), some (.int x2), some (.int x3)], [], SH, M, J, 0, 0)).symm.trans rfl
set_option maxRecDepth 20000 in
theorem e_Model_slipsOf (x1 : Int32) (x2 : Int32) (M : mMI) (J : mMJ) : k_Model_slipsOf x1 x2 M J = (k_Model_slipsOf_4 x1 x2 0 0 M J) := (mDen_eq PG 300 (177, 0, [some (.ref 46), some (.int x1), some (.int x2), none, none, none, none], [], SH, M, J, 0, 0)).symm.trans rfl
set_option maxRecDepth 20000 in
theorem e_Model_slipsOf_4 (x1 : Int32) (x2 : Int32) (x3 : Int32) (x4 : Int32) (M : mMI) (J : mMJ) : k_Model_slipsOf_4 x1 x2 x3 x4 M J = (if (8 : Int32) ≤ x4 then (rI x3 M J) else (if mIn ((8 * x2) + x4) 48 then (mBI (k_Model_wouldBe x1 x2 x4 M J) (fun v1 M1 J1 => (if ((M 62 ((8 * x2) + x4).toNatClampNeg) : Int32) = (-9) then (k_Model_slipsOf_4 x1 x2 (x3 + 0) (x4 + 1) M1 J1) else (if (v1 : Int32) = (-9) then (k_Model_slipsOf_4 x1 x2 (x3 + 0) (x4 + 1) M1 J1) else (if ((M 62 ((8 * x2) + x4).toNatClampNeg) : Int32) = v1 then (k_Model_slipsOf_4 x1 x2 (x3 + 0) (x4 + 1) M1 J1) else (k_Model_slipsOf_4 x1 x2 (x3 + 1) (x4 + 1) M1 J1)))))) else none)) := (mDen_eq PG 300 (177, 4, [some (.ref 46), some (.int x1), some (.int x2), some (.int x3), some (.int x4), none, none], [], SH, M, J, 0, 0)).symm.trans rfl
set_option maxRecDepth 20000 in
theorem e_Model_slips (x1 : Int32) (x2 : Int32) (M : mMI) (J : mMJ) : k_Model_slips x1 x2 M J = (mBI (k_Model_in x2.toInt64 0 5 (mUp M 46 0 0) J) (fun v1 M1 J1 => (if ¬ (v1 : Int32) = 0 then (mBI (k_Model_noSort x1 M1 J1) (fun v2 M2 J2 => (if (v2 : Int32) = 0 then (mBI (k_Model_slipsOf x1 x2 M2 J2) (fun v3 M3 J3 => (rI v3 M3 J3))) else (rI (-2) M2 J2)))) else (rI (-1) M1 J1)))) := (mDen_eq PG 300 (178, 0, [some (.ref 46), some (.int x1), some (.int x2)], [], SH, M, J, 0, 0)).symm.trans rfl
set_option maxRecDepth 20000 in
theorem e_Model_sort (x1 : Int32) (M : mMI) (J : mMJ) : k_Model_sort x1 M J = (mBI (k_Model_in x1.toInt64 0 5 (mUp M 46 0 0) J) (fun v1 M1 J1 => (if ¬ (v1 : Int32) = 0 then (k_Model_sort_15 x1 0 100 M1 J1) else (rI (-1) M1 J1)))) := (mDen_eq PG 300 (179, 0, [some (.ref 46), some (.int x1), none, none], [], SH, M, J, 0, 0)).symm.trans rfl
set_option maxRecDepth 20000 in
theorem e_Model_sort_15 (x1 : Int32) (x2 : Int32) (x3 : Int32) (M : mMI) (J : mMJ) : k_Model_sort_15 x1 x2 x3 M J = (if (310 : Int32) ≤ x3 then (rI x2 M J) else (mBI (k_Model_noSort x3 M J) (fun v2 M2 J2 => (if ¬ (v2 : Int32) = 0 then (k_Model_sort_15 x1 x2 (x3 + 1) M2 J2) else (mBI (k_Model_slipsOf x3 x1 M2 J2) (fun v3 M3 J3 => (mBI (k_Model_slipsOf x2 x1 M3 J3) (fun v4 M4 J4 => (if (v4 : Int32) ≤ v3 then (k_Model_sort_15 x1 x2 (x3 + 1) M4 J4) else (k_Model_sort_15 x1 x3 (x3 + 1) M4 J4)))))))))) := (mDen_eq PG 300 (179, 15, [some (.ref 46), some (.int x1), some (.int x2), some (.int x3)], [], SH, M, J, 0, 0)).symm.trans rfl
set_option maxRecDepth 20000 in
theorem e_Model_sorts (x1 : Int32) (x2 : Int32) (M : mMI) (J : mMJ) : k_Model_sorts x1 x2 M J = (mBI (k_Model_in x1.toInt64 0 5 (mUp M 46 0 0) J) (fun v1 M1 J1 => (if ¬ (v1 : Int32) = 0 then (mBI (k_Model_in x2.toInt64 0 8 M1 J1) (fun v2 M2 J2 => (if ¬ (v2 : Int32) = 0 then (k_Model_sorts_23 x1 x2 0 0 M2 J2) else (rI (-2) M2 J2)))) else (rI (-1) M1 J1)))) := (mDen_eq PG 300 (180, 0, [some (.ref 46), some (.int x1), some (.int x2), none, none], [], SH, M, J, 0, 0)).symm.trans rfl
set_option maxRecDepth 20000 in
theorem e_Model_sorts_23 (x1 : Int32) (x2 : Int32) (x3 : Int32) (x4 : Int32) (M : mMI) (J : mMJ) : k_Model_sorts_23 x1 x2 x3 x4 M J = (if (310 : Int32) ≤ x4 then (rI x3 M J) else (mBI (k_Model_noSort x4 M J) (fun v3 M3 J3 => (if ¬ (v3 : Int32) = 0 then (k_Model_sorts_23 x1 x2 (x3 + 0) (x4 + 1) M3 J3) else (mBI (k_Model_slipsOf x4 x1 M3 J3) (fun v4 M4 J4 => (if (x2 : Int32) < v4 then (k_Model_sorts_23 x1 x2 (x3 + 0) (x4 + 1) M4 J4) else (k_Model_sorts_23 x1 x2 (x3 + 1) (x4 + 1) M4 J4)))))))) := (mDen_eq PG 300 (180, 23, [some (.ref 46), some (.int x1), some (.int x2), some (.int x3), some (.int x4)], [], SH, M, J, 0, 0)).symm.trans rfl
set_option maxRecDepth 20000 in
theorem e_Model_copy  (M : mMI) (J : mMJ) : k_Model_copy M J = (mBR (k_Model_runAll (mUp M 46 0 0) J) 0 (fun M1 J1 => (k_Model_copy_9 0 0 M1 J1))) := (mDen_eq PG 300 (181, 0, [some (.ref 46), none, none, none, none], [], SH, M, J, 0, 0)).symm.trans rfl
set_option maxRecDepth 20000 in
theorem e_Model_copy_9 (x1 : Int32) (x2 : Int32) (M : mMI) (J : mMJ) : k_Model_copy_9 x1 x2 M J = (if (6 : Int32) ≤ x2 then (rI x1 M J) else (k_Model_copy_14 x1 x2 0 M J)) := (mDen_eq PG 300 (181, 9, [some (.ref 46), some (.int x1), some (.int x2), none, none], [], SH, M, J, 0, 0)).symm.trans rfl
set_option maxRecDepth 20000 in
theorem e_Model_copy_14 (x1 : Int32) (x2 : Int32) (x3 : Int32) (M : mMI) (J : mMJ) : k_Model_copy_14 x1 x2 x3 M J = (if (8 : Int32) ≤ x3 then (k_Model_copy_9 x1 (x2 + 1) M J) else (if ((M 46 7) : Int32) ≤ x2 then (k_Model_copy_29 x1 x2 x3 0 M J) else (mBI (k_Model_isIn x2 x3 M J) (fun v2 M2 J2 => (if (v2 : Int32) = 0 then (k_Model_copy_29 x1 x2 x3 0 M2 J2) else (k_Model_copy_29 x1 x2 x3 1 M2 J2)))))) := (mDen_eq PG 300 (181, 14, [some (.ref 46), some (.int x1), some (.int x2), some (.int x3), none], [], SH, M, J, 0, 0)).symm.trans rfl
set_option maxRecDepth 20000 in
theorem e_Model_copy_29 (x1 : Int32) (x2 : Int32) (x3 : Int32) (y0 : Int32) (M : mMI) (J : mMJ) : k_Model_copy_29 x1 x2 x3 y0 M J = (if (y0 : Int32) = 0 then (k_Model_copy_49 x1 x2 x3 y0 ((8 * x2) + x3) (-9) M J) else (if mIn ((6 * x3) + x2) 240 then (k_Model_copy_49 x1 x2 x3 y0 ((8 * x2) + x3) (M 64 ((6 * x3) + x2).toNatClampNeg) M J) else none)) := (mDen_eq PG 300 (181, 29, [some (.ref 46), some (.int x1), some (.int x2), some (.int x3), none], [(.int y0)], SH, M, J, 0, 0)).symm.trans rfl
set_option maxRecDepth 20000 in
theorem e_Model_copy_49 (x1 : Int32) (x2 : Int32) (x3 : Int32) (x4 : Int32) (y1 : Int32) (y2 : Int32) (M : mMI) (J : mMJ) : k_Model_copy_49 x1 x2 x3 x4 y1 y2 M J = (if mIn y1 48 then (if (x4 : Int32) = 0 then (k_Model_copy_56 x2 x3 x1 0 (mUp M 62 y1.toNatClampNeg y2) J) else (k_Model_copy_56 x2 x3 x1 1 (mUp M 62 y1.toNatClampNeg y2) J)) else none) := (mDen_eq PG 300 (181, 49, [some (.ref 46), some (.int x1), some (.int x2), some (.int x3), some (.int x4)], [(.int y2), (.int y1), (.ref 62)], SH, M, J, 0, 0)).symm.trans rfl
set_option maxRecDepth 20000 in
theorem e_Model_copy_56 (x2 : Int32) (x3 : Int32) (y0 : Int32) (y1 : Int32) (M : mMI) (J : mMJ) : k_Model_copy_56 x2 x3 y0 y1 M J = (k_Model_copy_14 (y0 + y1) x2 (x3 + 1) M J) := (mDen_eq PG 300 (181, 56, [some (.ref 46), none, some (.int x2), some (.int x3), none], [(.int y1), (.int y0)], SH, M, J, 0, 0)).symm.trans rfl
set_option maxRecDepth 20000 in
theorem e_Model_toldMany  (M : mMI) (J : mMJ) : k_Model_toldMany M J = (k_Model_toldMany_4 0 0 M J) := (mDen_eq PG 300 (182, 0, [some (.ref 46), none, none], [], SH, M, J, 0, 0)).symm.trans rfl
set_option maxRecDepth 20000 in
theorem e_Model_toldMany_4 (x1 : Int32) (x2 : Int32) (M : mMI) (J : mMJ) : k_Model_toldMany_4 x1 x2 M J = (if (240 : Int32) ≤ x2 then (rI x1 M J) else (if mIn x2 240 then (if ¬ ((M 56 x2.toNatClampNeg) : Int32) = (-9) then (k_Model_toldMany_4 (x1 + 1) (x2 + 1) M J) else (k_Model_toldMany_4 (x1 + 0) (x2 + 1) M J)) else none)) := (mDen_eq PG 300 (182, 4, [some (.ref 46), some (.int x1), some (.int x2)], [], SH, M, J, 0, 0)).symm.trans rfl
set_option maxRecDepth 20000 in
theorem e_Model_keep (x1 : Int32) (M : mMI) (J : mMJ) : k_Model_keep x1 M J = (mBI (k_Model_in x1.toInt64 0 1 (mUp M 46 0 0) J) (fun v1 M1 J1 => (if ¬ (v1 : Int32) = 0 then (if mIn x1 2 then (k_Model_keep_17 x1 0 (mUp M1 61 x1.toNatClampNeg 1) J1) else none) else (rI (-1) M1 J1)))) := (mDen_eq PG 300 (183, 0, [some (.ref 46), some (.int x1), none], [], SH, M, J, 0, 0)).symm.trans rfl
set_option maxRecDepth 20000 in
theorem e_Model_keep_17 (x1 : Int32) (x2 : Int32) (M : mMI) (J : mMJ) : k_Model_keep_17 x1 x2 M J = (if (240 : Int32) ≤ x2 then (k_Model_keep_36 x1 0 M J) else (if mIn x2 240 then (if mIn ((240 * x1) + x2) 480 then (k_Model_keep_17 x1 (x2 + 1) (mUp M 58 ((240 * x1) + x2).toNatClampNeg (M 56 x2.toNatClampNeg)) J) else none) else none)) := (mDen_eq PG 300 (183, 17, [some (.ref 46), some (.int x1), some (.int x2)], [], SH, M, J, 0, 0)).symm.trans rfl
set_option maxRecDepth 20000 in
theorem e_Model_keep_36 (x1 : Int32) (x2 : Int32) (M : mMI) (J : mMJ) : k_Model_keep_36 x1 x2 M J = (if (6 : Int32) ≤ x2 then (k_Model_keep_55 x1 0 M J) else (if mIn x2 6 then (if mIn ((6 * x1) + x2) 12 then (k_Model_keep_36 x1 (x2 + 1) (mUp M 59 ((6 * x1) + x2).toNatClampNeg (M 57 x2.toNatClampNeg)) J) else none) else none)) := (mDen_eq PG 300 (183, 36, [some (.ref 46), some (.int x1), some (.int x2)], [], SH, M, J, 0, 0)).symm.trans rfl
set_option maxRecDepth 20000 in
theorem e_Model_keep_55 (x1 : Int32) (x2 : Int32) (M : mMI) (J : mMJ) : k_Model_keep_55 x1 x2 M J = (if (48 : Int32) ≤ x2 then (mBI (k_Model_toldMany M J) (fun v2 M2 J2 => (rI v2 M2 J2))) else (if mIn x2 48 then (if mIn ((48 * x1) + x2) 96 then (k_Model_keep_55 x1 (x2 + 1) (mUp M 60 ((48 * x1) + x2).toNatClampNeg (M 62 x2.toNatClampNeg)) J) else none) else none)) := (mDen_eq PG 300 (183, 55, [some (.ref 46), some (.int x1), some (.int x2)], [], SH, M, J, 0, 0)).symm.trans rfl
set_option maxRecDepth 20000 in
theorem e_Model_again (x1 : Int32) (M : mMI) (J : mMJ) : k_Model_again x1 M J = (mBI (k_Model_in x1.toInt64 0 1 (mUp M 46 0 0) J) (fun v1 M1 J1 => (if ¬ (v1 : Int32) = 0 then (if mIn x1 2 then (if ¬ ((M1 61 x1.toNatClampNeg) : Int32) = 0 then (k_Model_again_20 x1 0 M1 J1) else (rI (-3) M1 J1)) else none) else (rI (-1) M1 J1)))) := (mDen_eq PG 300 (184, 0, [some (.ref 46), some (.int x1), none], [], SH, M, J, 0, 0)).symm.trans rfl
set_option maxRecDepth 20000 in
theorem e_Model_again_20 (x1 : Int32) (x2 : Int32) (M : mMI) (J : mMJ) : k_Model_again_20 x1 x2 M J = (if (240 : Int32) ≤ x2 then (k_Model_again_39 x1 0 M J) else (if mIn ((240 * x1) + x2) 480 then (if mIn x2 240 then (k_Model_again_20 x1 (x2 + 1) (mUp M 56 x2.toNatClampNeg (M 58 ((240 * x1) + x2).toNatClampNeg)) J) else none) else none)) := (mDen_eq PG 300 (184, 20, [some (.ref 46), some (.int x1), some (.int x2)], [], SH, M, J, 0, 0)).symm.trans rfl
set_option maxRecDepth 20000 in
theorem e_Model_again_39 (x1 : Int32) (x2 : Int32) (M : mMI) (J : mMJ) : k_Model_again_39 x1 x2 M J = (if (6 : Int32) ≤ x2 then (k_Model_again_58 x1 0 M J) else (if mIn ((6 * x1) + x2) 12 then (if mIn x2 6 then (k_Model_again_39 x1 (x2 + 1) (mUp M 57 x2.toNatClampNeg (M 59 ((6 * x1) + x2).toNatClampNeg)) J) else none) else none)) := (mDen_eq PG 300 (184, 39, [some (.ref 46), some (.int x1), some (.int x2)], [], SH, M, J, 0, 0)).symm.trans rfl
set_option maxRecDepth 20000 in
theorem e_Model_again_58 (x1 : Int32) (x2 : Int32) (M : mMI) (J : mMJ) : k_Model_again_58 x1 x2 M J = (if (48 : Int32) ≤ x2 then (mBI (k_Model_toldMany M J) (fun v2 M2 J2 => (rI v2 M2 J2))) else (if mIn ((48 * x1) + x2) 96 then (if mIn x2 48 then (k_Model_again_58 x1 (x2 + 1) (mUp M 62 x2.toNatClampNeg (M 60 ((48 * x1) + x2).toNatClampNeg)) J) else none) else none)) := (mDen_eq PG 300 (184, 58, [some (.ref 46), some (.int x1), some (.int x2)], [], SH, M, J, 0, 0)).symm.trans rfl
set_option maxRecDepth 20000 in
theorem e_Model_count (x1 : Int32) (M : mMI) (J : mMJ) : k_Model_count x1 M J = (k_Model_count_7 x1 0 0 (mUp M 46 0 0) J) := (mDen_eq PG 300 (185, 0, [some (.ref 46), some (.int x1), none, none, none], [], SH, M, J, 0, 0)).symm.trans rfl
set_option maxRecDepth 20000 in
theorem e_Model_count_7 (x1 : Int32) (x2 : Int32) (x3 : Int32) (M : mMI) (J : mMJ) : k_Model_count_7 x1 x2 x3 M J = (if ((M 46 7) : Int32) ≤ x3 then (k_Model_count_29 x1 x2 0 0 M J) else (if mIn x3 6 then (if ¬ ((M 57 x3.toNatClampNeg) : Int32) = 40 then (k_Model_count_7 x1 (x2 + 1) (x3 + 1) M J) else (k_Model_count_7 x1 (x2 + 0) (x3 + 1) M J)) else none)) := (mDen_eq PG 300 (185, 7, [some (.ref 46), some (.int x1), some (.int x2), some (.int x3), none], [], SH, M, J, 0, 0)).symm.trans rfl
set_option maxRecDepth 20000 in
theorem e_Model_count_29 (x1 : Int32) (x2 : Int32) (x3 : Int32) (x4 : Int32) (M : mMI) (J : mMJ) : k_Model_count_29 x1 x2 x3 x4 M J = (if (48 : Int32) ≤ x4 then (if x1 = nI 0 then (rI (M 46 7) M J) else (if x1 = nI 1 then (mBI (k_Model_toldMany M J) (fun v1 M1 J1 => (rI v1 M1 J1))) else (if x1 = nI 2 then (rI x2 M J) else (if x1 = nI 3 then (rI x3 M J) else (if x1 = nI 4 then (rI (M 46 2) M J) else (rI (-2) M J)))))) else (if mIn x4 48 then (if ¬ ((M 62 x4.toNatClampNeg) : Int32) = (-9) then (k_Model_count_42 x1 x2 x4 x3 1 M J) else (k_Model_count_42 x1 x2 x4 x3 0 M J)) else none)) := (mDen_eq PG 300 (185, 29, [some (.ref 46), some (.int x1), some (.int x2), some (.int x3), some (.int x4)], [], SH, M, J, 0, 0)).symm.trans rfl
set_option maxRecDepth 20000 in
theorem e_Model_count_42 (x1 : Int32) (x2 : Int32) (x4 : Int32) (y0 : Int32) (y1 : Int32) (M : mMI) (J : mMJ) : k_Model_count_42 x1 x2 x4 y0 y1 M J = (k_Model_count_29 x1 x2 (y0 + y1) (x4 + 1) M J) := (mDen_eq PG 300 (185, 42, [some (.ref 46), some (.int x1), some (.int x2), none, some (.int x4)], [(.int y1), (.int y0)], SH, M, J, 0, 0)).symm.trans rfl
end
section
/-! equations of the cuts: by wip/whole/sym.py -/
set_option maxRecDepth 20000 in
theorem e_Law_law_10 (x3 : Int32) (M : mMI) (J : mMJ) : k_Law_law_10 x3 M J = (if (((M 999 0) - 4) : Int32) < x3 then (rZ 1 M J) else (if mIn x3 (M 999 0).toNatClampNeg then (if ((M 1000 x3.toNatClampNeg) &&& 63) = nI 0 then (k_Law_law_22 x3 M J) else (if ((M 1000 x3.toNatClampNeg) &&& 63) = nI 1 then (k_Law_law_73 x3 M J) else (if ((M 1000 x3.toNatClampNeg) &&& 63) = nI 2 then (k_Law_law_80 x3 M J) else (if ((M 1000 x3.toNatClampNeg) &&& 63) = nI 3 then (k_Law_law_105 x3 M J) else (if ((M 1000 x3.toNatClampNeg) &&& 63) = nI 4 then (k_Law_law_112 x3 M J) else (if ((M 1000 x3.toNatClampNeg) &&& 63) = nI 5 then (k_Law_law_119 x3 M J) else (if ((M 1000 x3.toNatClampNeg) &&& 63) = nI 6 then (k_Law_law_136 x3 M J) else (if ((M 1000 x3.toNatClampNeg) &&& 63) = nI 7 then (k_Law_law_163 x3 M J) else (if ((M 1000 x3.toNatClampNeg) &&& 63) = nI 8 then (k_Law_law_200 x3 M J) else (if ((M 1000 x3.toNatClampNeg) &&& 63) = nI 9 then (k_Law_law_227 x3 M J) else (if ((M 1000 x3.toNatClampNeg) &&& 63) = nI 10 then (k_Law_law_244 x3 M J) else (if ((M 1000 x3.toNatClampNeg) &&& 63) = nI 11 then (k_Law_law_271 x3 M J) else (if ((M 1000 x3.toNatClampNeg) &&& 63) = nI 12 then (k_Law_law_308 x3 M J) else (if ((M 1000 x3.toNatClampNeg) &&& 63) = nI 13 then (k_Law_law_325 x3 M J) else (if ((M 1000 x3.toNatClampNeg) &&& 63) = nI 14 then (k_Law_law_342 x3 M J) else (if ((M 1000 x3.toNatClampNeg) &&& 63) = nI 15 then (k_Law_law_370 x3 M J) else (if ((M 1000 x3.toNatClampNeg) &&& 63) = nI 16 then (k_Law_law_406 x3 M J) else (if ((M 1000 x3.toNatClampNeg) &&& 63) = nI 17 then (k_Law_law_433 x3 M J) else (if ((M 1000 x3.toNatClampNeg) &&& 63) = nI 18 then (k_Law_law_440 x3 M J) else (if ((M 1000 x3.toNatClampNeg) &&& 63) = nI 19 then (k_Law_law_447 x3 M J) else (if ((M 1000 x3.toNatClampNeg) &&& 63) = nI 20 then (k_Law_law_464 x3 M J) else (if ((M 1000 x3.toNatClampNeg) &&& 63) = nI 21 then (k_Law_law_491 x3 M J) else (if ((M 1000 x3.toNatClampNeg) &&& 63) = nI 22 then (k_Law_law_498 x3 M J) else (if ((M 1000 x3.toNatClampNeg) &&& 63) = nI 23 then (k_Law_law_506 x3 M J) else (if ((M 1000 x3.toNatClampNeg) &&& 63) = nI 24 then (k_Law_law_513 x3 M J) else (if ((M 1000 x3.toNatClampNeg) &&& 63) = nI 25 then (k_Law_law_531 x3 M J) else (if ((M 1000 x3.toNatClampNeg) &&& 63) = nI 26 then (k_Law_law_538 x3 M J) else (if ((M 1000 x3.toNatClampNeg) &&& 63) = nI 27 then (k_Law_law_546 x3 M J) else (if ((M 1000 x3.toNatClampNeg) &&& 63) = nI 28 then (k_Law_law_573 x3 M J) else (if ((M 1000 x3.toNatClampNeg) &&& 63) = nI 29 then (k_Law_law_611 x3 M J) else (if ((M 1000 x3.toNatClampNeg) &&& 63) = nI 30 then (k_Law_law_628 x3 M J) else (if ((M 1000 x3.toNatClampNeg) &&& 63) = nI 31 then (k_Law_law_665 x3 M J) else (if ((M 1000 x3.toNatClampNeg) &&& 63) = nI 32 then (k_Law_law_702 x3 M J) else (if ((M 1000 x3.toNatClampNeg) &&& 63) = nI 33 then (k_Law_law_729 x3 M J) else (if ((M 1000 x3.toNatClampNeg) &&& 63) = nI 34 then (k_Law_law_746 x3 M J) else (if ((M 1000 x3.toNatClampNeg) &&& 63) = nI 35 then (k_Law_law_773 x3 M J) else (if ((M 1000 x3.toNatClampNeg) &&& 63) = nI 36 then (k_Law_law_780 x3 M J) else (if ((M 1000 x3.toNatClampNeg) &&& 63) = nI 37 then (k_Law_law_797 x3 M J) else (if ((M 1000 x3.toNatClampNeg) &&& 63) = nI 38 then (k_Law_law_814 x3 M J) else (k_Law_law_831 x3 M J)))))))))))))))))))))))))))))))))))))))) else none)) := (mDen_eq PG 300 (196, 10, [some (.ref 1000), some (.ref 0), some (.ref 46), some (.int x3)], [], SH, M, J, 0, 0)).symm.trans rfl
set_option maxRecDepth 20000 in
theorem e_Law_law_831 (x3 : Int32) (M : mMI) (J : mMJ) : k_Law_law_831 x3 M J = (k_Law_law_10 (x3 + 4) M J) := (mDen_eq PG 300 (196, 831, [some (.ref 1000), some (.ref 0), some (.ref 46), some (.int x3)], [], SH, M, J, 0, 0)).symm.trans rfl
set_option maxRecDepth 20000 in
theorem e_Law_law_814 (x3 : Int32) (M : mMI) (J : mMJ) : k_Law_law_814 x3 M J = (if mIn (x3 + 1) (M 999 0).toNatClampNeg then (mBI (k_Pot_count (M 1000 (x3 + 1).toNatClampNeg) M J) (fun v1 M1 J1 => (if mIn (x3 + 1) (M1 999 0).toNatClampNeg then (mBI (k_Model_count (M1 1000 (x3 + 1).toNatClampNeg) M1 J1) (fun v2 M2 J2 => (if (v1 : Int32) = v2 then (k_Law_law_831 x3 M2 J2) else (rZ 0 M2 J2)))) else none))) else none) := (mDen_eq PG 300 (196, 814, [some (.ref 1000), some (.ref 0), some (.ref 46), some (.int x3)], [], SH, M, J, 0, 0)).symm.trans rfl
set_option maxRecDepth 20000 in
theorem e_Law_law_797 (x3 : Int32) (M : mMI) (J : mMJ) : k_Law_law_797 x3 M J = (if mIn (x3 + 1) (M 999 0).toNatClampNeg then (mBI (k_Pot_again (M 1000 (x3 + 1).toNatClampNeg) M J) (fun v3 M3 J3 => (if mIn (x3 + 1) (M3 999 0).toNatClampNeg then (mBI (k_Model_again (M3 1000 (x3 + 1).toNatClampNeg) M3 J3) (fun v4 M4 J4 => (if (v3 : Int32) = v4 then (k_Law_law_831 x3 M4 J4) else (rZ 0 M4 J4)))) else none))) else none) := (mDen_eq PG 300 (196, 797, [some (.ref 1000), some (.ref 0), some (.ref 46), some (.int x3)], [], SH, M, J, 0, 0)).symm.trans rfl
set_option maxRecDepth 20000 in
theorem e_Law_law_780 (x3 : Int32) (M : mMI) (J : mMJ) : k_Law_law_780 x3 M J = (if mIn (x3 + 1) (M 999 0).toNatClampNeg then (mBI (k_Pot_keep (M 1000 (x3 + 1).toNatClampNeg) M J) (fun v5 M5 J5 => (if mIn (x3 + 1) (M5 999 0).toNatClampNeg then (mBI (k_Model_keep (M5 1000 (x3 + 1).toNatClampNeg) M5 J5) (fun v6 M6 J6 => (if (v5 : Int32) = v6 then (k_Law_law_831 x3 M6 J6) else (rZ 0 M6 J6)))) else none))) else none) := (mDen_eq PG 300 (196, 780, [some (.ref 1000), some (.ref 0), some (.ref 46), some (.int x3)], [], SH, M, J, 0, 0)).symm.trans rfl
set_option maxRecDepth 20000 in
theorem e_Law_law_773 (x3 : Int32) (M : mMI) (J : mMJ) : k_Law_law_773 x3 M J = (mBI (k_Pot_copy M J) (fun v7 M7 J7 => (mBI (k_Model_copy M7 J7) (fun v8 M8 J8 => (if (v7 : Int32) = v8 then (k_Law_law_831 x3 M8 J8) else (rZ 0 M8 J8)))))) := (mDen_eq PG 300 (196, 773, [some (.ref 1000), some (.ref 0), some (.ref 46), some (.int x3)], [], SH, M, J, 0, 0)).symm.trans rfl
set_option maxRecDepth 20000 in
theorem e_Law_law_746 (x3 : Int32) (M : mMI) (J : mMJ) : k_Law_law_746 x3 M J = (if mIn (x3 + 1) (M 999 0).toNatClampNeg then (if mIn (x3 + 2) (M 999 0).toNatClampNeg then (mBI (k_Pot_sorts (M 1000 (x3 + 1).toNatClampNeg) (M 1000 (x3 + 2).toNatClampNeg) M J) (fun v9 M9 J9 => (if mIn (x3 + 1) (M9 999 0).toNatClampNeg then (if mIn (x3 + 2) (M9 999 0).toNatClampNeg then (mBI (k_Model_sorts (M9 1000 (x3 + 1).toNatClampNeg) (M9 1000 (x3 + 2).toNatClampNeg) M9 J9) (fun v10 M10 J10 => (if (v9 : Int32) = v10 then (k_Law_law_831 x3 M10 J10) else (rZ 0 M10 J10)))) else none) else none))) else none) else none) := (mDen_eq PG 300 (196, 746, [some (.ref 1000), some (.ref 0), some (.ref 46), some (.int x3)], [], SH, M, J, 0, 0)).symm.trans rfl
set_option maxRecDepth 20000 in
theorem e_Law_law_729 (x3 : Int32) (M : mMI) (J : mMJ) : k_Law_law_729 x3 M J = (if mIn (x3 + 1) (M 999 0).toNatClampNeg then (mBI (k_Pot_sort (M 1000 (x3 + 1).toNatClampNeg) M J) (fun v11 M11 J11 => (if mIn (x3 + 1) (M11 999 0).toNatClampNeg then (mBI (k_Model_sort (M11 1000 (x3 + 1).toNatClampNeg) M11 J11) (fun v12 M12 J12 => (if (v11 : Int32) = v12 then (k_Law_law_831 x3 M12 J12) else (rZ 0 M12 J12)))) else none))) else none) := (mDen_eq PG 300 (196, 729, [some (.ref 1000), some (.ref 0), some (.ref 46), some (.int x3)], [], SH, M, J, 0, 0)).symm.trans rfl
set_option maxRecDepth 20000 in
theorem e_Law_law_702 (x3 : Int32) (M : mMI) (J : mMJ) : k_Law_law_702 x3 M J = (if mIn (x3 + 1) (M 999 0).toNatClampNeg then (if mIn (x3 + 2) (M 999 0).toNatClampNeg then (mBI (k_Pot_slips (M 1000 (x3 + 1).toNatClampNeg) (M 1000 (x3 + 2).toNatClampNeg) M J) (fun v13 M13 J13 => (if mIn (x3 + 1) (M13 999 0).toNatClampNeg then (if mIn (x3 + 2) (M13 999 0).toNatClampNeg then (mBI (k_Model_slips (M13 1000 (x3 + 1).toNatClampNeg) (M13 1000 (x3 + 2).toNatClampNeg) M13 J13) (fun v14 M14 J14 => (if (v13 : Int32) = v14 then (k_Law_law_831 x3 M14 J14) else (rZ 0 M14 J14)))) else none) else none))) else none) else none) := (mDen_eq PG 300 (196, 702, [some (.ref 1000), some (.ref 0), some (.ref 46), some (.int x3)], [], SH, M, J, 0, 0)).symm.trans rfl
set_option maxRecDepth 20000 in
theorem e_Law_law_665 (x3 : Int32) (M : mMI) (J : mMJ) : k_Law_law_665 x3 M J = (if mIn (x3 + 1) (M 999 0).toNatClampNeg then (if mIn (x3 + 2) (M 999 0).toNatClampNeg then (if mIn (x3 + 3) (M 999 0).toNatClampNeg then (mBI (k_Pot_would (M 1000 (x3 + 1).toNatClampNeg) (M 1000 (x3 + 2).toNatClampNeg) (M 1000 (x3 + 3).toNatClampNeg) M J) (fun v15 M15 J15 => (if mIn (x3 + 1) (M15 999 0).toNatClampNeg then (if mIn (x3 + 2) (M15 999 0).toNatClampNeg then (if mIn (x3 + 3) (M15 999 0).toNatClampNeg then (mBI (k_Model_would (M15 1000 (x3 + 1).toNatClampNeg) (M15 1000 (x3 + 2).toNatClampNeg) (M15 1000 (x3 + 3).toNatClampNeg) M15 J15) (fun v16 M16 J16 => (if (v15 : Int32) = v16 then (k_Law_law_831 x3 M16 J16) else (rZ 0 M16 J16)))) else none) else none) else none))) else none) else none) else none) := (mDen_eq PG 300 (196, 665, [some (.ref 1000), some (.ref 0), some (.ref 46), some (.int x3)], [], SH, M, J, 0, 0)).symm.trans rfl
set_option maxRecDepth 20000 in
theorem e_Law_law_628 (x3 : Int32) (M : mMI) (J : mMJ) : k_Law_law_628 x3 M J = (if mIn (x3 + 1) (M 999 0).toNatClampNeg then (if mIn (x3 + 2) (M 999 0).toNatClampNeg then (if mIn (x3 + 3) (M 999 0).toNatClampNeg then (mBI (k_Pot_note (M 1000 (x3 + 1).toNatClampNeg) (M 1000 (x3 + 2).toNatClampNeg) (M 1000 (x3 + 3).toNatClampNeg) M J) (fun v17 M17 J17 => (if mIn (x3 + 1) (M17 999 0).toNatClampNeg then (if mIn (x3 + 2) (M17 999 0).toNatClampNeg then (if mIn (x3 + 3) (M17 999 0).toNatClampNeg then (mBI (k_Model_note (M17 1000 (x3 + 1).toNatClampNeg) (M17 1000 (x3 + 2).toNatClampNeg) (M17 1000 (x3 + 3).toNatClampNeg) M17 J17) (fun v18 M18 J18 => (if (v17 : Int32) = v18 then (k_Law_law_831 x3 M18 J18) else (rZ 0 M18 J18)))) else none) else none) else none))) else none) else none) else none) := (mDen_eq PG 300 (196, 628, [some (.ref 1000), some (.ref 0), some (.ref 46), some (.int x3)], [], SH, M, J, 0, 0)).symm.trans rfl
set_option maxRecDepth 20000 in
theorem e_Law_law_611 (x3 : Int32) (M : mMI) (J : mMJ) : k_Law_law_611 x3 M J = (if mIn (x3 + 1) (M 999 0).toNatClampNeg then (mBI (k_Pot_rest (M 1000 (x3 + 1).toNatClampNeg) M J) (fun v19 M19 J19 => (if mIn (x3 + 1) (M19 999 0).toNatClampNeg then (mBI (k_Model_rest (M19 1000 (x3 + 1).toNatClampNeg) M19 J19) (fun v20 M20 J20 => (if (v19 : Int32) = v20 then (k_Law_law_831 x3 M20 J20) else (rZ 0 M20 J20)))) else none))) else none) := (mDen_eq PG 300 (196, 611, [some (.ref 1000), some (.ref 0), some (.ref 46), some (.int x3)], [], SH, M, J, 0, 0)).symm.trans rfl
set_option maxRecDepth 20000 in
theorem e_Law_law_573 (x3 : Int32) (M : mMI) (J : mMJ) : k_Law_law_573 x3 M J = (if mIn (x3 + 1) (M 999 0).toNatClampNeg then (if mIn (x3 + 2) (M 999 0).toNatClampNeg then (if mIn (x3 + 3) (M 999 0).toNatClampNeg then (mBJ (k_Pot_gain (M 1000 (x3 + 1).toNatClampNeg) (M 1000 (x3 + 2).toNatClampNeg) (M 1000 (x3 + 3).toNatClampNeg) M J) (fun v21 M21 J21 => (if mIn (x3 + 1) (M21 999 0).toNatClampNeg then (if mIn (x3 + 2) (M21 999 0).toNatClampNeg then (if mIn (x3 + 3) (M21 999 0).toNatClampNeg then (mBJ (k_Model_gain (M21 1000 (x3 + 1).toNatClampNeg) (M21 1000 (x3 + 2).toNatClampNeg) (M21 1000 (x3 + 3).toNatClampNeg) M21 J21) (fun v22 M22 J22 => (if ((lg_cmp v21 v22) : Int32) = 0 then (k_Law_law_831 x3 M22 J22) else (rZ 0 M22 J22)))) else none) else none) else none))) else none) else none) else none) := (mDen_eq PG 300 (196, 573, [some (.ref 1000), some (.ref 0), some (.ref 46), some (.int x3)], [], SH, M, J, 0, 0)).symm.trans rfl
set_option maxRecDepth 20000 in
theorem e_Law_law_546 (x3 : Int32) (M : mMI) (J : mMJ) : k_Law_law_546 x3 M J = (if mIn (x3 + 1) (M 999 0).toNatClampNeg then (if mIn (x3 + 2) (M 999 0).toNatClampNeg then (mBI (k_Pot_reply (M 1000 (x3 + 1).toNatClampNeg) (M 1000 (x3 + 2).toNatClampNeg) M J) (fun v23 M23 J23 => (if mIn (x3 + 1) (M23 999 0).toNatClampNeg then (if mIn (x3 + 2) (M23 999 0).toNatClampNeg then (mBI (k_Model_reply (M23 1000 (x3 + 1).toNatClampNeg) (M23 1000 (x3 + 2).toNatClampNeg) M23 J23) (fun v24 M24 J24 => (if (v23 : Int32) = v24 then (k_Law_law_831 x3 M24 J24) else (rZ 0 M24 J24)))) else none) else none))) else none) else none) := (mDen_eq PG 300 (196, 546, [some (.ref 1000), some (.ref 0), some (.ref 46), some (.int x3)], [], SH, M, J, 0, 0)).symm.trans rfl
set_option maxRecDepth 20000 in
theorem e_Law_law_538 (x3 : Int32) (M : mMI) (J : mMJ) : k_Law_law_538 x3 M J = (mBJ (k_Pot_parted M J) (fun v25 M25 J25 => (mBJ (k_Model_parted M25 J25) (fun v26 M26 J26 => (if ((lg_cmp v25 v26) : Int32) = 0 then (k_Law_law_831 x3 M26 J26) else (rZ 0 M26 J26)))))) := (mDen_eq PG 300 (196, 538, [some (.ref 1000), some (.ref 0), some (.ref 46), some (.int x3)], [], SH, M, J, 0, 0)).symm.trans rfl
set_option maxRecDepth 20000 in
theorem e_Law_law_531 (x3 : Int32) (M : mMI) (J : mMJ) : k_Law_law_531 x3 M J = (mBI (k_Pot_part M J) (fun v27 M27 J27 => (mBI (k_Model_part M27 J27) (fun v28 M28 J28 => (if (v27 : Int32) = v28 then (k_Law_law_831 x3 M28 J28) else (rZ 0 M28 J28)))))) := (mDen_eq PG 300 (196, 531, [some (.ref 1000), some (.ref 0), some (.ref 46), some (.int x3)], [], SH, M, J, 0, 0)).symm.trans rfl
set_option maxRecDepth 20000 in
theorem e_Law_law_513 (x3 : Int32) (M : mMI) (J : mMJ) : k_Law_law_513 x3 M J = (if mIn (x3 + 1) (M 999 0).toNatClampNeg then (mBJ (k_Pot_without (M 1000 (x3 + 1).toNatClampNeg) M J) (fun v29 M29 J29 => (if mIn (x3 + 1) (M29 999 0).toNatClampNeg then (mBJ (k_Model_without (M29 1000 (x3 + 1).toNatClampNeg) M29 J29) (fun v30 M30 J30 => (if ((lg_cmp v29 v30) : Int32) = 0 then (k_Law_law_831 x3 M30 J30) else (rZ 0 M30 J30)))) else none))) else none) := (mDen_eq PG 300 (196, 513, [some (.ref 1000), some (.ref 0), some (.ref 46), some (.int x3)], [], SH, M, J, 0, 0)).symm.trans rfl
set_option maxRecDepth 20000 in
theorem e_Law_law_506 (x3 : Int32) (M : mMI) (J : mMJ) : k_Law_law_506 x3 M J = (mBI (k_Pot_whom M J) (fun v31 M31 J31 => (mBI (k_Model_whom M31 J31) (fun v32 M32 J32 => (if (v31 : Int32) = v32 then (k_Law_law_831 x3 M32 J32) else (rZ 0 M32 J32)))))) := (mDen_eq PG 300 (196, 506, [some (.ref 1000), some (.ref 0), some (.ref 46), some (.int x3)], [], SH, M, J, 0, 0)).symm.trans rfl
set_option maxRecDepth 20000 in
theorem e_Law_law_498 (x3 : Int32) (M : mMI) (J : mMJ) : k_Law_law_498 x3 M J = (mBJ (k_Pot_led M J) (fun v33 M33 J33 => (mBJ (k_Model_led M33 J33) (fun v34 M34 J34 => (if ((lg_cmp v33 v34) : Int32) = 0 then (k_Law_law_831 x3 M34 J34) else (rZ 0 M34 J34)))))) := (mDen_eq PG 300 (196, 498, [some (.ref 1000), some (.ref 0), some (.ref 46), some (.int x3)], [], SH, M, J, 0, 0)).symm.trans rfl
set_option maxRecDepth 20000 in
theorem e_Law_law_491 (x3 : Int32) (M : mMI) (J : mMJ) : k_Law_law_491 x3 M J = (mBI (k_Pot_leader M J) (fun v35 M35 J35 => (mBI (k_Model_leader M35 J35) (fun v36 M36 J36 => (if (v35 : Int32) = v36 then (k_Law_law_831 x3 M36 J36) else (rZ 0 M36 J36)))))) := (mDen_eq PG 300 (196, 491, [some (.ref 1000), some (.ref 0), some (.ref 46), some (.int x3)], [], SH, M, J, 0, 0)).symm.trans rfl
set_option maxRecDepth 20000 in
theorem e_Law_law_464 (x3 : Int32) (M : mMI) (J : mMJ) : k_Law_law_464 x3 M J = (if mIn (x3 + 1) (M 999 0).toNatClampNeg then (if mIn (x3 + 2) (M 999 0).toNatClampNeg then (mBI (k_Pot_least (M 1000 (x3 + 1).toNatClampNeg) (M 1000 (x3 + 2).toNatClampNeg) M J) (fun v37 M37 J37 => (if mIn (x3 + 1) (M37 999 0).toNatClampNeg then (if mIn (x3 + 2) (M37 999 0).toNatClampNeg then (mBI (k_Model_least (M37 1000 (x3 + 1).toNatClampNeg) (M37 1000 (x3 + 2).toNatClampNeg) M37 J37) (fun v38 M38 J38 => (if (v37 : Int32) = v38 then (k_Law_law_831 x3 M38 J38) else (rZ 0 M38 J38)))) else none) else none))) else none) else none) := (mDen_eq PG 300 (196, 464, [some (.ref 1000), some (.ref 0), some (.ref 46), some (.int x3)], [], SH, M, J, 0, 0)).symm.trans rfl
set_option maxRecDepth 20000 in
theorem e_Law_law_447 (x3 : Int32) (M : mMI) (J : mMJ) : k_Law_law_447 x3 M J = (if mIn (x3 + 1) (M 999 0).toNatClampNeg then (mBI (k_Pot_vote (M 1000 (x3 + 1).toNatClampNeg) M J) (fun v39 M39 J39 => (if mIn (x3 + 1) (M39 999 0).toNatClampNeg then (mBI (k_Model_vote (M39 1000 (x3 + 1).toNatClampNeg) M39 J39) (fun v40 M40 J40 => (if (v39 : Int32) = v40 then (k_Law_law_831 x3 M40 J40) else (rZ 0 M40 J40)))) else none))) else none) := (mDen_eq PG 300 (196, 447, [some (.ref 1000), some (.ref 0), some (.ref 46), some (.int x3)], [], SH, M, J, 0, 0)).symm.trans rfl
set_option maxRecDepth 20000 in
theorem e_Law_law_440 (x3 : Int32) (M : mMI) (J : mMJ) : k_Law_law_440 x3 M J = (mBI (k_Pot_pays M J) (fun v41 M41 J41 => (mBI (k_Model_pays M41 J41) (fun v42 M42 J42 => (if (v41 : Int32) = v42 then (k_Law_law_831 x3 M42 J42) else (rZ 0 M42 J42)))))) := (mDen_eq PG 300 (196, 440, [some (.ref 1000), some (.ref 0), some (.ref 46), some (.int x3)], [], SH, M, J, 0, 0)).symm.trans rfl
set_option maxRecDepth 20000 in
theorem e_Law_law_433 (x3 : Int32) (M : mMI) (J : mMJ) : k_Law_law_433 x3 M J = (mBI (k_Pot_fall M J) (fun v43 M43 J43 => (mBI (k_Model_fall M43 J43) (fun v44 M44 J44 => (if (v43 : Int32) = v44 then (k_Law_law_831 x3 M44 J44) else (rZ 0 M44 J44)))))) := (mDen_eq PG 300 (196, 433, [some (.ref 1000), some (.ref 0), some (.ref 46), some (.int x3)], [], SH, M, J, 0, 0)).symm.trans rfl
set_option maxRecDepth 20000 in
theorem e_Law_law_406 (x3 : Int32) (M : mMI) (J : mMJ) : k_Law_law_406 x3 M J = (if mIn (x3 + 1) (M 999 0).toNatClampNeg then (if mIn (x3 + 2) (M 999 0).toNatClampNeg then (mBI (k_Pot_lost (M 1000 (x3 + 1).toNatClampNeg) (M 1000 (x3 + 2).toNatClampNeg) M J) (fun v45 M45 J45 => (if mIn (x3 + 1) (M45 999 0).toNatClampNeg then (if mIn (x3 + 2) (M45 999 0).toNatClampNeg then (mBI (k_Model_lost (M45 1000 (x3 + 1).toNatClampNeg) (M45 1000 (x3 + 2).toNatClampNeg) M45 J45) (fun v46 M46 J46 => (if (v45 : Int32) = v46 then (k_Law_law_831 x3 M46 J46) else (rZ 0 M46 J46)))) else none) else none))) else none) else none) := (mDen_eq PG 300 (196, 406, [some (.ref 1000), some (.ref 0), some (.ref 46), some (.int x3)], [], SH, M, J, 0, 0)).symm.trans rfl
set_option maxRecDepth 20000 in
theorem e_Law_law_370 (x3 : Int32) (M : mMI) (J : mMJ) : k_Law_law_370 x3 M J = (if mIn (x3 + 1) (M 999 0).toNatClampNeg then (if mIn (x3 + 2) (M 999 0).toNatClampNeg then (if ((M 1000 (x3 + 2).toNatClampNeg) : Int32) = 0 then (mBJ (k_Pot_all (M 1000 (x3 + 1).toNatClampNeg) 0 M J) (fun v47 M47 J47 => (if mIn (x3 + 1) (M47 999 0).toNatClampNeg then (if mIn (x3 + 2) (M47 999 0).toNatClampNeg then (if ((M47 1000 (x3 + 2).toNatClampNeg) : Int32) = 0 then (k_Law_law_401 x3 v47 (M47 1000 (x3 + 1).toNatClampNeg) 0 M47 J47) else (k_Law_law_401 x3 v47 (M47 1000 (x3 + 1).toNatClampNeg) 1 M47 J47)) else none) else none))) else (mBJ (k_Pot_all (M 1000 (x3 + 1).toNatClampNeg) 1 M J) (fun v48 M48 J48 => (if mIn (x3 + 1) (M48 999 0).toNatClampNeg then (if mIn (x3 + 2) (M48 999 0).toNatClampNeg then (if ((M48 1000 (x3 + 2).toNatClampNeg) : Int32) = 0 then (k_Law_law_401 x3 v48 (M48 1000 (x3 + 1).toNatClampNeg) 0 M48 J48) else (k_Law_law_401 x3 v48 (M48 1000 (x3 + 1).toNatClampNeg) 1 M48 J48)) else none) else none)))) else none) else none) := (mDen_eq PG 300 (196, 370, [some (.ref 1000), some (.ref 0), some (.ref 46), some (.int x3)], [], SH, M, J, 0, 0)).symm.trans rfl
set_option maxRecDepth 20000 in
theorem e_Law_law_342 (x3 : Int32) (M : mMI) (J : mMJ) : k_Law_law_342 x3 M J = (if mIn (x3 + 1) (M 999 0).toNatClampNeg then (if mIn (x3 + 2) (M 999 0).toNatClampNeg then (mBJ (k_Pot_holds (M 1000 (x3 + 1).toNatClampNeg) (M 1000 (x3 + 2).toNatClampNeg) M J) (fun v49 M49 J49 => (if mIn (x3 + 1) (M49 999 0).toNatClampNeg then (if mIn (x3 + 2) (M49 999 0).toNatClampNeg then (mBJ (k_Model_holds (M49 1000 (x3 + 1).toNatClampNeg) (M49 1000 (x3 + 2).toNatClampNeg) M49 J49) (fun v50 M50 J50 => (if ((lg_cmp v49 v50) : Int32) = 0 then (k_Law_law_831 x3 M50 J50) else (rZ 0 M50 J50)))) else none) else none))) else none) else none) := (mDen_eq PG 300 (196, 342, [some (.ref 1000), some (.ref 0), some (.ref 46), some (.int x3)], [], SH, M, J, 0, 0)).symm.trans rfl
set_option maxRecDepth 20000 in
theorem e_Law_law_325 (x3 : Int32) (M : mMI) (J : mMJ) : k_Law_law_325 x3 M J = (if mIn (x3 + 1) (M 999 0).toNatClampNeg then (mBI (k_Pot_here (M 1000 (x3 + 1).toNatClampNeg) M J) (fun v51 M51 J51 => (if mIn (x3 + 1) (M51 999 0).toNatClampNeg then (mBI (k_Model_here (M51 1000 (x3 + 1).toNatClampNeg) M51 J51) (fun v52 M52 J52 => (if (v51 : Int32) = v52 then (k_Law_law_831 x3 M52 J52) else (rZ 0 M52 J52)))) else none))) else none) := (mDen_eq PG 300 (196, 325, [some (.ref 1000), some (.ref 0), some (.ref 46), some (.int x3)], [], SH, M, J, 0, 0)).symm.trans rfl
set_option maxRecDepth 20000 in
theorem e_Law_law_308 (x3 : Int32) (M : mMI) (J : mMJ) : k_Law_law_308 x3 M J = (if mIn (x3 + 1) (M 999 0).toNatClampNeg then (mBI (k_Pot_pot (M 1000 (x3 + 1).toNatClampNeg) M J) (fun v53 M53 J53 => (if mIn (x3 + 1) (M53 999 0).toNatClampNeg then (mBI (k_Model_pot (M53 1000 (x3 + 1).toNatClampNeg) M53 J53) (fun v54 M54 J54 => (if (v53 : Int32) = v54 then (k_Law_law_831 x3 M54 J54) else (rZ 0 M54 J54)))) else none))) else none) := (mDen_eq PG 300 (196, 308, [some (.ref 1000), some (.ref 0), some (.ref 46), some (.int x3)], [], SH, M, J, 0, 0)).symm.trans rfl
set_option maxRecDepth 20000 in
theorem e_Law_law_271 (x3 : Int32) (M : mMI) (J : mMJ) : k_Law_law_271 x3 M J = (if mIn (x3 + 1) (M 999 0).toNatClampNeg then (if mIn (x3 + 2) (M 999 0).toNatClampNeg then (if mIn (x3 + 3) (M 999 0).toNatClampNeg then (mBI (k_Pot_paid (M 1000 (x3 + 1).toNatClampNeg) (M 1000 (x3 + 2).toNatClampNeg) (M 1000 (x3 + 3).toNatClampNeg) M J) (fun v55 M55 J55 => (if mIn (x3 + 1) (M55 999 0).toNatClampNeg then (if mIn (x3 + 2) (M55 999 0).toNatClampNeg then (if mIn (x3 + 3) (M55 999 0).toNatClampNeg then (mBI (k_Model_paid (M55 1000 (x3 + 1).toNatClampNeg) (M55 1000 (x3 + 2).toNatClampNeg) (M55 1000 (x3 + 3).toNatClampNeg) M55 J55) (fun v56 M56 J56 => (if (v55 : Int32) = v56 then (k_Law_law_831 x3 M56 J56) else (rZ 0 M56 J56)))) else none) else none) else none))) else none) else none) else none) := (mDen_eq PG 300 (196, 271, [some (.ref 1000), some (.ref 0), some (.ref 46), some (.int x3)], [], SH, M, J, 0, 0)).symm.trans rfl
set_option maxRecDepth 20000 in
theorem e_Law_law_244 (x3 : Int32) (M : mMI) (J : mMJ) : k_Law_law_244 x3 M J = (if mIn (x3 + 1) (M 999 0).toNatClampNeg then (if mIn (x3 + 2) (M 999 0).toNatClampNeg then (mBI (k_Pot_put (M 1000 (x3 + 1).toNatClampNeg) (M 1000 (x3 + 2).toNatClampNeg) M J) (fun v57 M57 J57 => (if mIn (x3 + 1) (M57 999 0).toNatClampNeg then (if mIn (x3 + 2) (M57 999 0).toNatClampNeg then (mBI (k_Model_put (M57 1000 (x3 + 1).toNatClampNeg) (M57 1000 (x3 + 2).toNatClampNeg) M57 J57) (fun v58 M58 J58 => (if (v57 : Int32) = v58 then (k_Law_law_831 x3 M58 J58) else (rZ 0 M58 J58)))) else none) else none))) else none) else none) := (mDen_eq PG 300 (196, 244, [some (.ref 1000), some (.ref 0), some (.ref 46), some (.int x3)], [], SH, M, J, 0, 0)).symm.trans rfl
set_option maxRecDepth 20000 in
theorem e_Law_law_227 (x3 : Int32) (M : mMI) (J : mMJ) : k_Law_law_227 x3 M J = (if mIn (x3 + 1) (M 999 0).toNatClampNeg then (mBI (k_Pot_fine (M 1000 (x3 + 1).toNatClampNeg) M J) (fun v59 M59 J59 => (if mIn (x3 + 1) (M59 999 0).toNatClampNeg then (mBI (k_Model_fine (M59 1000 (x3 + 1).toNatClampNeg) M59 J59) (fun v60 M60 J60 => (if (v59 : Int32) = v60 then (k_Law_law_831 x3 M60 J60) else (rZ 0 M60 J60)))) else none))) else none) := (mDen_eq PG 300 (196, 227, [some (.ref 1000), some (.ref 0), some (.ref 46), some (.int x3)], [], SH, M, J, 0, 0)).symm.trans rfl
set_option maxRecDepth 20000 in
theorem e_Law_law_200 (x3 : Int32) (M : mMI) (J : mMJ) : k_Law_law_200 x3 M J = (if mIn (x3 + 1) (M 999 0).toNatClampNeg then (if mIn (x3 + 2) (M 999 0).toNatClampNeg then (mBI (k_Pot_send (M 1000 (x3 + 1).toNatClampNeg) (M 1000 (x3 + 2).toNatClampNeg) M J) (fun v61 M61 J61 => (if mIn (x3 + 1) (M61 999 0).toNatClampNeg then (if mIn (x3 + 2) (M61 999 0).toNatClampNeg then (mBI (k_Model_send (M61 1000 (x3 + 1).toNatClampNeg) (M61 1000 (x3 + 2).toNatClampNeg) M61 J61) (fun v62 M62 J62 => (if (v61 : Int32) = v62 then (k_Law_law_831 x3 M62 J62) else (rZ 0 M62 J62)))) else none) else none))) else none) else none) := (mDen_eq PG 300 (196, 200, [some (.ref 1000), some (.ref 0), some (.ref 46), some (.int x3)], [], SH, M, J, 0, 0)).symm.trans rfl
set_option maxRecDepth 20000 in
theorem e_Law_law_163 (x3 : Int32) (M : mMI) (J : mMJ) : k_Law_law_163 x3 M J = (if mIn (x3 + 1) (M 999 0).toNatClampNeg then (if mIn (x3 + 2) (M 999 0).toNatClampNeg then (if mIn (x3 + 3) (M 999 0).toNatClampNeg then (mBI (k_Pot_tell (M 1000 (x3 + 1).toNatClampNeg) (M 1000 (x3 + 2).toNatClampNeg) (M 1000 (x3 + 3).toNatClampNeg) M J) (fun v63 M63 J63 => (if mIn (x3 + 1) (M63 999 0).toNatClampNeg then (if mIn (x3 + 2) (M63 999 0).toNatClampNeg then (if mIn (x3 + 3) (M63 999 0).toNatClampNeg then (mBI (k_Model_tell (M63 1000 (x3 + 1).toNatClampNeg) (M63 1000 (x3 + 2).toNatClampNeg) (M63 1000 (x3 + 3).toNatClampNeg) M63 J63) (fun v64 M64 J64 => (if (v63 : Int32) = v64 then (k_Law_law_831 x3 M64 J64) else (rZ 0 M64 J64)))) else none) else none) else none))) else none) else none) else none) := (mDen_eq PG 300 (196, 163, [some (.ref 1000), some (.ref 0), some (.ref 46), some (.int x3)], [], SH, M, J, 0, 0)).symm.trans rfl
set_option maxRecDepth 20000 in
theorem e_Law_law_136 (x3 : Int32) (M : mMI) (J : mMJ) : k_Law_law_136 x3 M J = (if mIn (x3 + 1) (M 999 0).toNatClampNeg then (if mIn (x3 + 2) (M 999 0).toNatClampNeg then (mBI (k_Pot_person (M 1000 (x3 + 1).toNatClampNeg) (M 1000 (x3 + 2).toNatClampNeg) M J) (fun v65 M65 J65 => (if mIn (x3 + 1) (M65 999 0).toNatClampNeg then (if mIn (x3 + 2) (M65 999 0).toNatClampNeg then (mBI (k_Model_person (M65 1000 (x3 + 1).toNatClampNeg) (M65 1000 (x3 + 2).toNatClampNeg) M65 J65) (fun v66 M66 J66 => (if (v65 : Int32) = v66 then (k_Law_law_831 x3 M66 J66) else (rZ 0 M66 J66)))) else none) else none))) else none) else none) := (mDen_eq PG 300 (196, 136, [some (.ref 1000), some (.ref 0), some (.ref 46), some (.int x3)], [], SH, M, J, 0, 0)).symm.trans rfl
set_option maxRecDepth 20000 in
theorem e_Law_law_119 (x3 : Int32) (M : mMI) (J : mMJ) : k_Law_law_119 x3 M J = (if mIn (x3 + 1) (M 999 0).toNatClampNeg then (mBI (k_Pot_ruled (M 1000 (x3 + 1).toNatClampNeg) M J) (fun v67 M67 J67 => (if mIn (x3 + 1) (M67 999 0).toNatClampNeg then (mBI (k_Model_ruled (M67 1000 (x3 + 1).toNatClampNeg) M67 J67) (fun v68 M68 J68 => (if (v67 : Int32) = v68 then (k_Law_law_831 x3 M68 J68) else (rZ 0 M68 J68)))) else none))) else none) := (mDen_eq PG 300 (196, 119, [some (.ref 1000), some (.ref 0), some (.ref 46), some (.int x3)], [], SH, M, J, 0, 0)).symm.trans rfl
set_option maxRecDepth 20000 in
theorem e_Law_law_112 (x3 : Int32) (M : mMI) (J : mMJ) : k_Law_law_112 x3 M J = (mBI (k_Pot_group M J) (fun v69 M69 J69 => (mBI (k_Model_group M69 J69) (fun v70 M70 J70 => (if (v69 : Int32) = v70 then (k_Law_law_831 x3 M70 J70) else (rZ 0 M70 J70)))))) := (mDen_eq PG 300 (196, 112, [some (.ref 1000), some (.ref 0), some (.ref 46), some (.int x3)], [], SH, M, J, 0, 0)).symm.trans rfl
set_option maxRecDepth 20000 in
theorem e_Law_law_105 (x3 : Int32) (M : mMI) (J : mMJ) : k_Law_law_105 x3 M J = (mBI (k_Pot_rule M J) (fun v71 M71 J71 => (mBI (k_Model_rule M71 J71) (fun v72 M72 J72 => (if (v71 : Int32) = v72 then (k_Law_law_831 x3 M72 J72) else (rZ 0 M72 J72)))))) := (mDen_eq PG 300 (196, 105, [some (.ref 1000), some (.ref 0), some (.ref 46), some (.int x3)], [], SH, M, J, 0, 0)).symm.trans rfl
set_option maxRecDepth 20000 in
theorem e_Law_law_80 (x3 : Int32) (M : mMI) (J : mMJ) : k_Law_law_80 x3 M J = (if mIn (x3 + 1) (M 999 0).toNatClampNeg then (if ((M 1000 (x3 + 1).toNatClampNeg) : Int32) = 0 then (mBI (k_Pot_fault 0 M J) (fun v73 M73 J73 => (if mIn (x3 + 1) (M73 999 0).toNatClampNeg then (if ((M73 1000 (x3 + 1).toNatClampNeg) : Int32) = 0 then (k_Law_law_101 x3 v73 0 M73 J73) else (k_Law_law_101 x3 v73 1 M73 J73)) else none))) else (mBI (k_Pot_fault 1 M J) (fun v74 M74 J74 => (if mIn (x3 + 1) (M74 999 0).toNatClampNeg then (if ((M74 1000 (x3 + 1).toNatClampNeg) : Int32) = 0 then (k_Law_law_101 x3 v74 0 M74 J74) else (k_Law_law_101 x3 v74 1 M74 J74)) else none)))) else none) := (mDen_eq PG 300 (196, 80, [some (.ref 1000), some (.ref 0), some (.ref 46), some (.int x3)], [], SH, M, J, 0, 0)).symm.trans rfl
set_option maxRecDepth 20000 in
theorem e_Law_law_73 (x3 : Int32) (M : mMI) (J : mMJ) : k_Law_law_73 x3 M J = (mBI (k_Pot_wipe M J) (fun v75 M75 J75 => (mBI (k_Model_wipe M75 J75) (fun v76 M76 J76 => (if (v75 : Int32) = v76 then (k_Law_law_831 x3 M76 J76) else (rZ 0 M76 J76)))))) := (mDen_eq PG 300 (196, 73, [some (.ref 1000), some (.ref 0), some (.ref 46), some (.int x3)], [], SH, M, J, 0, 0)).symm.trans rfl
set_option maxRecDepth 20000 in
theorem e_Law_law_22 (x3 : Int32) (M : mMI) (J : mMJ) : k_Law_law_22 x3 M J = (if mIn (x3 + 1) (M 999 0).toNatClampNeg then (if mIn (x3 + 2) (M 999 0).toNatClampNeg then (if mIn (x3 + 3) (M 999 0).toNatClampNeg then (mBI (k_Pot_write (M 1000 (x3 + 1).toNatClampNeg) ((((M 1000 (x3 + 2).toNatClampNeg).toInt64) <<< ((32 : Int32).toInt64 &&& 63)) ||| (((M 1000 (x3 + 3).toNatClampNeg).toInt64) &&& 4294967295)) M J) (fun v77 M77 J77 => (if mIn (x3 + 1) (M77 999 0).toNatClampNeg then (if mIn (x3 + 2) (M77 999 0).toNatClampNeg then (if mIn (x3 + 3) (M77 999 0).toNatClampNeg then (mBI (k_Model_write (M77 1000 (x3 + 1).toNatClampNeg) ((((M77 1000 (x3 + 2).toNatClampNeg).toInt64) <<< ((32 : Int32).toInt64 &&& 63)) ||| (((M77 1000 (x3 + 3).toNatClampNeg).toInt64) &&& 4294967295)) M77 J77) (fun v78 M78 J78 => (if (v77 : Int32) = v78 then (k_Law_law_831 x3 M78 J78) else (rZ 0 M78 J78)))) else none) else none) else none))) else none) else none) else none) := (mDen_eq PG 300 (196, 22, [some (.ref 1000), some (.ref 0), some (.ref 46), some (.int x3)], [], SH, M, J, 0, 0)).symm.trans rfl
set_option maxRecDepth 20000 in
theorem e_Law_law_401 (x3 : Int32) (y0 : Int64) (y2 : Int32) (y3 : Int32) (M : mMI) (J : mMJ) : k_Law_law_401 x3 y0 y2 y3 M J = (mBJ (k_Model_all y2 y3 M J) (fun v79 M79 J79 => (if ((lg_cmp y0 v79) : Int32) = 0 then (k_Law_law_831 x3 M79 J79) else (rZ 0 M79 J79)))) := (mDen_eq PG 300 (196, 401, [some (.ref 1000), some (.ref 0), some (.ref 46), some (.int x3)], [(.int y3), (.int y2), (.ref 46), (.long y0)], SH, M, J, 0, 0)).symm.trans rfl
set_option maxRecDepth 20000 in
theorem e_Law_law_101 (x3 : Int32) (y0 : Int32) (y2 : Int32) (M : mMI) (J : mMJ) : k_Law_law_101 x3 y0 y2 M J = (mBI (k_Model_fault y2 M J) (fun v80 M80 J80 => (if (y0 : Int32) = v80 then (k_Law_law_831 x3 M80 J80) else (rZ 0 M80 J80)))) := (mDen_eq PG 300 (196, 101, [some (.ref 1000), some (.ref 0), some (.ref 46), some (.int x3)], [(.int y2), (.ref 46), (.int y0)], SH, M, J, 0, 0)).symm.trans rfl
end
section
theorem zz_trivial : True := trivial
end
